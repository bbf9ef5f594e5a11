/-! the model object at 152, its arrays behind it: four ints, three longs, nine int arrays (the flags among them), the means -/
abbrev Ms : Type := (Nat → Int32) × (Nat → Int64) × (Nat → Nat → Int32) × (Nat → Int64)
def mOb (s : Ms) : aC := .inr (6, [.int (s.1 0), .ref 153, .ref 154, .ref 155, .int (s.1 1), .ref 156, .int (s.1 2), .int (s.1 3), .ref 157, .ref 158, .long (s.2.1 0), .long (s.2.1 1), .ref 159, .ref 160, .long (s.2.1 2), .ref 161, .ref 162])
def mCell (s : Ms) : Nat → aC
  | 0 => mOb s
  | 1 => .inl (.int, 4, fun j => .int (s.2.2.1 0 j))
  | 2 => .inl (.int, 4, fun j => .int (s.2.2.1 1 j))
  | 3 => .inl (.int, 16, fun j => .int (s.2.2.1 2 j))
  | 4 => .inl (.int, 60, fun j => .int (s.2.2.1 3 j))
  | 5 => .inl (.int, 480, fun j => .int (s.2.2.1 4 j))
  | 6 => .inl (.long, 1200, fun j => .long (s.2.2.2 j))
  | 7 => .inl (.int, 420, fun j => .int (s.2.2.1 5 j))
  | 8 => .inl (.int, 420, fun j => .int (s.2.2.1 6 j))
  | 9 => .inl (.boolean, 2, fun j => .int (s.2.2.1 7 j))
  | _ => .inl (.int, 60, fun j => .int (s.2.2.1 8 j))
def mOv (h : Hp) (s : Ms) : Hp := fun a => if 152 ≤ a ∧ a < 163 then some (mCell s (a - 152)) else h a
theorem mOv_in (h : Hp) (s : Ms) (i : Nat) (hi : i < 11) : mOv h s (152 + i) = some (mCell s i) := by
  unfold mOv
  rw [if_pos ⟨by omega, by omega⟩, show 152 + i - 152 = i by omega]
theorem mOv_out (h : Hp) (s : Ms) {a : Nat} (ha : a < 152 ∨ 163 ≤ a) : mOv h s a = h a := by
  unfold mOv
  rw [if_neg (by omega)]
theorem mOv_set (h : Hp) (s s' : Ms) (i : Nat) (hi : i < 11) {e : aC} (he : e = mCell s' i) (ho : ∀ j, j < 11 → j ≠ i → mCell s' j = mCell s j) : hset (mOv h s) (152 + i) e = mOv h s' := by
  subst he
  funext a
  by_cases ha : a = 152 + i
  · subst ha; rw [hset_eq, mOv_in h s' i hi]
  · rw [hset_ne _ _ ha]
    unfold mOv
    by_cases g : 152 ≤ a ∧ a < 163
    · rw [if_pos g, if_pos g, ho (a - 152) (by omega) (by omega)]
    · rw [if_neg g, if_neg g]
def upL (f : Nat → Int64) (p : Nat) (v : Int64) : Nat → Int64 := fun j => if j = p then v else f j
def upA (A : Nat → Nat → Int32) (k p : Nat) (v : Int32) : Nat → Nat → Int32 := fun j => if j = k then upd (A k) p v else A j
theorem mOv_obj (h : Hp) (s : Ms) : mOv h s 152 = some (mOb s) := mOv_in h s 0 (by omega)
theorem r_mthrowers {M : MD} {d mc ms pc pc' z k n : Nat} {Q : Option Value → Hp → Nat → Prop} {L S : List Value} {h : Hp} {I : Nat → Int32} {J : Nat → Int64} {A : Nat → Nat → Int32} {me : Nat → Int64} {idx : Nat} {v : Int32} (hi : Ins M pc (.putfield idx) 3 pc') (hl : FP M idx 6 0 .int) (K : R M d mc ms Q pc' L S (mOv h (upd I 0 v, J, A, me)) z k n) : R M d mc ms Q pc L (.int v :: .ref 152 :: S) (mOv h (I, J, A, me)) z k n := by
  refine r_putfield hi hl (by omega) (mOv_obj _ _) (Nat.le_of_ble_eq_true rfl) ⟨rfl, rfl⟩ ?_
  have e := mOv_set h (I, J, A, me) (upd I 0 v, J, A, me) 0 (by omega) rfl (fun j hj hn => match j, hj, hn with
    | 0, _, hn => absurd rfl hn
    | 1, _, hn => rfl
    | 2, _, hn => rfl
    | 3, _, hn => rfl
    | 4, _, hn => rfl
    | 5, _, hn => rfl
    | 6, _, hn => rfl
    | 7, _, hn => rfl
    | 8, _, hn => rfl
    | 9, _, hn => rfl
    | 10, _, hn => rfl)
  exact R_heap e K
theorem r_mlength {M : MD} {d mc ms pc pc' z k n : Nat} {Q : Option Value → Hp → Nat → Prop} {L S : List Value} {h : Hp} {I : Nat → Int32} {J : Nat → Int64} {A : Nat → Nat → Int32} {me : Nat → Int64} {idx : Nat} {v : Int32} (hi : Ins M pc (.putfield idx) 3 pc') (hl : FP M idx 6 4 .int) (K : R M d mc ms Q pc' L S (mOv h (upd I 1 v, J, A, me)) z k n) : R M d mc ms Q pc L (.int v :: .ref 152 :: S) (mOv h (I, J, A, me)) z k n := by
  refine r_putfield hi hl (by omega) (mOv_obj _ _) (Nat.le_of_ble_eq_true rfl) ⟨rfl, rfl⟩ ?_
  have e := mOv_set h (I, J, A, me) (upd I 1 v, J, A, me) 0 (by omega) rfl (fun j hj hn => match j, hj, hn with
    | 0, _, hn => absurd rfl hn
    | 1, _, hn => rfl
    | 2, _, hn => rfl
    | 3, _, hn => rfl
    | 4, _, hn => rfl
    | 5, _, hn => rfl
    | 6, _, hn => rfl
    | 7, _, hn => rfl
    | 8, _, hn => rfl
    | 9, _, hn => rfl
    | 10, _, hn => rfl)
  exact R_heap e K
theorem r_macts {M : MD} {d mc ms pc pc' z k n : Nat} {Q : Option Value → Hp → Nat → Prop} {L S : List Value} {h : Hp} {I : Nat → Int32} {J : Nat → Int64} {A : Nat → Nat → Int32} {me : Nat → Int64} {idx : Nat} {v : Int32} (hi : Ins M pc (.putfield idx) 3 pc') (hl : FP M idx 6 6 .int) (K : R M d mc ms Q pc' L S (mOv h (upd I 2 v, J, A, me)) z k n) : R M d mc ms Q pc L (.int v :: .ref 152 :: S) (mOv h (I, J, A, me)) z k n := by
  refine r_putfield hi hl (by omega) (mOv_obj _ _) (Nat.le_of_ble_eq_true rfl) ⟨rfl, rfl⟩ ?_
  have e := mOv_set h (I, J, A, me) (upd I 2 v, J, A, me) 0 (by omega) rfl (fun j hj hn => match j, hj, hn with
    | 0, _, hn => absurd rfl hn
    | 1, _, hn => rfl
    | 2, _, hn => rfl
    | 3, _, hn => rfl
    | 4, _, hn => rfl
    | 5, _, hn => rfl
    | 6, _, hn => rfl
    | 7, _, hn => rfl
    | 8, _, hn => rfl
    | 9, _, hn => rfl
    | 10, _, hn => rfl)
  exact R_heap e K
theorem r_mnext {M : MD} {d mc ms pc pc' z k n : Nat} {Q : Option Value → Hp → Nat → Prop} {L S : List Value} {h : Hp} {I : Nat → Int32} {J : Nat → Int64} {A : Nat → Nat → Int32} {me : Nat → Int64} {idx : Nat} {v : Int32} (hi : Ins M pc (.putfield idx) 3 pc') (hl : FP M idx 6 7 .int) (K : R M d mc ms Q pc' L S (mOv h (upd I 3 v, J, A, me)) z k n) : R M d mc ms Q pc L (.int v :: .ref 152 :: S) (mOv h (I, J, A, me)) z k n := by
  refine r_putfield hi hl (by omega) (mOv_obj _ _) (Nat.le_of_ble_eq_true rfl) ⟨rfl, rfl⟩ ?_
  have e := mOv_set h (I, J, A, me) (upd I 3 v, J, A, me) 0 (by omega) rfl (fun j hj hn => match j, hj, hn with
    | 0, _, hn => absurd rfl hn
    | 1, _, hn => rfl
    | 2, _, hn => rfl
    | 3, _, hn => rfl
    | 4, _, hn => rfl
    | 5, _, hn => rfl
    | 6, _, hn => rfl
    | 7, _, hn => rfl
    | 8, _, hn => rfl
    | 9, _, hn => rfl
    | 10, _, hn => rfl)
  exact R_heap e K
theorem r_mtried {M : MD} {d mc ms pc pc' z k n : Nat} {Q : Option Value → Hp → Nat → Prop} {L S : List Value} {h : Hp} {I : Nat → Int32} {J : Nat → Int64} {A : Nat → Nat → Int32} {me : Nat → Int64} {idx : Nat} {v : Int64} (hi : Ins M pc (.putfield idx) 3 pc') (hl : FP M idx 6 10 .long) (K : R M d mc ms Q pc' L S (mOv h (I, upL J 0 v, A, me)) z k n) : R M d mc ms Q pc L (.long v :: .ref 152 :: S) (mOv h (I, J, A, me)) z k n := by
  refine r_putfield hi hl (by omega) (mOv_obj _ _) (Nat.le_of_ble_eq_true rfl) ⟨rfl, rfl⟩ ?_
  have e := mOv_set h (I, J, A, me) (I, upL J 0 v, A, me) 0 (by omega) rfl (fun j hj hn => match j, hj, hn with
    | 0, _, hn => absurd rfl hn
    | 1, _, hn => rfl
    | 2, _, hn => rfl
    | 3, _, hn => rfl
    | 4, _, hn => rfl
    | 5, _, hn => rfl
    | 6, _, hn => rfl
    | 7, _, hn => rfl
    | 8, _, hn => rfl
    | 9, _, hn => rfl
    | 10, _, hn => rfl)
  exact R_heap e K
theorem r_mspared {M : MD} {d mc ms pc pc' z k n : Nat} {Q : Option Value → Hp → Nat → Prop} {L S : List Value} {h : Hp} {I : Nat → Int32} {J : Nat → Int64} {A : Nat → Nat → Int32} {me : Nat → Int64} {idx : Nat} {v : Int64} (hi : Ins M pc (.putfield idx) 3 pc') (hl : FP M idx 6 11 .long) (K : R M d mc ms Q pc' L S (mOv h (I, upL J 1 v, A, me)) z k n) : R M d mc ms Q pc L (.long v :: .ref 152 :: S) (mOv h (I, J, A, me)) z k n := by
  refine r_putfield hi hl (by omega) (mOv_obj _ _) (Nat.le_of_ble_eq_true rfl) ⟨rfl, rfl⟩ ?_
  have e := mOv_set h (I, J, A, me) (I, upL J 1 v, A, me) 0 (by omega) rfl (fun j hj hn => match j, hj, hn with
    | 0, _, hn => absurd rfl hn
    | 1, _, hn => rfl
    | 2, _, hn => rfl
    | 3, _, hn => rfl
    | 4, _, hn => rfl
    | 5, _, hn => rfl
    | 6, _, hn => rfl
    | 7, _, hn => rfl
    | 8, _, hn => rfl
    | 9, _, hn => rfl
    | 10, _, hn => rfl)
  exact R_heap e K
theorem r_mseed {M : MD} {d mc ms pc pc' z k n : Nat} {Q : Option Value → Hp → Nat → Prop} {L S : List Value} {h : Hp} {I : Nat → Int32} {J : Nat → Int64} {A : Nat → Nat → Int32} {me : Nat → Int64} {idx : Nat} {v : Int64} (hi : Ins M pc (.putfield idx) 3 pc') (hl : FP M idx 6 14 .long) (K : R M d mc ms Q pc' L S (mOv h (I, upL J 2 v, A, me)) z k n) : R M d mc ms Q pc L (.long v :: .ref 152 :: S) (mOv h (I, J, A, me)) z k n := by
  refine r_putfield hi hl (by omega) (mOv_obj _ _) (Nat.le_of_ble_eq_true rfl) ⟨rfl, rfl⟩ ?_
  have e := mOv_set h (I, J, A, me) (I, upL J 2 v, A, me) 0 (by omega) rfl (fun j hj hn => match j, hj, hn with
    | 0, _, hn => absurd rfl hn
    | 1, _, hn => rfl
    | 2, _, hn => rfl
    | 3, _, hn => rfl
    | 4, _, hn => rfl
    | 5, _, hn => rfl
    | 6, _, hn => rfl
    | 7, _, hn => rfl
    | 8, _, hn => rfl
    | 9, _, hn => rfl
    | 10, _, hn => rfl)
  exact R_heap e K
theorem r_ld0 {M : MD} {d mc ms pc pc' z k n : Nat} {Q : Option Value → Hp → Nat → Prop} {L S : List Value} {h : Hp} {I : Nat → Int32} {J : Nat → Int64} {A : Nat → Nat → Int32} {me : Nat → Int64} {x : Int32} {p : Nat} (hi : Ins M pc .iaload 1 pc') (hx : x = nI p) (hp : p < 4) (K : R M d mc ms Q pc' L (.int (A 0 p) :: S) (mOv h (I, J, A, me)) z k n) : R M d mc ms Q pc L (.int x :: .ref 153 :: S) (mOv h (I, J, A, me)) z k n := by
  subst hx
  exact r_iaload hi (mOv_in h (I, J, A, me) 1 (by omega)) (vp_in_nI hp (by decide)) (nI_at (B := A 0) (by omega)) K
theorem r_st0 {M : MD} {d mc ms pc pc' z k n : Nat} {Q : Option Value → Hp → Nat → Prop} {L S : List Value} {h : Hp} {I : Nat → Int32} {J : Nat → Int64} {A : Nat → Nat → Int32} {me : Nat → Int64} {x v : Int32} {p : Nat} (hi : Ins M pc .iastore 1 pc') (hx : x = nI p) (hp : p < 4) (K : R M d mc ms Q pc' L S (mOv h (I, J, upA A 0 p v, me)) z k n) : R M d mc ms Q pc L (.int v :: .int x :: .ref 153 :: S) (mOv h (I, J, A, me)) z k n := by
  subst hx
  refine r_iastore hi (by omega) (mOv_in h (I, J, A, me) 1 (by omega)) (vp_in_nI hp (by decide)) ?_
  have e0 : (.inl (.int, 4, updV (fun j => .int (A 0 j)) (nI p).toNatClampNeg (.int v)) : aC) = mCell (I, J, upA A 0 p v, me) 1 := by
    rw [nI_clamp (by omega), updV_int]; rfl
  have e := mOv_set h (I, J, A, me) (I, J, upA A 0 p v, me) 1 (by omega) e0 (fun j hj hn => match j, hj, hn with
    | 0, _, hn => rfl
    | 1, _, hn => absurd rfl hn
    | 2, _, hn => rfl
    | 3, _, hn => rfl
    | 4, _, hn => rfl
    | 5, _, hn => rfl
    | 6, _, hn => rfl
    | 7, _, hn => rfl
    | 8, _, hn => rfl
    | 9, _, hn => rfl
    | 10, _, hn => rfl)
  exact R_heap e K
theorem r_ld1 {M : MD} {d mc ms pc pc' z k n : Nat} {Q : Option Value → Hp → Nat → Prop} {L S : List Value} {h : Hp} {I : Nat → Int32} {J : Nat → Int64} {A : Nat → Nat → Int32} {me : Nat → Int64} {x : Int32} {p : Nat} (hi : Ins M pc .iaload 1 pc') (hx : x = nI p) (hp : p < 4) (K : R M d mc ms Q pc' L (.int (A 1 p) :: S) (mOv h (I, J, A, me)) z k n) : R M d mc ms Q pc L (.int x :: .ref 154 :: S) (mOv h (I, J, A, me)) z k n := by
  subst hx
  exact r_iaload hi (mOv_in h (I, J, A, me) 2 (by omega)) (vp_in_nI hp (by decide)) (nI_at (B := A 1) (by omega)) K
theorem r_st1 {M : MD} {d mc ms pc pc' z k n : Nat} {Q : Option Value → Hp → Nat → Prop} {L S : List Value} {h : Hp} {I : Nat → Int32} {J : Nat → Int64} {A : Nat → Nat → Int32} {me : Nat → Int64} {x v : Int32} {p : Nat} (hi : Ins M pc .iastore 1 pc') (hx : x = nI p) (hp : p < 4) (K : R M d mc ms Q pc' L S (mOv h (I, J, upA A 1 p v, me)) z k n) : R M d mc ms Q pc L (.int v :: .int x :: .ref 154 :: S) (mOv h (I, J, A, me)) z k n := by
  subst hx
  refine r_iastore hi (by omega) (mOv_in h (I, J, A, me) 2 (by omega)) (vp_in_nI hp (by decide)) ?_
  have e0 : (.inl (.int, 4, updV (fun j => .int (A 1 j)) (nI p).toNatClampNeg (.int v)) : aC) = mCell (I, J, upA A 1 p v, me) 2 := by
    rw [nI_clamp (by omega), updV_int]; rfl
  have e := mOv_set h (I, J, A, me) (I, J, upA A 1 p v, me) 2 (by omega) e0 (fun j hj hn => match j, hj, hn with
    | 0, _, hn => rfl
    | 1, _, hn => rfl
    | 2, _, hn => absurd rfl hn
    | 3, _, hn => rfl
    | 4, _, hn => rfl
    | 5, _, hn => rfl
    | 6, _, hn => rfl
    | 7, _, hn => rfl
    | 8, _, hn => rfl
    | 9, _, hn => rfl
    | 10, _, hn => rfl)
  exact R_heap e K
theorem r_ld2 {M : MD} {d mc ms pc pc' z k n : Nat} {Q : Option Value → Hp → Nat → Prop} {L S : List Value} {h : Hp} {I : Nat → Int32} {J : Nat → Int64} {A : Nat → Nat → Int32} {me : Nat → Int64} {x : Int32} {p : Nat} (hi : Ins M pc .iaload 1 pc') (hx : x = nI p) (hp : p < 16) (K : R M d mc ms Q pc' L (.int (A 2 p) :: S) (mOv h (I, J, A, me)) z k n) : R M d mc ms Q pc L (.int x :: .ref 155 :: S) (mOv h (I, J, A, me)) z k n := by
  subst hx
  exact r_iaload hi (mOv_in h (I, J, A, me) 3 (by omega)) (vp_in_nI hp (by decide)) (nI_at (B := A 2) (by omega)) K
theorem r_st2 {M : MD} {d mc ms pc pc' z k n : Nat} {Q : Option Value → Hp → Nat → Prop} {L S : List Value} {h : Hp} {I : Nat → Int32} {J : Nat → Int64} {A : Nat → Nat → Int32} {me : Nat → Int64} {x v : Int32} {p : Nat} (hi : Ins M pc .iastore 1 pc') (hx : x = nI p) (hp : p < 16) (K : R M d mc ms Q pc' L S (mOv h (I, J, upA A 2 p v, me)) z k n) : R M d mc ms Q pc L (.int v :: .int x :: .ref 155 :: S) (mOv h (I, J, A, me)) z k n := by
  subst hx
  refine r_iastore hi (by omega) (mOv_in h (I, J, A, me) 3 (by omega)) (vp_in_nI hp (by decide)) ?_
  have e0 : (.inl (.int, 16, updV (fun j => .int (A 2 j)) (nI p).toNatClampNeg (.int v)) : aC) = mCell (I, J, upA A 2 p v, me) 3 := by
    rw [nI_clamp (by omega), updV_int]; rfl
  have e := mOv_set h (I, J, A, me) (I, J, upA A 2 p v, me) 3 (by omega) e0 (fun j hj hn => match j, hj, hn with
    | 0, _, hn => rfl
    | 1, _, hn => rfl
    | 2, _, hn => rfl
    | 3, _, hn => absurd rfl hn
    | 4, _, hn => rfl
    | 5, _, hn => rfl
    | 6, _, hn => rfl
    | 7, _, hn => rfl
    | 8, _, hn => rfl
    | 9, _, hn => rfl
    | 10, _, hn => rfl)
  exact R_heap e K
theorem r_ld3 {M : MD} {d mc ms pc pc' z k n : Nat} {Q : Option Value → Hp → Nat → Prop} {L S : List Value} {h : Hp} {I : Nat → Int32} {J : Nat → Int64} {A : Nat → Nat → Int32} {me : Nat → Int64} {x : Int32} {p : Nat} (hi : Ins M pc .iaload 1 pc') (hx : x = nI p) (hp : p < 60) (K : R M d mc ms Q pc' L (.int (A 3 p) :: S) (mOv h (I, J, A, me)) z k n) : R M d mc ms Q pc L (.int x :: .ref 156 :: S) (mOv h (I, J, A, me)) z k n := by
  subst hx
  exact r_iaload hi (mOv_in h (I, J, A, me) 4 (by omega)) (vp_in_nI hp (by decide)) (nI_at (B := A 3) (by omega)) K
theorem r_st3 {M : MD} {d mc ms pc pc' z k n : Nat} {Q : Option Value → Hp → Nat → Prop} {L S : List Value} {h : Hp} {I : Nat → Int32} {J : Nat → Int64} {A : Nat → Nat → Int32} {me : Nat → Int64} {x v : Int32} {p : Nat} (hi : Ins M pc .iastore 1 pc') (hx : x = nI p) (hp : p < 60) (K : R M d mc ms Q pc' L S (mOv h (I, J, upA A 3 p v, me)) z k n) : R M d mc ms Q pc L (.int v :: .int x :: .ref 156 :: S) (mOv h (I, J, A, me)) z k n := by
  subst hx
  refine r_iastore hi (by omega) (mOv_in h (I, J, A, me) 4 (by omega)) (vp_in_nI hp (by decide)) ?_
  have e0 : (.inl (.int, 60, updV (fun j => .int (A 3 j)) (nI p).toNatClampNeg (.int v)) : aC) = mCell (I, J, upA A 3 p v, me) 4 := by
    rw [nI_clamp (by omega), updV_int]; rfl
  have e := mOv_set h (I, J, A, me) (I, J, upA A 3 p v, me) 4 (by omega) e0 (fun j hj hn => match j, hj, hn with
    | 0, _, hn => rfl
    | 1, _, hn => rfl
    | 2, _, hn => rfl
    | 3, _, hn => rfl
    | 4, _, hn => absurd rfl hn
    | 5, _, hn => rfl
    | 6, _, hn => rfl
    | 7, _, hn => rfl
    | 8, _, hn => rfl
    | 9, _, hn => rfl
    | 10, _, hn => rfl)
  exact R_heap e K
theorem r_ld4 {M : MD} {d mc ms pc pc' z k n : Nat} {Q : Option Value → Hp → Nat → Prop} {L S : List Value} {h : Hp} {I : Nat → Int32} {J : Nat → Int64} {A : Nat → Nat → Int32} {me : Nat → Int64} {x : Int32} {p : Nat} (hi : Ins M pc .iaload 1 pc') (hx : x = nI p) (hp : p < 480) (K : R M d mc ms Q pc' L (.int (A 4 p) :: S) (mOv h (I, J, A, me)) z k n) : R M d mc ms Q pc L (.int x :: .ref 157 :: S) (mOv h (I, J, A, me)) z k n := by
  subst hx
  exact r_iaload hi (mOv_in h (I, J, A, me) 5 (by omega)) (vp_in_nI hp (by decide)) (nI_at (B := A 4) (by omega)) K
theorem r_st4 {M : MD} {d mc ms pc pc' z k n : Nat} {Q : Option Value → Hp → Nat → Prop} {L S : List Value} {h : Hp} {I : Nat → Int32} {J : Nat → Int64} {A : Nat → Nat → Int32} {me : Nat → Int64} {x v : Int32} {p : Nat} (hi : Ins M pc .iastore 1 pc') (hx : x = nI p) (hp : p < 480) (K : R M d mc ms Q pc' L S (mOv h (I, J, upA A 4 p v, me)) z k n) : R M d mc ms Q pc L (.int v :: .int x :: .ref 157 :: S) (mOv h (I, J, A, me)) z k n := by
  subst hx
  refine r_iastore hi (by omega) (mOv_in h (I, J, A, me) 5 (by omega)) (vp_in_nI hp (by decide)) ?_
  have e0 : (.inl (.int, 480, updV (fun j => .int (A 4 j)) (nI p).toNatClampNeg (.int v)) : aC) = mCell (I, J, upA A 4 p v, me) 5 := by
    rw [nI_clamp (by omega), updV_int]; rfl
  have e := mOv_set h (I, J, A, me) (I, J, upA A 4 p v, me) 5 (by omega) e0 (fun j hj hn => match j, hj, hn with
    | 0, _, hn => rfl
    | 1, _, hn => rfl
    | 2, _, hn => rfl
    | 3, _, hn => rfl
    | 4, _, hn => rfl
    | 5, _, hn => absurd rfl hn
    | 6, _, hn => rfl
    | 7, _, hn => rfl
    | 8, _, hn => rfl
    | 9, _, hn => rfl
    | 10, _, hn => rfl)
  exact R_heap e K
theorem r_ld5 {M : MD} {d mc ms pc pc' z k n : Nat} {Q : Option Value → Hp → Nat → Prop} {L S : List Value} {h : Hp} {I : Nat → Int32} {J : Nat → Int64} {A : Nat → Nat → Int32} {me : Nat → Int64} {x : Int32} {p : Nat} (hi : Ins M pc .iaload 1 pc') (hx : x = nI p) (hp : p < 420) (K : R M d mc ms Q pc' L (.int (A 5 p) :: S) (mOv h (I, J, A, me)) z k n) : R M d mc ms Q pc L (.int x :: .ref 159 :: S) (mOv h (I, J, A, me)) z k n := by
  subst hx
  exact r_iaload hi (mOv_in h (I, J, A, me) 7 (by omega)) (vp_in_nI hp (by decide)) (nI_at (B := A 5) (by omega)) K
theorem r_st5 {M : MD} {d mc ms pc pc' z k n : Nat} {Q : Option Value → Hp → Nat → Prop} {L S : List Value} {h : Hp} {I : Nat → Int32} {J : Nat → Int64} {A : Nat → Nat → Int32} {me : Nat → Int64} {x v : Int32} {p : Nat} (hi : Ins M pc .iastore 1 pc') (hx : x = nI p) (hp : p < 420) (K : R M d mc ms Q pc' L S (mOv h (I, J, upA A 5 p v, me)) z k n) : R M d mc ms Q pc L (.int v :: .int x :: .ref 159 :: S) (mOv h (I, J, A, me)) z k n := by
  subst hx
  refine r_iastore hi (by omega) (mOv_in h (I, J, A, me) 7 (by omega)) (vp_in_nI hp (by decide)) ?_
  have e0 : (.inl (.int, 420, updV (fun j => .int (A 5 j)) (nI p).toNatClampNeg (.int v)) : aC) = mCell (I, J, upA A 5 p v, me) 7 := by
    rw [nI_clamp (by omega), updV_int]; rfl
  have e := mOv_set h (I, J, A, me) (I, J, upA A 5 p v, me) 7 (by omega) e0 (fun j hj hn => match j, hj, hn with
    | 0, _, hn => rfl
    | 1, _, hn => rfl
    | 2, _, hn => rfl
    | 3, _, hn => rfl
    | 4, _, hn => rfl
    | 5, _, hn => rfl
    | 6, _, hn => rfl
    | 7, _, hn => absurd rfl hn
    | 8, _, hn => rfl
    | 9, _, hn => rfl
    | 10, _, hn => rfl)
  exact R_heap e K
theorem r_ld6 {M : MD} {d mc ms pc pc' z k n : Nat} {Q : Option Value → Hp → Nat → Prop} {L S : List Value} {h : Hp} {I : Nat → Int32} {J : Nat → Int64} {A : Nat → Nat → Int32} {me : Nat → Int64} {x : Int32} {p : Nat} (hi : Ins M pc .iaload 1 pc') (hx : x = nI p) (hp : p < 420) (K : R M d mc ms Q pc' L (.int (A 6 p) :: S) (mOv h (I, J, A, me)) z k n) : R M d mc ms Q pc L (.int x :: .ref 160 :: S) (mOv h (I, J, A, me)) z k n := by
  subst hx
  exact r_iaload hi (mOv_in h (I, J, A, me) 8 (by omega)) (vp_in_nI hp (by decide)) (nI_at (B := A 6) (by omega)) K
theorem r_st6 {M : MD} {d mc ms pc pc' z k n : Nat} {Q : Option Value → Hp → Nat → Prop} {L S : List Value} {h : Hp} {I : Nat → Int32} {J : Nat → Int64} {A : Nat → Nat → Int32} {me : Nat → Int64} {x v : Int32} {p : Nat} (hi : Ins M pc .iastore 1 pc') (hx : x = nI p) (hp : p < 420) (K : R M d mc ms Q pc' L S (mOv h (I, J, upA A 6 p v, me)) z k n) : R M d mc ms Q pc L (.int v :: .int x :: .ref 160 :: S) (mOv h (I, J, A, me)) z k n := by
  subst hx
  refine r_iastore hi (by omega) (mOv_in h (I, J, A, me) 8 (by omega)) (vp_in_nI hp (by decide)) ?_
  have e0 : (.inl (.int, 420, updV (fun j => .int (A 6 j)) (nI p).toNatClampNeg (.int v)) : aC) = mCell (I, J, upA A 6 p v, me) 8 := by
    rw [nI_clamp (by omega), updV_int]; rfl
  have e := mOv_set h (I, J, A, me) (I, J, upA A 6 p v, me) 8 (by omega) e0 (fun j hj hn => match j, hj, hn with
    | 0, _, hn => rfl
    | 1, _, hn => rfl
    | 2, _, hn => rfl
    | 3, _, hn => rfl
    | 4, _, hn => rfl
    | 5, _, hn => rfl
    | 6, _, hn => rfl
    | 7, _, hn => rfl
    | 8, _, hn => absurd rfl hn
    | 9, _, hn => rfl
    | 10, _, hn => rfl)
  exact R_heap e K
theorem r_ld8 {M : MD} {d mc ms pc pc' z k n : Nat} {Q : Option Value → Hp → Nat → Prop} {L S : List Value} {h : Hp} {I : Nat → Int32} {J : Nat → Int64} {A : Nat → Nat → Int32} {me : Nat → Int64} {x : Int32} {p : Nat} (hi : Ins M pc .iaload 1 pc') (hx : x = nI p) (hp : p < 60) (K : R M d mc ms Q pc' L (.int (A 8 p) :: S) (mOv h (I, J, A, me)) z k n) : R M d mc ms Q pc L (.int x :: .ref 162 :: S) (mOv h (I, J, A, me)) z k n := by
  subst hx
  exact r_iaload hi (mOv_in h (I, J, A, me) 10 (by omega)) (vp_in_nI hp (by decide)) (nI_at (B := A 8) (by omega)) K
theorem r_st8 {M : MD} {d mc ms pc pc' z k n : Nat} {Q : Option Value → Hp → Nat → Prop} {L S : List Value} {h : Hp} {I : Nat → Int32} {J : Nat → Int64} {A : Nat → Nat → Int32} {me : Nat → Int64} {x v : Int32} {p : Nat} (hi : Ins M pc .iastore 1 pc') (hx : x = nI p) (hp : p < 60) (K : R M d mc ms Q pc' L S (mOv h (I, J, upA A 8 p v, me)) z k n) : R M d mc ms Q pc L (.int v :: .int x :: .ref 162 :: S) (mOv h (I, J, A, me)) z k n := by
  subst hx
  refine r_iastore hi (by omega) (mOv_in h (I, J, A, me) 10 (by omega)) (vp_in_nI hp (by decide)) ?_
  have e0 : (.inl (.int, 60, updV (fun j => .int (A 8 j)) (nI p).toNatClampNeg (.int v)) : aC) = mCell (I, J, upA A 8 p v, me) 10 := by
    rw [nI_clamp (by omega), updV_int]; rfl
  have e := mOv_set h (I, J, A, me) (I, J, upA A 8 p v, me) 10 (by omega) e0 (fun j hj hn => match j, hj, hn with
    | 0, _, hn => rfl
    | 1, _, hn => rfl
    | 2, _, hn => rfl
    | 3, _, hn => rfl
    | 4, _, hn => rfl
    | 5, _, hn => rfl
    | 6, _, hn => rfl
    | 7, _, hn => rfl
    | 8, _, hn => rfl
    | 9, _, hn => rfl
    | 10, _, hn => absurd rfl hn)
  exact R_heap e K
theorem r_ld7 {M : MD} {d mc ms pc pc' z k n : Nat} {Q : Option Value → Hp → Nat → Prop} {L S : List Value} {h : Hp} {I : Nat → Int32} {J : Nat → Int64} {A : Nat → Nat → Int32} {me : Nat → Int64} {x : Int32} {p : Nat} (hi : Ins M pc .baload 1 pc') (hx : x = nI p) (hp : p < 2) (K : R M d mc ms Q pc' L (.int (A 7 p) :: S) (mOv h (I, J, A, me)) z k n) : R M d mc ms Q pc L (.int x :: .ref 161 :: S) (mOv h (I, J, A, me)) z k n := by
  subst hx
  exact r_baload hi (mOv_in h (I, J, A, me) 9 (by omega)) (vp_in_nI hp (by decide)) (nI_at (B := A 7) (by omega)) K
theorem r_st7 {M : MD} {d mc ms pc pc' z k n : Nat} {Q : Option Value → Hp → Nat → Prop} {L S : List Value} {h : Hp} {I : Nat → Int32} {J : Nat → Int64} {A : Nat → Nat → Int32} {me : Nat → Int64} {x v : Int32} {p : Nat} (hi : Ins M pc .bastore 1 pc') (hx : x = nI p) (hp : p < 2) (h01 : v = 0 ∨ v = 1) (K : R M d mc ms Q pc' L S (mOv h (I, J, upA A 7 p v, me)) z k n) : R M d mc ms Q pc L (.int v :: .int x :: .ref 161 :: S) (mOv h (I, J, A, me)) z k n := by
  subst hx
  refine r_bastore hi (by omega) (mOv_in h (I, J, A, me) 9 (by omega)) (vp_in_nI hp (by decide)) h01 ?_
  have e0 : (.inl (.boolean, 2, updV (fun j => .int (A 7 j)) (nI p).toNatClampNeg (.int v)) : aC) = mCell (I, J, upA A 7 p v, me) 9 := by
    rw [nI_clamp (by omega), updV_int]; rfl
  have e := mOv_set h (I, J, A, me) (I, J, upA A 7 p v, me) 9 (by omega) e0 (fun j hj hn => match j, hj, hn with
    | 0, _, hn => rfl
    | 1, _, hn => rfl
    | 2, _, hn => rfl
    | 3, _, hn => rfl
    | 4, _, hn => rfl
    | 5, _, hn => rfl
    | 6, _, hn => rfl
    | 7, _, hn => rfl
    | 8, _, hn => rfl
    | 9, _, hn => absurd rfl hn
    | 10, _, hn => rfl)
  exact R_heap e K
theorem r_ldm {M : MD} {d mc ms pc pc' z k n : Nat} {Q : Option Value → Hp → Nat → Prop} {L S : List Value} {h : Hp} {I : Nat → Int32} {J : Nat → Int64} {A : Nat → Nat → Int32} {me : Nat → Int64} {x : Int32} {p : Nat} (hi : Ins M pc .laload 1 pc') (hx : x = nI p) (hp : p < 1200) (K : R M d mc ms Q pc' L (.long (me p) :: S) (mOv h (I, J, A, me)) z k n) : R M d mc ms Q pc L (.int x :: .ref 158 :: S) (mOv h (I, J, A, me)) z k n := by
  subst hx
  exact r_laload hi (mOv_in h (I, J, A, me) 6 (by omega)) (vp_in_nI hp (by decide)) (by show Value.long (me (nI p).toNatClampNeg) = _; rw [nI_clamp (by omega)]) K
theorem r_stm {M : MD} {d mc ms pc pc' z k n : Nat} {Q : Option Value → Hp → Nat → Prop} {L S : List Value} {h : Hp} {I : Nat → Int32} {J : Nat → Int64} {A : Nat → Nat → Int32} {me : Nat → Int64} {x : Int32} {v : Int64} {p : Nat} (hi : Ins M pc .lastore 1 pc') (hx : x = nI p) (hp : p < 1200) (K : R M d mc ms Q pc' L S (mOv h (I, J, A, upL me p v)) z k n) : R M d mc ms Q pc L (.long v :: .int x :: .ref 158 :: S) (mOv h (I, J, A, me)) z k n := by
  subst hx
  refine r_lastore hi (by omega) (mOv_in h (I, J, A, me) 6 (by omega)) (vp_in_nI hp (by decide)) ?_
  have e0 : (.inl (.long, 1200, updV (fun j => .long (me j)) (nI p).toNatClampNeg (.long v)) : aC) = mCell (I, J, A, upL me p v) 6 := by
    rw [nI_clamp (by omega), updV_long]; rfl
  have e := mOv_set h (I, J, A, me) (I, J, A, upL me p v) 6 (by omega) e0 (fun j hj hn => match j, hj, hn with
    | 0, _, hn => rfl
    | 1, _, hn => rfl
    | 2, _, hn => rfl
    | 3, _, hn => rfl
    | 4, _, hn => rfl
    | 5, _, hn => rfl
    | 6, _, hn => absurd rfl hn
    | 7, _, hn => rfl
    | 8, _, hn => rfl
    | 9, _, hn => rfl
    | 10, _, hn => rfl)
  exact R_heap e K
theorem r_gthrowers {M : MD} {d mc ms pc pc' z k n : Nat} {Q : Option Value → Hp → Nat → Prop} {L S : List Value} {h : Hp} {I : Nat → Int32} {J : Nat → Int64} {A : Nat → Nat → Int32} {me : Nat → Int64} {idx : Nat} (hi : Ins M pc (.getfield idx) 3 pc') (hl : FL M idx 6 0) (K : R M d mc ms Q pc' L (.int (I 0) :: S) (mOv h (I, J, A, me)) z k n) : R M d mc ms Q pc L (.ref 152 :: S) (mOv h (I, J, A, me)) z k n := r_getfield hi hl (mOv_obj _ _) rfl K
theorem r_gstrength {M : MD} {d mc ms pc pc' z k n : Nat} {Q : Option Value → Hp → Nat → Prop} {L S : List Value} {h : Hp} {I : Nat → Int32} {J : Nat → Int64} {A : Nat → Nat → Int32} {me : Nat → Int64} {idx : Nat} (hi : Ins M pc (.getfield idx) 3 pc') (hl : FL M idx 6 1) (K : R M d mc ms Q pc' L (.ref 153 :: S) (mOv h (I, J, A, me)) z k n) : R M d mc ms Q pc L (.ref 152 :: S) (mOv h (I, J, A, me)) z k n := r_getfield hi hl (mOv_obj _ _) rfl K
theorem r_gwind {M : MD} {d mc ms pc pc' z k n : Nat} {Q : Option Value → Hp → Nat → Prop} {L S : List Value} {h : Hp} {I : Nat → Int32} {J : Nat → Int64} {A : Nat → Nat → Int32} {me : Nat → Int64} {idx : Nat} (hi : Ins M pc (.getfield idx) 3 pc') (hl : FL M idx 6 2) (K : R M d mc ms Q pc' L (.ref 154 :: S) (mOv h (I, J, A, me)) z k n) : R M d mc ms Q pc L (.ref 152 :: S) (mOv h (I, J, A, me)) z k n := r_getfield hi hl (mOv_obj _ _) rfl K
theorem r_gtext {M : MD} {d mc ms pc pc' z k n : Nat} {Q : Option Value → Hp → Nat → Prop} {L S : List Value} {h : Hp} {I : Nat → Int32} {J : Nat → Int64} {A : Nat → Nat → Int32} {me : Nat → Int64} {idx : Nat} (hi : Ins M pc (.getfield idx) 3 pc') (hl : FL M idx 6 3) (K : R M d mc ms Q pc' L (.ref 155 :: S) (mOv h (I, J, A, me)) z k n) : R M d mc ms Q pc L (.ref 152 :: S) (mOv h (I, J, A, me)) z k n := r_getfield hi hl (mOv_obj _ _) rfl K
theorem r_glength {M : MD} {d mc ms pc pc' z k n : Nat} {Q : Option Value → Hp → Nat → Prop} {L S : List Value} {h : Hp} {I : Nat → Int32} {J : Nat → Int64} {A : Nat → Nat → Int32} {me : Nat → Int64} {idx : Nat} (hi : Ins M pc (.getfield idx) 3 pc') (hl : FL M idx 6 4) (K : R M d mc ms Q pc' L (.int (I 1) :: S) (mOv h (I, J, A, me)) z k n) : R M d mc ms Q pc L (.ref 152 :: S) (mOv h (I, J, A, me)) z k n := r_getfield hi hl (mOv_obj _ _) rfl K
theorem r_gnow {M : MD} {d mc ms pc pc' z k n : Nat} {Q : Option Value → Hp → Nat → Prop} {L S : List Value} {h : Hp} {I : Nat → Int32} {J : Nat → Int64} {A : Nat → Nat → Int32} {me : Nat → Int64} {idx : Nat} (hi : Ins M pc (.getfield idx) 3 pc') (hl : FL M idx 6 5) (K : R M d mc ms Q pc' L (.ref 156 :: S) (mOv h (I, J, A, me)) z k n) : R M d mc ms Q pc L (.ref 152 :: S) (mOv h (I, J, A, me)) z k n := r_getfield hi hl (mOv_obj _ _) rfl K
theorem r_gacts {M : MD} {d mc ms pc pc' z k n : Nat} {Q : Option Value → Hp → Nat → Prop} {L S : List Value} {h : Hp} {I : Nat → Int32} {J : Nat → Int64} {A : Nat → Nat → Int32} {me : Nat → Int64} {idx : Nat} (hi : Ins M pc (.getfield idx) 3 pc') (hl : FL M idx 6 6) (K : R M d mc ms Q pc' L (.int (I 2) :: S) (mOv h (I, J, A, me)) z k n) : R M d mc ms Q pc L (.ref 152 :: S) (mOv h (I, J, A, me)) z k n := r_getfield hi hl (mOv_obj _ _) rfl K
theorem r_gnext {M : MD} {d mc ms pc pc' z k n : Nat} {Q : Option Value → Hp → Nat → Prop} {L S : List Value} {h : Hp} {I : Nat → Int32} {J : Nat → Int64} {A : Nat → Nat → Int32} {me : Nat → Int64} {idx : Nat} (hi : Ins M pc (.getfield idx) 3 pc') (hl : FL M idx 6 7) (K : R M d mc ms Q pc' L (.int (I 3) :: S) (mOv h (I, J, A, me)) z k n) : R M d mc ms Q pc L (.ref 152 :: S) (mOv h (I, J, A, me)) z k n := r_getfield hi hl (mOv_obj _ _) rfl K
theorem r_grow {M : MD} {d mc ms pc pc' z k n : Nat} {Q : Option Value → Hp → Nat → Prop} {L S : List Value} {h : Hp} {I : Nat → Int32} {J : Nat → Int64} {A : Nat → Nat → Int32} {me : Nat → Int64} {idx : Nat} (hi : Ins M pc (.getfield idx) 3 pc') (hl : FL M idx 6 8) (K : R M d mc ms Q pc' L (.ref 157 :: S) (mOv h (I, J, A, me)) z k n) : R M d mc ms Q pc L (.ref 152 :: S) (mOv h (I, J, A, me)) z k n := r_getfield hi hl (mOv_obj _ _) rfl K
theorem r_gmeans {M : MD} {d mc ms pc pc' z k n : Nat} {Q : Option Value → Hp → Nat → Prop} {L S : List Value} {h : Hp} {I : Nat → Int32} {J : Nat → Int64} {A : Nat → Nat → Int32} {me : Nat → Int64} {idx : Nat} (hi : Ins M pc (.getfield idx) 3 pc') (hl : FL M idx 6 9) (K : R M d mc ms Q pc' L (.ref 158 :: S) (mOv h (I, J, A, me)) z k n) : R M d mc ms Q pc L (.ref 152 :: S) (mOv h (I, J, A, me)) z k n := r_getfield hi hl (mOv_obj _ _) rfl K
theorem r_gtried {M : MD} {d mc ms pc pc' z k n : Nat} {Q : Option Value → Hp → Nat → Prop} {L S : List Value} {h : Hp} {I : Nat → Int32} {J : Nat → Int64} {A : Nat → Nat → Int32} {me : Nat → Int64} {idx : Nat} (hi : Ins M pc (.getfield idx) 3 pc') (hl : FL M idx 6 10) (K : R M d mc ms Q pc' L (.long (J 0) :: S) (mOv h (I, J, A, me)) z k n) : R M d mc ms Q pc L (.ref 152 :: S) (mOv h (I, J, A, me)) z k n := r_getfield hi hl (mOv_obj _ _) rfl K
theorem r_gspared {M : MD} {d mc ms pc pc' z k n : Nat} {Q : Option Value → Hp → Nat → Prop} {L S : List Value} {h : Hp} {I : Nat → Int32} {J : Nat → Int64} {A : Nat → Nat → Int32} {me : Nat → Int64} {idx : Nat} (hi : Ins M pc (.getfield idx) 3 pc') (hl : FL M idx 6 11) (K : R M d mc ms Q pc' L (.long (J 1) :: S) (mOv h (I, J, A, me)) z k n) : R M d mc ms Q pc L (.ref 152 :: S) (mOv h (I, J, A, me)) z k n := r_getfield hi hl (mOv_obj _ _) rfl K
theorem r_gways {M : MD} {d mc ms pc pc' z k n : Nat} {Q : Option Value → Hp → Nat → Prop} {L S : List Value} {h : Hp} {I : Nat → Int32} {J : Nat → Int64} {A : Nat → Nat → Int32} {me : Nat → Int64} {idx : Nat} (hi : Ins M pc (.getfield idx) 3 pc') (hl : FL M idx 6 12) (K : R M d mc ms Q pc' L (.ref 159 :: S) (mOv h (I, J, A, me)) z k n) : R M d mc ms Q pc L (.ref 152 :: S) (mOv h (I, J, A, me)) z k n := r_getfield hi hl (mOv_obj _ _) rfl K
theorem r_glater {M : MD} {d mc ms pc pc' z k n : Nat} {Q : Option Value → Hp → Nat → Prop} {L S : List Value} {h : Hp} {I : Nat → Int32} {J : Nat → Int64} {A : Nat → Nat → Int32} {me : Nat → Int64} {idx : Nat} (hi : Ins M pc (.getfield idx) 3 pc') (hl : FL M idx 6 13) (K : R M d mc ms Q pc' L (.ref 160 :: S) (mOv h (I, J, A, me)) z k n) : R M d mc ms Q pc L (.ref 152 :: S) (mOv h (I, J, A, me)) z k n := r_getfield hi hl (mOv_obj _ _) rfl K
theorem r_gseed {M : MD} {d mc ms pc pc' z k n : Nat} {Q : Option Value → Hp → Nat → Prop} {L S : List Value} {h : Hp} {I : Nat → Int32} {J : Nat → Int64} {A : Nat → Nat → Int32} {me : Nat → Int64} {idx : Nat} (hi : Ins M pc (.getfield idx) 3 pc') (hl : FL M idx 6 14) (K : R M d mc ms Q pc' L (.long (J 2) :: S) (mOv h (I, J, A, me)) z k n) : R M d mc ms Q pc L (.ref 152 :: S) (mOv h (I, J, A, me)) z k n := r_getfield hi hl (mOv_obj _ _) rfl K
theorem r_gisKept {M : MD} {d mc ms pc pc' z k n : Nat} {Q : Option Value → Hp → Nat → Prop} {L S : List Value} {h : Hp} {I : Nat → Int32} {J : Nat → Int64} {A : Nat → Nat → Int32} {me : Nat → Int64} {idx : Nat} (hi : Ins M pc (.getfield idx) 3 pc') (hl : FL M idx 6 15) (K : R M d mc ms Q pc' L (.ref 161 :: S) (mOv h (I, J, A, me)) z k n) : R M d mc ms Q pc L (.ref 152 :: S) (mOv h (I, J, A, me)) z k n := r_getfield hi hl (mOv_obj _ _) rfl K
theorem r_gkept {M : MD} {d mc ms pc pc' z k n : Nat} {Q : Option Value → Hp → Nat → Prop} {L S : List Value} {h : Hp} {I : Nat → Int32} {J : Nat → Int64} {A : Nat → Nat → Int32} {me : Nat → Int64} {idx : Nat} (hi : Ins M pc (.getfield idx) 3 pc') (hl : FL M idx 6 16) (K : R M d mc ms Q pc' L (.ref 162 :: S) (mOv h (I, J, A, me)) z k n) : R M d mc ms Q pc L (.ref 152 :: S) (mOv h (I, J, A, me)) z k n := r_getfield hi hl (mOv_obj _ _) rfl K
