def FL (M : MD) (idx ci j : Nat) : Prop := ∃ (C : String) (T : u_T) (N : Nat), vwCl[ci]? = some (C, T, N) ∧ j < N ∧ (∀ w ∈ u_ws C T N, w ∈ GW) ∧ Cond.fieldLink M.1.cls idx (T j).1 (T j).2.1 (T j).2.2.1 ∈ GW
def FP (M : MD) (idx ci j : Nat) (ty : FieldType) : Prop := ∃ (C : String) (T : u_T) (N : Nat) (ty0 : Nat → FieldType), (vwCl[ci]? = some (C, T, N) ∧ j < N ∧ (∀ w ∈ u_ws C T N, w ∈ GW) ∧ Cond.fieldLink M.1.cls idx (T j).1 (T j).2.1 (T j).2.2.1 ∈ GW) ∧ (∀ k, k < N → parseFieldDescriptor (T k).2.2.1 = some (ty0 k)) ∧ (∀ a, a < N → ∀ b, b < N → a ≠ b → (T a).2.1 ≠ (T b).2.1) ∧ ty0 j = ty ∧ ((T j).2.2.2 = false ∨ ((T j).2.2.2 = true ∧ M.1.name = "<init>" ∧ (T j).1 = M.1.cls))
def fitV (ty : FieldType) (v : Value) : Prop := narrow ty v = v ∧ fits ty v = true
theorem fitV_sh {E : eE} {ty : FieldType} {v : Value} (h : fitV ty v) : fitV ty (sh E v) := by
  cases v <;> first | exact h | (obtain ⟨h1, h2⟩ := h; cases ty <;> first | exact ⟨rfl, rfl⟩ | (exfalso; revert h2; simp [fits]; done) | exact ⟨h1, h2⟩)
theorem va_S.put1 {E : eE} {s : State} {h : Hp} {z : Nat} {H0 H H1 : Heap} {locs : List Loc} (hS : va_S (fun q => E.2.2.1 ≤ q) H0 H locs) {a k : Nat} (ha : 2 ≤ a) (hz : H1.size = H.size) (ho : ∀ q : Nat, q ≠ ad E a → H1[q]? = H[q]?) : va_S (fun q => E.2.2.1 ≤ q) H0 H1 (locs ++ [⟨ad E a, k⟩]) := hS.put hz ho (by rw [ad_ge ha]; exact Nat.le_add_right _ _)
theorem va_S.push1 {E : eE} {H0 H H1 : Heap} {locs : List Loc} (hS : va_S (fun q => E.2.2.1 ≤ q) H0 H locs) (hz : H.size ≤ H1.size) (ho : ∀ q : Nat, q < H.size → H1[q]? = H[q]?) : va_S (fun q => E.2.2.1 ≤ q) H0 H1 locs := ⟨Nat.le_trans hS.1 hz, fun q g1 g2 => (ho q (Nat.lt_of_lt_of_le g1 hS.1)).trans (hS.2.1 q g1 g2), hS.2.2⟩
theorem r_getfield {M : MD} {d mc ms pc pc' z k n : Nat} {Q : Option Value → Hp → Nat → Prop} {L S : List Value} {h : Hp} {idx ci j a : Nat} {fs : List Value} {v : Value} (hi : Ins M pc (.getfield idx) 3 pc') (hl : FL M idx ci j) (hh : h a = some (.inr (ci, fs))) (hv : fs[j]? = some v) (K : R M d mc ms Q pc' L (v :: S) h z k n) : R M d mc ms Q pc L (.ref a :: S) h z k n := by
  intro p l e Rm s m args below meth c E Qf O H locs ls hH hS hL hk hn
  obtain ⟨hx, hb, hml, hown, hts, hrm, hin, hK, hZ, hX, hB, hRC⟩ := id O
  obtain ⟨hd, rfl⟩ := hi
  obtain ⟨C, T, N, f1, f2, f3, f4⟩ := hl
  obtain ⟨-, g2, g3⟩ := hH.2.2.2.2 a _ hh
  exact va_get (D := aD E) (cl := vwCl) (tys := []) (ws := [(ad E a, .inr (ci, fs.map (sh E)))]) (v := sh E v) hx hb hts (fun w hw => f3 w hw) hown hK (fun k q hq => by
    have h0 : k < 1 := (List.getElem?_eq_some_iff.mp hq).1
    rw [show k = 0 by omega] at hq
    cases hq
    exact g3) 0 rfl f1 j f2 (hts _ f4) (fun _ h9 => h9) (by rw [List.getElem?_map, hv]; rfl) hd (K p l e Rm s m args below meth c E Qf O H locs ls hH hS hL hk hn)
theorem r_putfield {M : MD} {d mc ms pc pc' z k n : Nat} {Q : Option Value → Hp → Nat → Prop} {L S : List Value} {h : Hp} {idx ci j a : Nat} {fs : List Value} {v : Value} {ty : FieldType} (hi : Ins M pc (.putfield idx) 3 pc') (hl : FP M idx ci j ty) (ha : 2 ≤ a) (hh : h a = some (.inr (ci, fs))) (hlen : j < fs.length) (hfit : fitV ty v) (K : R M d mc ms Q pc' L S (hset h a (.inr (ci, fs.set j v))) z k n) : R M d mc ms Q pc L (v :: .ref a :: S) h z k n := by
  intro p l e Rm s m args below meth c E Qf O H locs ls hH hS hL hk hn
  obtain ⟨hx, hb, hml, hown, hts, hrm, hin, hK, hZ, hX, hB, hRC⟩ := id O
  obtain ⟨hd, rfl⟩ := hi
  obtain ⟨C, T, N, ty0, ⟨f1, f2, f3, f4⟩, f5, f6, f7, f8⟩ := hl
  obtain ⟨-, g2, g3⟩ := hH.2.2.2.2 a _ hh
  obtain ⟨hn1, hfit1⟩ := fitV_sh (E := E) hfit
  have hap := va_apart (own := M.1.cls) hts (fun w hw => f3 w hw) ty0 f5 f6 hK f1
  obtain ⟨r, h1, cell, q1, q2, q3, q4⟩ := g3
  have hr : r = (C, T, N) := Option.some.inj (h1.symm.trans f1)
  subst hr
  obtain ⟨hSl, hfc, kC, hkC, hkind⟩ := hK.1 ci _ f1
  obtain ⟨cf, kf, fi, f, hi, hsl⟩ := hSl j f2
  have hdj : parseFieldDescriptor (T j).2.2.1 = some ty := by rw [← f7]; exact f5 j f2
  have hst := (u_facts hfc hkC (u_lays hts (fun w hw => f3 w hw) f2) hi).1
  have hlay := hts _ (f3 _ (u_in_lay f2))
  unfold u_lay at hlay
  have fin : ∀ (H' : Heap), H'[ad E a]? = some (cell.setSlot (aD E |>.2 ci j) (sh E v)) → H'.size = H.size → (∀ q, q ≠ ad E a → H'[q]? = H[q]?) → W p l e Rm s m args below meth c H' (locs ++ [⟨ad E a, (aD E).2 ci j⟩]) k n Qf (F0 m (pc + 3) ls (S.map (sh E))) := by
    intro H' e1 e2 e3
    refine K p l e Rm s m args below meth c E Qf O H' _ ls (hH.set g2 hh ⟨g2, _, h1, ?_⟩ e2 e3) (va_S.put1 (s := s) (h := h) (z := z) hS g2 e2 e3) hL hk hn
    rw [List.map_set]
    exact t_OB.to (V := updV (vp_V (fs.map (sh E))) j (sh E v)) ⟨_, e1, q2, q3, t_set q4 hap f2 (sh E v)⟩ (fun i _ => vp_updV_set (by rw [List.length_map]; exact hlen) (sh E v) i)
  rcases f8 with hfin | ⟨hfin, hin1, hdecl⟩
  · rw [if_neg (by rw [hfin]; decide)] at hlay
    have h6 := u_store hfc hkC hkind hlay hi hdj hn1 hfit1
    refine W.putK hx hb (f := f) ⟨hown, hts _ f4, ⟨_, _, _, hi⟩, hst⟩ (by rw [q2]; exact h6) q1 q3 (by rw [hsl]; exact k2_hasslot (q4 j f2)) rfl rfl hd fun H' e1 e2 e3 => ?_
    rw [hsl] at e1 ⊢
    exact fin H' e1 e2 e3
  · rw [if_pos hfin] at hlay
    have hcf : m.cls = cf := by
      obtain ⟨_, _, c', _, _, _, -, -, hf', -, -, -, hown2, -⟩ := Cond.laysFinal_spec hlay
      have e1 : c' = cf := by have := hi.symm.trans hf'; simp at this; exact this.1.symm
      rw [hdecl] at hown2
      rw [← e1]; exact Option.some.inj (hown.symm.trans hown2)
    have h6 := u_fits hfc hkC hkind (Or.inr hlay) hi hdj hn1 hfit1
    refine W.putFinK hx hb hown (hts _ f4) hi hst hcf (hin hin1) (by rw [q2]; exact h6) q1 q3 (by rw [hsl]; exact k2_hasslot (q4 j f2)) rfl rfl hd fun H' e1 e2 e3 => ?_
    rw [hsl] at e1 ⊢
    exact fin H' e1 e2 e3
theorem r_iaload {M : MD} {d mc ms pc pc' z k n : Nat} {Q : Option Value → Hp → Nat → Prop} {L S : List Value} {h : Hp} {a w : Nat} {f : Nat → Value} {i : Int32} {x : Int32} (hi : Ins M pc .iaload 1 pc') (hh : h a = some (.inl (.int, w, f))) (hin' : vp_in i w) (hv : f i.toNatClampNeg = .int x) (K : R M d mc ms Q pc' L (.int x :: S) h z k n) : R M d mc ms Q pc L (.int i :: .ref a :: S) h z k n := by
  intro p l e Rm s m args below meth c E Qf O H locs ls hH hS hL hk hn
  obtain ⟨hx, hb, hml, hown, hts, hrm, hin, hK, hZ, hX, hB, hRC⟩ := id O
  obtain ⟨hd, rfl⟩ := hi
  obtain ⟨-, cell, h1, h2, h3, h4, h5, h6, h7⟩ := hH.2.2.2.2 a _ hh
  have hlt : i.toNatClampNeg < w := Nat.not_le.mp fun q => hin' (Or.inr q)
  exact W.iald hx hb h1 h2 h3 (fun q => q.elim (fun q => hin' (Or.inl q)) (fun q => by dsimp only at h4; omega)) (by rw [h6 _ hlt]; exact congrArg (fun v => some (sh E v)) hv) rfl rfl hd (K p l e Rm s m args below meth c E Qf O H locs ls hH hS hL hk hn)
theorem r_laload {M : MD} {d mc ms pc pc' z k n : Nat} {Q : Option Value → Hp → Nat → Prop} {L S : List Value} {h : Hp} {a w : Nat} {f : Nat → Value} {i : Int32} {x : Int64} (hi : Ins M pc .laload 1 pc') (hh : h a = some (.inl (.long, w, f))) (hin' : vp_in i w) (hv : f i.toNatClampNeg = .long x) (K : R M d mc ms Q pc' L (.long x :: S) h z k n) : R M d mc ms Q pc L (.int i :: .ref a :: S) h z k n := by
  intro p l e Rm s m args below meth c E Qf O H locs ls hH hS hL hk hn
  obtain ⟨hx, hb, hml, hown, hts, hrm, hin, hK, hZ, hX, hB, hRC⟩ := id O
  obtain ⟨hd, rfl⟩ := hi
  obtain ⟨-, cell, h1, h2, h3, h4, h5, h6, h7⟩ := hH.2.2.2.2 a _ hh
  have hlt : i.toNatClampNeg < w := Nat.not_le.mp fun q => hin' (Or.inr q)
  exact W.lald hx hb h1 h2 h3 (fun q => q.elim (fun q => hin' (Or.inl q)) (fun q => by dsimp only at h4; omega)) (by rw [h6 _ hlt]; exact congrArg (fun v => some (sh E v)) hv) rfl rfl hd (K p l e Rm s m args below meth c E Qf O H locs ls hH hS hL hk hn)
theorem r_baload {M : MD} {d mc ms pc pc' z k n : Nat} {Q : Option Value → Hp → Nat → Prop} {L S : List Value} {h : Hp} {a w : Nat} {f : Nat → Value} {i : Int32} {x : Int32} (hi : Ins M pc .baload 1 pc') (hh : h a = some (.inl (.boolean, w, f))) (hin' : vp_in i w) (hv : f i.toNatClampNeg = .int x) (K : R M d mc ms Q pc' L (.int x :: S) h z k n) : R M d mc ms Q pc L (.int i :: .ref a :: S) h z k n := by
  intro p l e Rm s m args below meth c E Qf O H locs ls hH hS hL hk hn
  obtain ⟨hx, hb, hml, hown, hts, hrm, hin, hK, hZ, hX, hB, hRC⟩ := id O
  obtain ⟨hd, rfl⟩ := hi
  obtain ⟨-, cell, h1, h2, h3, h4, h5, h6, h7⟩ := hH.2.2.2.2 a _ hh
  have hlt : i.toNatClampNeg < w := Nat.not_le.mp fun q => hin' (Or.inr q)
  exact W.zald hx hb h1 h2 h3 (fun q => q.elim (fun q => hin' (Or.inl q)) (fun q => by dsimp only at h4; omega)) (by rw [h6 _ hlt]; exact congrArg (fun v => some (sh E v)) hv) rfl rfl hd (K p l e Rm s m args below meth c E Qf O H locs ls hH hS hL hk hn)
theorem r_aaload {M : MD} {d mc ms pc pc' z k n : Nat} {Q : Option Value → Hp → Nat → Prop} {L S : List Value} {h : Hp} {a w : Nat} {ty : FieldType} {f : Nat → Value} {i : Int32} {x : Nat} (hi : Ins M pc .aaload 1 pc') (hty : ty.isReference = true) (hh : h a = some (.inl (ty, w, f))) (hin' : vp_in i w) (hv : f i.toNatClampNeg = .ref x) (K : R M d mc ms Q pc' L (.ref x :: S) h z k n) : R M d mc ms Q pc L (.int i :: .ref a :: S) h z k n := by
  intro p l e Rm s m args below meth c E Qf O H locs ls hH hS hL hk hn
  obtain ⟨hx, hb, hml, hown, hts, hrm, hin, hK, hZ, hX, hB, hRC⟩ := id O
  obtain ⟨hd, rfl⟩ := hi
  obtain ⟨-, cell, h1, h2, h3, h4, h5, h6, h7⟩ := hH.2.2.2.2 a _ hh
  have hlt : i.toNatClampNeg < w := Nat.not_le.mp fun q => hin' (Or.inr q)
  exact W.aald hx hb h1 h2 hty h3 (fun q => q.elim (fun q => hin' (Or.inl q)) (fun q => by dsimp only at h4; omega)) (by rw [h6 _ hlt]; exact congrArg (fun v => some (sh E v)) hv) rfl rfl hd (K p l e Rm s m args below meth c E Qf O H locs ls hH hS hL hk hn)
theorem r_arraylength {M : MD} {d mc ms pc pc' z k n : Nat} {Q : Option Value → Hp → Nat → Prop} {L S : List Value} {h : Hp} {a w : Nat} {ty : FieldType} {f : Nat → Value} {v : Int32} (hi : Ins M pc .arraylength 1 pc') (hh : h a = some (.inl (ty, w, f))) (hv : Int32.ofNat w = v) (K : R M d mc ms Q pc' L (.int v :: S) h z k n) : R M d mc ms Q pc L (.ref a :: S) h z k n := by
  intro p l e Rm s m args below meth c E Qf O H locs ls hH hS hL hk hn
  obtain ⟨hx, hb, hml, hown, hts, hrm, hin, hK, hZ, hX, hB, hRC⟩ := id O
  obtain ⟨hd, rfl⟩ := hi
  obtain ⟨-, cell, h1, h2, h3, h4, h5, h6, h7⟩ := hH.2.2.2.2 a _ hh
  exact W.alen hx hb h1 h2 (by rw [h5]; exact hv) rfl rfl hd (K p l e Rm s m args below meth c E Qf O H locs ls hH hS hL hk hn)
theorem arAt_upd {E : eE} {s : State} {a w : Nat} {ty : FieldType} {f : Nat → Value} {H' : Heap} {cA : ClassId} {i : Nat} {v : Value} (hw : (arrV cA w (fun j => sh E (f j))).slots.size.toInt32 = Int32.ofNat w) (e2 : ArrOfT s cA ty) (e3 : va_RA s cA ty) (e : H'[ad E a]? = some ((arrV cA w (fun j => sh E (f j))).setSlot i (sh E v))) : arAt E s a ty w (updV f i v) H' := by
  rw [arrV_store] at e
  have hf : updV (fun j => sh E (f j)) i (sh E v) = fun j => sh E (updV f i v j) := by
    funext j
    unfold updV
    by_cases hj : j = i
    · rw [if_pos hj, if_pos hj]
    · rw [if_neg hj, if_neg hj]
  rw [hf] at e
  rw [arrV_size] at hw
  exact ⟨_, e, e2 _ _, (fun q => by cases q), by rw [arrV_size]; exact Nat.le_refl _, by rw [arrV_size], fun j hj => arrV_read _ _ hj, fun _ => ⟨cA, rfl, e2, e3⟩⟩
theorem r_iastore {M : MD} {d mc ms pc pc' z k n : Nat} {Q : Option Value → Hp → Nat → Prop} {L S : List Value} {h : Hp} {a w : Nat} {f : Nat → Value} {i : Int32} {x : Int32} (hi : Ins M pc .iastore 1 pc') (ha : 2 ≤ a) (hh : h a = some (.inl (.int, w, f))) (hin' : vp_in i w)  (K : R M d mc ms Q pc' L S (hset h a (.inl (.int, w, updV f i.toNatClampNeg (.int x)))) z k n) : R M d mc ms Q pc L (.int x :: .int i :: .ref a :: S) h z k n := by
  intro p l e Rm s m args below meth c E Qf O H locs ls hH hS hL hk hn
  obtain ⟨hx, hb, hml, hown, hts, hrm, hin, hK, hZ, hX, hB, hRC⟩ := id O
  obtain ⟨hd, rfl⟩ := hi
  obtain ⟨-, cell, h1, h2, h3, h4, h5, h6, h7⟩ := hH.2.2.2.2 a _ hh
  obtain ⟨cA, rfl, e2, e3⟩ := h7 ha
  refine W.iast hx hb h1 h2 h3 (by rw [arrV_size]; exact hin') rfl rfl hd fun H' e1 z1 o1 => ?_
  exact K p l e Rm s m args below meth c E Qf O H' _ ls (hH.set ha hh (arAt_upd (v := .int x) h5 e2 e3 e1) z1 o1) (va_S.put1 (s := s) (h := h) (z := z) hS ha z1 o1) hL hk hn
theorem r_lastore {M : MD} {d mc ms pc pc' z k n : Nat} {Q : Option Value → Hp → Nat → Prop} {L S : List Value} {h : Hp} {a w : Nat} {f : Nat → Value} {i : Int32} {x : Int64} (hi : Ins M pc .lastore 1 pc') (ha : 2 ≤ a) (hh : h a = some (.inl (.long, w, f))) (hin' : vp_in i w)  (K : R M d mc ms Q pc' L S (hset h a (.inl (.long, w, updV f i.toNatClampNeg (.long x)))) z k n) : R M d mc ms Q pc L (.long x :: .int i :: .ref a :: S) h z k n := by
  intro p l e Rm s m args below meth c E Qf O H locs ls hH hS hL hk hn
  obtain ⟨hx, hb, hml, hown, hts, hrm, hin, hK, hZ, hX, hB, hRC⟩ := id O
  obtain ⟨hd, rfl⟩ := hi
  obtain ⟨-, cell, h1, h2, h3, h4, h5, h6, h7⟩ := hH.2.2.2.2 a _ hh
  obtain ⟨cA, rfl, e2, e3⟩ := h7 ha
  refine W.last hx hb h1 h2 h3 (by rw [arrV_size]; exact hin') rfl rfl hd fun H' e1 z1 o1 => ?_
  exact K p l e Rm s m args below meth c E Qf O H' _ ls (hH.set ha hh (arAt_upd (v := .long x) h5 e2 e3 e1) z1 o1) (va_S.put1 (s := s) (h := h) (z := z) hS ha z1 o1) hL hk hn
theorem r_bastore {M : MD} {d mc ms pc pc' z k n : Nat} {Q : Option Value → Hp → Nat → Prop} {L S : List Value} {h : Hp} {a w : Nat} {f : Nat → Value} {i : Int32} {x : Int32} (hi : Ins M pc .bastore 1 pc') (ha : 2 ≤ a) (hh : h a = some (.inl (.boolean, w, f))) (hin' : vp_in i w) (h01 : x = 0 ∨ x = 1) (K : R M d mc ms Q pc' L S (hset h a (.inl (.boolean, w, updV f i.toNatClampNeg (.int x)))) z k n) : R M d mc ms Q pc L (.int x :: .int i :: .ref a :: S) h z k n := by
  intro p l e Rm s m args below meth c E Qf O H locs ls hH hS hL hk hn
  obtain ⟨hx, hb, hml, hown, hts, hrm, hin, hK, hZ, hX, hB, hRC⟩ := id O
  obtain ⟨hd, rfl⟩ := hi
  obtain ⟨-, cell, h1, h2, h3, h4, h5, h6, h7⟩ := hH.2.2.2.2 a _ hh
  obtain ⟨cA, rfl, e2, e3⟩ := h7 ha
  refine W.zast hx hb h1 h2 h3 (by rw [arrV_size]; exact hin') rfl rfl hd fun H' e1 z1 o1 => ?_
  rw [show narrow .boolean (.int x) = .int x by rcases h01 with rfl | rfl <;> rfl] at e1
  exact K p l e Rm s m args below meth c E Qf O H' _ ls (hH.set ha hh (arAt_upd (v := .int x) h5 e2 e3 e1) z1 o1) (va_S.put1 (s := s) (h := h) (z := z) hS ha z1 o1) hL hk hn
theorem r_aastore {M : MD} {d mc ms pc pc' z k n : Nat} {Q : Option Value → Hp → Nat → Prop} {L S : List Value} {h : Hp} {a w b ci : Nat} {C : String} {T : u_T} {N : Nat} {fs : List Value} {f : Nat → Value} {i : Int32} (hi : Ins M pc .aastore 1 pc') (ha : 2 ≤ a) (hh : h a = some (.inl (.object C, w, f))) (hin' : vp_in i w) (hb2 : h b = some (.inr (ci, fs))) (hci : vwCl[ci]? = some (C, T, N)) (K : R M d mc ms Q pc' L S (hset h a (.inl (.object C, w, updV f i.toNatClampNeg (.ref b)))) z k n) : R M d mc ms Q pc L (.ref b :: .int i :: .ref a :: S) h z k n := by
  intro p l e Rm s m args below meth c E Qf O H locs ls hH hS hL hk hn
  obtain ⟨hx, hb, hml, hown, hts, hrm, hin, hK, hZ, hX, hB, hRC⟩ := id O
  obtain ⟨hd, rfl⟩ := hi
  obtain ⟨-, cell, h1, h2, h3, h4, h5, h6, h7⟩ := hH.2.2.2.2 a _ hh
  obtain ⟨cA, rfl, e2, e3⟩ := h7 ha
  obtain ⟨-, g2, r', hr', cellV, g1, g3, g4, -⟩ := hH.2.2.2.2 b _ hb2
  have hlt : i.toNatClampNeg < w := Nat.not_le.mp fun q => hin' (Or.inr q)
  have hcls := (hK.1 ci _ hci).2
  obtain ⟨kA, comp, k1, k2, k3, -⟩ := id e3
  have hcomp : comp = (aD E).1 ci := Option.some.inj (k3.symm.trans hcls.1)
  subst hcomp
  obtain ⟨kC, hkC, -⟩ := hcls.2
  refine W.aast hx hb h1 (fun q h => by cases h) (fun h => by cases h) k1 k2 rfl hkC ⟨fun q => hin' (Or.inl q), by rw [arrV_size]; exact hlt⟩ g1 (fun q h => by rw [g4] at h; cases h) (by rw [g3]; exact hkC) (by rw [g3]; exact va_assign hcls) rfl rfl hd fun H' e1 z1 o1 => ?_
  exact K p l e Rm s m args below meth c E Qf O H' _ ls (hH.set ha hh (arAt_upd (v := .ref b) h5 e2 e3 e1) z1 o1) (va_S.put1 (s := s) (h := h) (z := z) hS ha z1 o1) hL hk hn
theorem arAt_new {E : eE} {s : State} {h : Hp} {z w : Nat} {ty : FieldType} {H H' : Heap} {cA : ClassId} {v : Value} (hH : hR E s h z H) (hsz : w < 2 ^ 31) (hv : sh E v = v) (e : H'[H.size]? = some (arrV cA w (fun _ => v))) (e2 : ArrOfT s cA ty) (e3 : va_RA s cA ty) : arAt E s z ty w (fun _ => v) H' := by
  have hf : (fun _ : Nat => v) = fun j => sh E ((fun _ : Nat => v) j) := by funext j; exact hv.symm
  rw [hf] at e
  refine ⟨_, by rw [hH.top]; exact e, e2 _ _, (fun q => by cases q), by rw [arrV_size]; exact Nat.le_refl _, by rw [arrV_size], fun j hj => arrV_read _ _ hj, fun _ => ⟨cA, rfl, e2, e3⟩⟩
theorem r_newarray {M : MD} {d mc ms pc pc' z k n : Nat} {Q : Option Value → Hp → Nat → Prop} {L S : List Value} {h : Hp} {atype : ArrayType} {w : Nat} {i : Int32} (hi : Ins M pc (.newarray atype) 2 pc') (hw : Cond.arrayClass (newarray.typeOf atype) ∈ GW) (hi0 : ¬ i < 0) (hiw : i.toNatClampNeg = w) (hlim : w ≤ 65536) (hk1 : k + 1 ≤ mc) (hn1 : n + w ≤ ms) (K : R M d mc ms Q pc' L (.ref z :: S) (hset h z (.inl (newarray.typeOf atype, w, fun _ => defaultValue (newarray.typeOf atype)))) (z + 1) (k + 1) (n + w)) : R M d mc ms Q pc L (.int i :: S) h z k n := by
  intro p l e Rm s m args below meth c E Qf O H locs ls hH hS hL hk hn
  obtain ⟨hx, hb, hml, hown, hts, hrm, hin, hK, hZ, hX, hB, hRC⟩ := id O
  obtain ⟨hd, rfl⟩ := hi
  have hcb : componentBytes (newarray.typeOf atype) ≤ 8 := by cases atype <;> decide
  refine va_newaK hx hb (hts _ hw) rfl hd rfl hi0 hiw (Nat.le_trans (Nat.mul_le_mul hlim hcb) (by decide)) (by omega) (by omega) rfl fun H1 cA e1 z1 o1 hAr hNm => ?_
  have hz0 : ad E z = H.size := hH.top
  have hst : (.ref H.size : Value) = sh E (.ref z) := by show _ = Value.ref (ad E z); rw [hz0]
  rw [hst]
  exact K p l e Rm s m args below meth c E Qf O H1 _ ls (hH.push (arAt_new hH (Nat.lt_of_le_of_lt hlim (by decide)) (by cases atype <;> rfl) e1 hAr (by cases atype <;> exact hNm)) z1 o1) (va_S.push1 hS (by omega) o1) hL hk1 hn1
theorem r_anewarray {M : MD} {d mc ms pc pc' z k n : Nat} {Q : Option Value → Hp → Nat → Prop} {L S : List Value} {h : Hp} {idx : Nat} {C : String} {w : Nat} {i : Int32} (hi : Ins M pc (.anewarray idx) 3 pc') (hw : Cond.classLink M.1.cls idx C ∈ GW) (hAO : ∀ s, XT s → va_AO C s) (hi0 : ¬ i < 0) (hiw : i.toNatClampNeg = w) (hlim : w ≤ 65536) (hk1 : k + 1 ≤ mc) (hn1 : n + w ≤ ms) (K : R M d mc ms Q pc' L (.ref z :: S) (hset h z (.inl (.object C, w, fun _ => .null))) (z + 1) (k + 1) (n + w)) : R M d mc ms Q pc L (.int i :: S) h z k n := by
  intro p l e Rm s m args below meth c E Qf O H locs ls hH hS hL hk hn
  obtain ⟨hx, hb, hml, hown, hts, hrm, hin, hK, hZ, hX, hB, hRC⟩ := id O
  obtain ⟨hd, rfl⟩ := hi
  subst hiw
  refine W.anew hx hb hown (hts _ hw) (va_AO.use (hAO s hX)) rfl hd rfl hi0 (by omega) (by omega) (by omega) fun cA kA comp f1 f2 f3 f4 => ?_
  generalize hH1 : H.push { cls := cA, slots := Array.replicate i.toNatClampNeg .null, vm := .none } = H1
  have e1 : H1[H.size]? = some (arrV cA i.toNatClampNeg (fun _ => .null)) := by rw [← hH1, Array.getElem?_push_size, ← arrV_new]
  have z1 : H1.size = H.size + 1 := by rw [← hH1, Array.size_push]
  have o1 : ∀ q : Nat, q < H.size → H1[q]? = H[q]? := fun q hq => by rw [← hH1, Array.getElem?_push, if_neg (Nat.ne_of_lt hq)]
  have hAr : ArrOfT s cA (.object C) := fun N z => ⟨(fun k h => by cases h), kA, f2, comp, f3⟩
  have hz0 : ad E z = H.size := hH.top
  have hst : (.ref H.size : Value) = sh E (.ref z) := by show _ = Value.ref (ad E z); rw [hz0]
  show W p l e Rm s m args below meth c H1 locs (k + 1) (n + i.toNatClampNeg) Qf (F0 m (pc + 3) ls (.ref H.size :: S.map (sh E)))
  rw [hst]
  exact K p l e Rm s m args below meth c E Qf O H1 _ ls (hH.push (arAt_new hH (Nat.lt_of_le_of_lt hlim (by decide)) rfl e1 hAr ⟨kA, comp, f2, f3, f4, f1⟩) z1 o1) (va_S.push1 hS (by omega) o1) hL hk1 hn1
theorem r_new {M : MD} {d mc ms pc pc' z k n : Nat} {Q : Option Value → Hp → Nat → Prop} {L S : List Value} {h : Hp} {idx ci N : Nat} {C : String} {T : u_T} {ty : Nat → FieldType} {fs : List Value} (hi : Ins M pc (.new idx) 3 pc') (hci : vwCl[ci]? = some (C, T, N)) (hw : Cond.classLink M.1.cls idx C ∈ GW ∧ Cond.instantiable C N ∈ GW ∧ Cond.initialized C ∈ GW ∧ (∀ w ∈ u_ws C T N, w ∈ GW)) (hty : ∀ k, k < N → parseFieldDescriptor (T k).2.2.1 = some (ty k)) (hfs : fs = (List.range N).map (fun j => defaultValue (ty j))) (hk1 : k + 1 ≤ mc) (hn1 : n + N ≤ ms) (K : R M d mc ms Q pc' L (.ref z :: S) (hset h z (.inr (ci, fs))) (z + 1) (k + 1) (n + N)) : R M d mc ms Q pc L S h z k n := by
  intro p l e Rm s m args below meth c E Qf O H locs ls hH hS hL hk hn
  obtain ⟨hx, hb, hml, hown, hts, hrm, hin, hK, hZ, hX, hB, hRC⟩ := id O
  obtain ⟨hd, rfl⟩ := hi
  obtain ⟨w1, w2, w3, w4⟩ := hw
  have hKn := hK.1 ci _ hci
  refine W.newcK hx hb hown (hts _ w1) (hts _ w2) (hts _ w3) rfl hd (by omega) (by omega) hKn.2.1 rfl fun H1 kC hkC e1 z1 o1 => ?_
  have hz0 : ad E z = H.size := hH.top
  have hst : (.ref H.size : Value) = sh E (.ref z) := by show _ = Value.ref (ad E z); rw [hz0]
  show W p l e Rm s m args below meth c H1 locs (k + 1) (n + N) Qf (F0 m (pc + 3) ls (.ref H.size :: S.map (sh E)))
  rw [hst]
  refine K p l e Rm s m args below meth c E Qf O H1 _ ls (hH.push ⟨hH.1, ?_⟩ z1 o1) (va_S.push1 hS (by omega) o1) hL hk1 hn1
  rw [hz0]
  refine ⟨_, hci, (u_born ty hts (fun w hw => w4 w hw) hKn hkC e1 hty).to fun j hj => ?_⟩
  subst hfs
  have hsd : ∀ t : FieldType, sh E (defaultValue t) = defaultValue t := fun t => by cases t <;> rfl
  simp [vp_V, List.getD, hj, hsd]
theorem r_objinit {M : MD} {d mc ms pc pc' z k n : Nat} {Q : Option Value → Hp → Nat → Prop} {L S : List Value} {h : Hp} {idx a : Nat} (hi : Ins M pc (.invokespecial idx) 3 pc') (hw : Cond.methodLink M.1.cls idx objectInit ∈ GW ∧ Cond.instanceMethod objectInit ∈ GW ∧ Cond.code objectInit ⟨#[0xb1]⟩ 1 none ∈ GW) (hd1 : 1 ≤ d) (hS8 : (S.map fun v => v.category).sum ≤ 8) (K : R M d mc ms Q pc' L S h z k n) : R M d mc ms Q pc L (.ref a :: S) h z k n := by
  intro p l e Rm s m args below meth c E Qf O H locs ls hH hS hL hk hn
  obtain ⟨hx, hb, hml, hown, hts, hrm, hin, hK, hZ, hX, hB, hRC⟩ := id O
  obtain ⟨hd, rfl⟩ := hi
  have hcat : ((S.map (sh E)).map fun v => v.category).sum ≤ 8 := by
    rw [List.map_map, show ((fun v : Value => v.category) ∘ sh E) = fun v => v.category from funext fun v => sh_cat E v]
    exact hS8
  refine W.objInit hx hb hown (hts _ hw.1) (hts _ hw.2.1) (hts _ hw.2.2) rfl (by rw [hml]; exact hL.1) rfl hd (by omega) ?_ (K p l e Rm s m args below meth c E Qf O H locs ls hH hS hL hk hn)
  show 2 * 0 + _ + 12 ≤ _
  omega
theorem r_getTENS {M : MD} {d mc ms pc pc' z k n : Nat} {Q : Option Value → Hp → Nat → Prop} {L S : List Value} {h : Hp} {idx : Nat} (hi : Ins M pc (.getstatic idx) 3 pc') (hw : Cond.fieldLink M.1.cls idx "UpWithSheaf" "TENS" "[J" ∈ GW) (K : R M d mc ms Q pc' L (.ref 1 :: S) h z k n) : R M d mc ms Q pc L S h z k n := by
  intro p l e Rm s m args below meth c E Qf O H locs ls hH hS hL hk hn
  obtain ⟨hx, hb, hml, hown, hts, hrm, hin, hK, hZ, hX, hB, hRC⟩ := id O
  obtain ⟨hd, rfl⟩ := hi
  exact va_gets (v := .ref E.2.1) hx hb hZ hS hown (hts _ hw) (fun _ h9 => h9) hd (K p l e Rm s m args below meth c E Qf O H locs ls hH hS hL hk hn)
theorem r_getTENSN {M : MD} {d mc ms pc pc' z k n : Nat} {Q : Option Value → Hp → Nat → Prop} {L S : List Value} {h : Hp} {idx : Nat} (hi : Ins M pc (.getstatic idx) 3 pc') (hM : M.1.cls = "UpWithSheaf$Ahead") (hidx : idx = 82) (K : R M d mc ms Q pc' L (.ref 1 :: S) h z k n) : R M d mc ms Q pc L S h z k n := by
  intro p l e Rm s m args below meth c E Qf O H locs ls hH hS hL hk hn
  obtain ⟨hx, hb, hml, hown, hts, hrm, hin, hK, hZ, hX, hB, hRC⟩ := id O
  obtain ⟨hd, rfl⟩ := hi
  subst hidx
  have h2 := hX.2.1
  rw [← hM] at h2
  exact va_getsN (v := .ref E.2.1) hx hb hZ hS hown (va_Nw.use rfl h2) (fun _ h9 => h9) hd (K p l e Rm s m args below meth c E Qf O H locs ls hH hS hL hk hn)
theorem catS {E : eE} {S : List Value} (hS8 : (S.map fun v => v.category).sum ≤ 8) : ((S.map (sh E)).map fun v => v.category).sum ≤ 8 := by
  rw [List.map_map, show ((fun v : Value => v.category) ∘ sh E) = fun v => v.category from funext fun v => sh_cat E v]
  exact hS8
theorem wld_at {E : eE} {h : Hp} {z : Nat} {s U : State} {H : Heap} {locs : List Loc} (hH : hR E s h z H) (hS : va_S (fun q => E.2.2.1 ≤ q) s.heap H locs) (hK : va_K (aD E) vwCl [] s) (hZ : va_Z "UpWithSheaf" "TENS" "[J" (.ref E.2.1) (fun q => E.2.2.1 ≤ q) s s.heap) (hX : XT s) (hU : U.heap = H) (hW : s.WarmedH U.vm) : wld E h z U := by
  refine ⟨by rw [hU]; exact hH.moved hW.alike, hK.moved hW.alike, ?_, hX.warm hW⟩
  rw [hU]
  exact (hZ.kept (H1 := H) fun a ha hna => hS.2.1 a ha hna).moved hW.alike
theorem cPc_blind (E : eE) (A : List Value) (h : Hp) (z : Nat) : FrameBlind (cPc E A h z) := by
  rintro a U g mk ⟨h1, h2, h3, h4, h5⟩
  exact ⟨h1, h2.moved (u := U) (U := U.calling g mk a) (Vm.Alike.refl U.vm), h3.moved (u := U) (U := U.calling g mk a) (Vm.Alike.refl U.vm), h4.moved (u := U) (U := U.calling g mk a) (Vm.Alike.refl U.vm), h5.same rfl⟩
theorem GW_wM {M : MD} (hc : Cond.code M.1 M.2.1 M.2.2.1 M.2.2.2 ∈ GW) : GoodIn GW (wM M) := fun w hw => by
  rcases List.mem_cons.mp hw with rfl | hw
  · exact GW_good _ hc
  · exact GW_good _ hw
theorem room_ok {d d' mc' ms' n : Nat} {Rm : Room} (hd : d' + 1 ≤ d) (hrm : d ≤ Rm.frames ∧ 48 * d ≤ Rm.locals) (hn : n ≤ 29) : (rmd d' mc' ms').frames + 1 ≤ Rm.frames ∧ 8 + (n + 11) + (rmd d' mc' ms').locals ≤ Rm.locals := by
  show d' + 1 ≤ Rm.frames ∧ 8 + (n + 11) + 48 * d' ≤ Rm.locals
  omega
/-- behind a call -/
theorem run_on {p : Program} {l : Launch} {e : Env} {Rm : Room} {s : State} {m : MethodId} {args : Array Value} {below : List Frame} {meth : Method} {c : Code} {H : Heap} {locs : List Loc} {k n mc' ms' pc : Nat} {Qf : State → Prop} {ls : Array Slot} {st0 S : List Value} {E : eE} {Q' : Option Value → Hp → Nat → Prop} {a : Array Value}
    (hr : va_Run p l e Rm s m args below meth c H locs k n mc' ms' (F0 m pc ls st0) (S.map (sh E)) (cQc E Q' a) (fun q => E.2.2.1 ≤ q)) (hS : va_S (fun q => E.2.2.1 ≤ q) s.heap H locs)
    (kk : ∀ (v : Option Value) (h' : Hp) (z' : Nat) (H1 : Heap) (locs1 : List Loc), Q' v h' z' → hR E s h' z' H1 → va_S (fun q => E.2.2.1 ≤ q) s.heap H1 locs1 → W p l e Rm s m args below meth c H1 locs1 (k + mc') (n + ms') Qf (F0 m (pc + 3) ls ((v.toList ++ S).map (sh E)))) : W p l e Rm s m args below meth c H locs k n Qf (F0 m pc ls st0) := by
  intro T hT X
  obtain ⟨v, st₀, t, T', Lc, h0, X', hLc, e1, e2, ⟨v1, h', z', hv, hq, hH1, hz, hk⟩, st⟩ := hr T hT X
  have hv1 : v = v1.map (sh E) := by injection hv
  rw [h0] at hz hk
  have hal : t.vm.Alike s.vm := by rw [← e2]; exact X'.warmed.alike.symm
  have hst : v.toList ++ S.map (sh E) = (v1.toList ++ S).map (sh E) := by rw [hv1]; cases v1 <;> rfl
  have hS1 : va_S (fun q => E.2.2.1 ≤ q) s.heap T'.heap (locs ++ Lc) := by
    refine ⟨Nat.le_trans hS.1 (by rw [e1]; exact hz), fun q g1 g2 => ?_, fun q hq => ?_⟩
    · rw [e1, hk q (Nat.lt_of_lt_of_le g1 hS.1) g2]
      exact hS.2.1 q g1 g2
    · rcases List.mem_append.mp hq with g | g
      · exact hS.2.2 q g
      · exact hLc q g
  obtain ⟨t2, a1, b1⟩ := kk v1 h' z' T'.heap (locs ++ Lc) hq (by rw [e1]; exact hH1.moved hal) hS1 T' rfl X'
  rw [hst] at st
  exact ⟨t2, st t2 a1, b1⟩
def CV (M : MD) (idx : Nat) (M' : MD) (na : Nat) : Prop := (Cond.methodLink M.1.cls idx M'.1 ∈ GW ∧ Cond.instanceMethod M'.1 ∈ GW ∧ Cond.selects M'.1.cls M'.1 M'.1 ∈ GW ∧ Cond.initialized M'.1.cls ∈ GW ∧ Cond.code M'.1 M'.2.1 M'.2.2.1 M'.2.2.2 ∈ GW) ∧ (M'.1.cls ≠ "java/lang/invoke/MethodHandle" ∧ M'.1.cls ≠ "java/lang/invoke/VarHandle" ∧ (parseMethodDescriptor M'.1.desc).map (fun d => d.parameters.length) = some na) ∧ M'.2.2.1 ≤ 29
def CS (M : MD) (idx : Nat) (M' : MD) (na : Nat) : Prop := (Cond.methodLink M.1.cls idx M'.1 ∈ GW ∧ Cond.static M'.1 ∈ GW ∧ Cond.initialized M'.1.cls ∈ GW ∧ Cond.code M'.1 M'.2.1 M'.2.2.1 M'.2.2.2 ∈ GW) ∧ (M'.1.cls ≠ "java/lang/invoke/MethodHandle" ∧ M'.1.cls ≠ "java/lang/invoke/VarHandle" ∧ (parseMethodDescriptor M'.1.desc).map (fun d => d.parameters.length) = some na) ∧ M'.2.2.1 ≤ 29
def CI (M : MD) (idx : Nat) (M' : MD) (na : Nat) : Prop := (Cond.methodLink M.1.cls idx M'.1 ∈ GW ∧ Cond.instanceMethod M'.1 ∈ GW ∧ Cond.initialized M'.1.cls ∈ GW ∧ Cond.code M'.1 M'.2.1 M'.2.2.1 M'.2.2.2 ∈ GW ∧ M'.1.name = "<init>" ∧ M'.2.2.2 = none) ∧ (M'.1.cls ≠ "java/lang/invoke/MethodHandle" ∧ M'.1.cls ≠ "java/lang/invoke/VarHandle" ∧ (parseMethodDescriptor M'.1.desc).map (fun d => d.parameters.length) = some na) ∧ M'.2.2.1 ≤ 29
def CSN (M : MD) (idx : Nat) (M' : MD) (na : Nat) : Prop := ((∃ host : String, (M.1.cls, idx, M'.1, host) ∈ NMl) ∧ Cond.static M'.1 ∈ GW ∧ Cond.initialized M'.1.cls ∈ GW ∧ Cond.code M'.1 M'.2.1 M'.2.2.1 M'.2.2.2 ∈ GW) ∧ (M'.1.cls ≠ "java/lang/invoke/MethodHandle" ∧ M'.1.cls ≠ "java/lang/invoke/VarHandle" ∧ (parseMethodDescriptor M'.1.desc).map (fun d => d.parameters.length) = some na) ∧ M'.2.2.1 ≤ 29
def CIN (M : MD) (idx : Nat) (M' : MD) (na : Nat) : Prop := ((∃ host : String, (M.1.cls, idx, M'.1, host) ∈ NMl) ∧ Cond.instanceMethod M'.1 ∈ GW ∧ Cond.initialized M'.1.cls ∈ GW ∧ Cond.code M'.1 M'.2.1 M'.2.2.1 M'.2.2.2 ∈ GW ∧ M'.1.name = "<init>" ∧ M'.2.2.2 = none) ∧ (M'.1.cls ≠ "java/lang/invoke/MethodHandle" ∧ M'.1.cls ≠ "java/lang/invoke/VarHandle" ∧ (parseMethodDescriptor M'.1.desc).map (fun d => d.parameters.length) = some na) ∧ M'.2.2.1 ≤ 29
set_option maxHeartbeats 1000000 in
theorem r_callV {M : MD} {d mc ms pc pc' z k n : Nat} {Q : Option Value → Hp → Nat → Prop} {L S : List Value} {h : Hp} {M' : MD} {d' mc' ms' idx na : Nat} {As St : List Value} {Q' : Option Value → Hp → Nat → Prop} {a : Nat} (hi : Ins M pc (.invokevirtual idx) 3 pc') (hc : CV M idx M' na) (hC : Cal M' d' mc' ms' (.ref a :: As) h z Q') (hd1 : d' + 1 ≤ d) {ci N : Nat} {T : u_T} {fs : List Value} (hh : h a = some (.inr (ci, fs))) (hci : vwCl[ci]? = some (M'.1.cls, T, N)) (hna : As.length = na) (hst : St = As.reverse ++ .ref a :: S) (hS8 : (S.map fun v => v.category).sum ≤ 8) (hk1 : k + mc' ≤ mc) (hn1 : n + ms' ≤ ms) (K : ∀ v h' z', Q' v h' z' → R M d mc ms Q pc' L (v.toList ++ S) h' z' (k + mc') (n + ms')) : R M d mc ms Q pc L St h z k n := by
  intro p l e Rm s m args below meth c E Qf O H locs ls hH hS hL hk hn
  obtain ⟨hx, hb, hml, hown, hts, hrm, hin, hK, hZ, hX, hB, hRC⟩ := id O
  obtain ⟨hd, rfl⟩ := hi
  subst hst
  obtain ⟨hw, hd3, hm29⟩ := hc
  obtain ⟨w1, w2, w3, w4, w5⟩ := hw
  have hG : GoodIn GW (wsV M.1.cls idx M'.1.cls M'.1 (wM M')) := fun w hw => by
    rcases List.mem_append.mp hw with hw | hw
    · simp only [List.mem_cons, List.not_mem_nil, or_false] at hw
      rcases hw with rfl | rfl | rfl | rfl <;> exact GW_good _ (by assumption)
    · exact GW_wM w5 w hw
  obtain ⟨-, g2, g3⟩ := hH.2.2.2.2 a _ hh
  have hrecv : ∃ cell : Cell, H[ad E a]? = some cell ∧ cell.vm.isStatics = false ∧ s.vm.findClass M'.1.cls = some cell.cls := by
    obtain ⟨r, h1, cell, q1, q2, q3, -⟩ := g3
    cases h1.symm.trans hci
    exact ⟨cell, q1, by rw [q3]; rfl, by rw [q2]; exact (hK.1 ci _ hci).2.1⟩
  exact run_on (va_runV (As := As.map (sh E)) (rest := S.map (sh E)) ⟨hx, hb, hml, hown, hts⟩ (hC l E) (cwV na hts hG rfl rfl rfl ⟨rfl, hd3⟩ (room_ok hd1 ⟨hrm.1, hrm.2.1⟩ hm29)) ⟨cPc_blind _ _ _ _, hrecv, fun U hU hW => ⟨rfl, wld_at hH hS hK hZ hX hU hW⟩⟩ rfl (by rw [List.length_map]; exact hna) hL.1 (by show List.map (sh E) _ = _; simp [List.map_append, List.map_reverse, sh]) (lv_room (catS hS8)) hd ⟨by omega, by omega⟩) hS (fun v h' z' H1 locs1 hq hH1 hS1 => K v h' z' hq p l e Rm s m args below meth c E Qf O H1 locs1 ls hH1 hS1 hL hk1 hn1)
set_option maxHeartbeats 1000000 in
theorem r_callS {M : MD} {d mc ms pc pc' z k n : Nat} {Q : Option Value → Hp → Nat → Prop} {L S : List Value} {h : Hp} {M' : MD} {d' mc' ms' idx na : Nat} {As St : List Value} {Q' : Option Value → Hp → Nat → Prop}  (hi : Ins M pc (.invokestatic idx) 3 pc') (hc : CS M idx M' na) (hC : Cal M' d' mc' ms' (As) h z Q') (hd1 : d' + 1 ≤ d)  (hna : As.length = na) (hst : St = As.reverse ++ S) (hS8 : (S.map fun v => v.category).sum ≤ 8) (hk1 : k + mc' ≤ mc) (hn1 : n + ms' ≤ ms) (K : ∀ v h' z', Q' v h' z' → R M d mc ms Q pc' L (v.toList ++ S) h' z' (k + mc') (n + ms')) : R M d mc ms Q pc L St h z k n := by
  intro p l e Rm s m args below meth c E Qf O H locs ls hH hS hL hk hn
  obtain ⟨hx, hb, hml, hown, hts, hrm, hin, hK, hZ, hX, hB, hRC⟩ := id O
  obtain ⟨hd, rfl⟩ := hi
  subst hst
  obtain ⟨hw, hd3, hm29⟩ := hc
  obtain ⟨w1, w2, w3, w5⟩ := hw
  have hG : GoodIn GW (va_wsS M.1.cls idx M'.1 (wM M')) := fun w hw => by
    rcases List.mem_append.mp hw with hw | hw
    · simp only [List.mem_cons, List.not_mem_nil, or_false] at hw
      rcases hw with rfl | rfl | rfl <;> exact GW_good _ (by assumption)
    · exact GW_wM w5 w hw
  exact run_on (va_runS (As := As.map (sh E)) (rest := S.map (sh E)) ⟨hx, hb, hml, hown, hts⟩ (hC l E) (va_cwS na hts hG rfl rfl rfl hd3 (room_ok hd1 ⟨hrm.1, hrm.2.1⟩ hm29)) ⟨cPc_blind _ _ _ _, fun U hU hW => ⟨rfl, wld_at hH hS hK hZ hX hU hW⟩⟩ rfl (by rw [List.length_map]; exact hna) hL.1 (by show List.map (sh E) _ = _; simp [List.map_append, List.map_reverse, sh]) (lv_room (catS hS8)) hd ⟨by omega, by omega⟩) hS (fun v h' z' H1 locs1 hq hH1 hS1 => K v h' z' hq p l e Rm s m args below meth c E Qf O H1 locs1 ls hH1 hS1 hL hk1 hn1)
set_option maxHeartbeats 1000000 in
theorem r_callI {M : MD} {d mc ms pc pc' z k n : Nat} {Q : Option Value → Hp → Nat → Prop} {L S : List Value} {h : Hp} {M' : MD} {d' mc' ms' idx na : Nat} {As St : List Value} {Q' : Option Value → Hp → Nat → Prop} {a : Nat} (hi : Ins M pc (.invokespecial idx) 3 pc') (hc : CI M idx M' na) (hC : Cal M' d' mc' ms' (.ref a :: As) h z Q') (hd1 : d' + 1 ≤ d)  (hna : As.length = na) (hst : St = As.reverse ++ .ref a :: S) (hS8 : (S.map fun v => v.category).sum ≤ 8) (hk1 : k + mc' ≤ mc) (hn1 : n + ms' ≤ ms) (K : ∀ v h' z', Q' v h' z' → R M d mc ms Q pc' L (v.toList ++ S) h' z' (k + mc') (n + ms')) : R M d mc ms Q pc L St h z k n := by
  intro p l e Rm s m args below meth c E Qf O H locs ls hH hS hL hk hn
  obtain ⟨hx, hb, hml, hown, hts, hrm, hin, hK, hZ, hX, hB, hRC⟩ := id O
  obtain ⟨hd, rfl⟩ := hi
  subst hst
  obtain ⟨hw, hd3, hm29⟩ := hc
  obtain ⟨w1, w2, w4, w5, w6, w7⟩ := hw
  have hws : wM M' = Cond.code M'.1 M'.2.1 M'.2.2.1 none :: GW := by unfold wM; rw [w7]
  exact run_on (va_runI (As := As.map (sh E)) (rest := S.map (sh E)) ⟨hx, hb, hml, hown, hts⟩ (hC l E) (cwI na hts (GW_wM w5) hws rfl rfl (hts _ w4) (hts _ w1) (hts _ w2) w6 hd3 (room_ok hd1 ⟨hrm.1, hrm.2.1⟩ hm29)) ⟨cPc_blind _ _ _ _, fun U hU hW => ⟨rfl, wld_at hH hS hK hZ hX hU hW⟩⟩ rfl (by rw [List.length_map]; exact hna) hL.1 (by show List.map (sh E) _ = _; simp [List.map_append, List.map_reverse, sh]) (lv_room (catS hS8)) hd ⟨by omega, by omega⟩) hS (fun v h' z' H1 locs1 hq hH1 hS1 => K v h' z' hq p l e Rm s m args below meth c E Qf O H1 locs1 ls hH1 hS1 hL hk1 hn1)
set_option maxHeartbeats 1000000 in
theorem r_callSN {M : MD} {d mc ms pc pc' z k n : Nat} {Q : Option Value → Hp → Nat → Prop} {L S : List Value} {h : Hp} {M' : MD} {d' mc' ms' idx na : Nat} {As St : List Value} {Q' : Option Value → Hp → Nat → Prop}  (hi : Ins M pc (.invokestatic idx) 3 pc') (hc : CSN M idx M' na) (hC : Cal M' d' mc' ms' (As) h z Q') (hd1 : d' + 1 ≤ d)  (hna : As.length = na) (hst : St = As.reverse ++ S) (hS8 : (S.map fun v => v.category).sum ≤ 8) (hk1 : k + mc' ≤ mc) (hn1 : n + ms' ≤ ms) (K : ∀ v h' z', Q' v h' z' → R M d mc ms Q pc' L (v.toList ++ S) h' z' (k + mc') (n + ms')) : R M d mc ms Q pc L St h z k n := by
  intro p l e Rm s m args below meth c E Qf O H locs ls hH hS hL hk hn
  obtain ⟨hx, hb, hml, hown, hts, hrm, hin, hK, hZ, hX, hB, hRC⟩ := id O
  obtain ⟨hd, rfl⟩ := hi
  subst hst
  obtain ⟨hw, hd3, hm29⟩ := hc
  obtain ⟨⟨host, w1⟩, w2, w3, w5⟩ := hw
  exact run_on (va_runSN (As := As.map (sh E)) (rest := S.map (sh E)) ⟨hx, hb, hml, hown, hts⟩ (hC l E) ⟨va_cnB na hts (GW_wM w5) rfl rfl rfl (hX.1 _ w1) (hts _ w3) hd3 (room_ok hd1 ⟨hrm.1, hrm.2.1⟩ hm29), hts _ w2, trivial⟩ ⟨cPc_blind _ _ _ _, fun U hU hW => ⟨rfl, wld_at hH hS hK hZ hX hU hW⟩⟩ rfl (by rw [List.length_map]; exact hna) hL.1 (by show List.map (sh E) _ = _; simp [List.map_append, List.map_reverse, sh]) (lv_room (catS hS8)) hd ⟨by omega, by omega⟩) hS (fun v h' z' H1 locs1 hq hH1 hS1 => K v h' z' hq p l e Rm s m args below meth c E Qf O H1 locs1 ls hH1 hS1 hL hk1 hn1)
set_option maxHeartbeats 1000000 in
theorem r_callIN {M : MD} {d mc ms pc pc' z k n : Nat} {Q : Option Value → Hp → Nat → Prop} {L S : List Value} {h : Hp} {M' : MD} {d' mc' ms' idx na : Nat} {As St : List Value} {Q' : Option Value → Hp → Nat → Prop} {a : Nat} (hi : Ins M pc (.invokespecial idx) 3 pc') (hc : CIN M idx M' na) (hC : Cal M' d' mc' ms' (.ref a :: As) h z Q') (hd1 : d' + 1 ≤ d)  (hna : As.length = na) (hst : St = As.reverse ++ .ref a :: S) (hS8 : (S.map fun v => v.category).sum ≤ 8) (hk1 : k + mc' ≤ mc) (hn1 : n + ms' ≤ ms) (K : ∀ v h' z', Q' v h' z' → R M d mc ms Q pc' L (v.toList ++ S) h' z' (k + mc') (n + ms')) : R M d mc ms Q pc L St h z k n := by
  intro p l e Rm s m args below meth c E Qf O H locs ls hH hS hL hk hn
  obtain ⟨hx, hb, hml, hown, hts, hrm, hin, hK, hZ, hX, hB, hRC⟩ := id O
  obtain ⟨hd, rfl⟩ := hi
  subst hst
  obtain ⟨hw, hd3, hm29⟩ := hc
  obtain ⟨⟨host, w1⟩, w2, w4, w5, w6, w7⟩ := hw
  have hws : wM M' = Cond.code M'.1 M'.2.1 M'.2.2.1 none :: GW := by unfold wM; rw [w7]
  exact run_on (va_runIN (As := As.map (sh E)) (rest := S.map (sh E)) ⟨hx, hb, hml, hown, hts⟩ (hC l E) ⟨va_cnB na hts (GW_wM w5) hws rfl rfl (hX.1 _ w1) (hts _ w4) hd3 (room_ok hd1 ⟨hrm.1, hrm.2.1⟩ hm29), w6, hts _ w2⟩ ⟨cPc_blind _ _ _ _, fun U hU hW => ⟨rfl, wld_at hH hS hK hZ hX hU hW⟩⟩ rfl (by rw [List.length_map]; exact hna) hL.1 (by show List.map (sh E) _ = _; simp [List.map_append, List.map_reverse, sh]) (lv_room (catS hS8)) hd ⟨by omega, by omega⟩) hS (fun v h' z' H1 locs1 hq hH1 hS1 => K v h' z' hq p l e Rm s m args below meth c E Qf O H1 locs1 ls hH1 hS1 hL hk1 hn1)
