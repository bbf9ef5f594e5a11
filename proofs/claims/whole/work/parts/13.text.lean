/-! the text: how long, its bytes; the class's Text, two cells from x on -/
abbrev Tx : Type := Nat × (Nat → Int32)
def tOv (h : Hp) (x : Nat) (T : Tx) : Hp := fun a => if a = x then some (.inr (3, [.ref (x + 1), .int (nI T.1)])) else if a = x + 1 then some (.inl (.int, 16, fun j => .int (T.2 j))) else h a
theorem tOv_obj (h : Hp) (x : Nat) (T : Tx) : tOv h x T x = some (.inr (3, [.ref (x + 1), .int (nI T.1)])) := if_pos rfl
theorem tOv_arr (h : Hp) (x : Nat) (T : Tx) : tOv h x T (x + 1) = some (.inl (.int, 16, fun j => .int (T.2 j))) := by
  unfold tOv
  rw [if_neg (by omega), if_pos rfl]
theorem tOv_out (h : Hp) (x : Nat) (T : Tx) {a : Nat} (ha : a < x ∨ x + 2 ≤ a) : tOv h x T a = h a := by
  unfold tOv
  rw [if_neg (by omega), if_neg (by omega)]
theorem tOv_len (h : Hp) (x l l' : Nat) (B : Nat → Int32) : hset (tOv h x (l, B)) x (.inr (3, [.ref (x + 1), .int (nI l')])) = tOv h x (l', B) := by
  funext a
  by_cases ha : a = x
  · subst ha; rw [hset_eq, tOv_obj]
  · rw [hset_ne _ _ ha]; unfold tOv; rw [if_neg ha, if_neg ha]
theorem updV_int (f : Nat → Int32) (k : Nat) (x : Int32) : updV (fun j => .int (f j)) k (.int x) = fun j => .int (upd f k x j) := by
  funext j
  unfold updV upd
  by_cases h : j = k
  · rw [if_pos h, if_pos h]
  · rw [if_neg h, if_neg h]
theorem updV_long (f : Nat → Int64) (k : Nat) (x : Int64) : updV (fun j => .long (f j)) k (.long x) = fun j => .long (vp_updL f k x j) := by
  funext j
  unfold updV vp_updL
  by_cases h : j = k
  · rw [if_pos h, if_pos h]
  · rw [if_neg h, if_neg h]
theorem tOv_byte (h : Hp) (x l : Nat) (B : Nat → Int32) {k : Nat} {v : Int32} {i : Int32} (hk : i.toNatClampNeg = k) : hset (tOv h x (l, B)) (x + 1) (.inl (.int, 16, updV (fun j => .int (B j)) i.toNatClampNeg (.int v))) = tOv h x (l, upd B k v) := by
  rw [updV_int, hk]
  funext a
  by_cases ha : a = x + 1
  · subst ha; rw [hset_eq, tOv_arr]
  · rw [hset_ne _ _ ha]; unfold tOv; rw [if_neg ha, if_neg ha]
def tAt (h : Hp) (x : Nat) (T : Tx) : Prop := h x = some (.inr (3, [.ref (x + 1), .int (nI T.1)])) ∧ h (x + 1) = some (.inl (.int, 16, fun j => .int (T.2 j)))
theorem tAt.ov {h : Hp} {x : Nat} {T : Tx} (H : tAt h x T) : tOv h x T = h := by
  funext a
  unfold tOv
  by_cases g : a = x
  · rw [if_pos g, g, H.1]
  · rw [if_neg g]
    by_cases g2 : a = x + 1
    · rw [if_pos g2, g2, H.2]
    · rw [if_neg g2]
theorem tAt_ov (h : Hp) (x : Nat) (T : Tx) : tAt (tOv h x T) x T := ⟨tOv_obj h x T, tOv_arr h x T⟩
theorem r_tlength {M : MD} {d mc ms pc pc' z k m : Nat} {Q : Option Value → Hp → Nat → Prop} {L S : List Value} {h : Hp} {idx x l l' : Nat} {B : Nat → Int32} (hi : Ins M pc (.putfield idx) 3 pc') (hl : FP M idx 3 1 .int) (hx : 2 ≤ x) (K : R M d mc ms Q pc' L S (tOv h x (l', B)) z k m) : R M d mc ms Q pc L (.int (nI l') :: .ref x :: S) (tOv h x (l, B)) z k m :=
  r_putfield hi hl hx (tOv_obj _ _ _) (Nat.le_of_ble_eq_true rfl) ⟨rfl, rfl⟩ (by have e := tOv_len h x l l' B; exact e ▸ K)
/-- the k-th byte of v from behind -/
def byt (v : Int64) (k : Nat) : Int32 := ((v.toUInt64 >>> ((nI (8 * k)).toInt64.toUInt64 &&& Int64.toUInt64 63)).toInt64).toInt32 &&& 255
def app (v : Int64) : Nat → Tx → Tx
  | 0, T => T
  | k + 1, T => app v k (T.1 + 1, upd T.2 T.1 (byt v k))
theorem c4_append (h : Hp) (x : Nat) (hx : 2 ≤ x) (l : Nat) (B : Nat → Int32) (n : Nat) (hn : n ≤ 8) (hl : l + n ≤ 16) (v : Int64) : Pr MX4_append 0 [.ref x, .int (nI n), .long v] (tOv h x (l, B)) none (tOv h x (app v n (l, B))) := by
  intro z
  refine Cal_of_R (by decide +kernel) (L := [.ref x, .int (nI n), .long v, .null, .null]) rfl (Nat.le_of_ble_eq_true rfl) ?_
  have loop : ∀ (j l : Nat) (B : Nat → Int32) (w : Int32), j ≤ 8 → l + j ≤ 16 → w = nI j - 1 → R MX4_append 0 0 0 (fun v' h' z' => v' = none ∧ h' = tOv h x (app v j (l, B)) ∧ z' = z) 5 [.ref x, .int (nI n), .long v, .null, .int w] [] (tOv h x (l, B)) z 0 0 := by
    intro j
    induction j with
    | zero =>
      intro l B w hj hl hw
      have h0 : w < 0 := by rw [hw]; decide
      refine r_iload iX4_append_5 rfl ?_
      refine r_if_lt iX4_append_7 (fun _ => ?_) (fun g9 => absurd (h0) g9)
      refine r_vret iX4_append_64 rfl ?_
      exact ⟨rfl, rfl, rfl⟩
    | succ j ih =>
      intro l B w hj hl hw
      have hw2 : w = nI j := by rw [hw, nI_pred]
      subst hw2
      refine r_iload iX4_append_5 rfl ?_
      refine r_if_lt iX4_append_7 (fun g9 => absurd g9 (nI_pos (by omega))) (fun _ => ?_)
      refine r_aload iX4_append_10 rfl ?_
      refine r_getfield iX4_append_11 (flX4_15 _ rfl) (tOv_obj _ _ _) rfl ?_
      refine r_if_lt iX4_append_14 (fun g9 => absurd g9 (nI_pos (by omega))) (fun _ => ?_)
      refine r_aload iX4_append_17 rfl ?_
      refine r_getfield iX4_append_18 (flX4_15 _ rfl) (tOv_obj _ _ _) rfl ?_
      refine r_bipush (v := 16) iX4_append_21 rfl ?_
      refine r_icmp_lt iX4_append_23 (fun _ => ?_) (fun g9 => absurd (nI_lt (b := 16) (by omega) (by omega)) g9)
      refine r_aload iX4_append_27 rfl ?_
      refine r_getfield iX4_append_28 (flX4_9 _ rfl) (tOv_obj _ _ _) rfl ?_
      refine r_aload iX4_append_31 rfl ?_
      refine r_getfield iX4_append_32 (flX4_15 _ rfl) (tOv_obj _ _ _) rfl ?_
      refine r_lload iX4_append_35 rfl ?_
      refine r_bipush (v := 8) iX4_append_36 rfl ?_
      refine r_iload iX4_append_38 rfl ?_
      refine r_imul iX4_append_40 ?_
      refine r_lushr iX4_append_41 ?_
      refine r_l2i iX4_append_42 ?_
      refine r_sipush (v := 255) iX4_append_43 rfl ?_
      have e8 : (8 : Int32) * nI j = nI (8 * j) := pk_mul 8 j
      rw [e8]
      refine r_iand iX4_append_46 ?_
      refine r_iastore iX4_append_47 (by omega) (tOv_arr _ _ _) (vp_in_nI (by omega) (by decide)) ?_
      rw [show nI (l, B).fst = nI l from rfl, tOv_byte (k := l) h x l B (nI_clamp (by omega))]
      refine r_aload iX4_append_48 rfl ?_
      refine r_dup iX4_append_49 rfl ?_
      refine r_getfield iX4_append_50 (flX4_15 _ rfl) (tOv_obj _ _ _) rfl ?_
      refine r_iconst (v := 1) iX4_append_53 rfl ?_
      refine r_iadd iX4_append_54 ?_
      have e1 : nI l + 1 = nI (l + 1) := nI_1 l
      rw [e1]
      refine r_tlength iX4_append_55 (fpX4_15 _ rfl) hx ?_
      refine r_iinc_4 iX4_append_58 rfl rfl ?_
      refine r_goto iX4_append_61 ?_
      exact ih (l + 1) _ _ (by omega) (by omega) (Int32.sub_eq_add_neg (nI j) 1).symm
  refine r_iload iX4_append_0 rfl ?_
  refine r_iconst (v := 1) iX4_append_1 rfl ?_
  refine r_isub iX4_append_2 ?_
  refine r_istore_4 iX4_append_3 rfl ?_
  exact loop n l B _ hn hl rfl
theorem nI_at {B : Nat → Int32} {p : Nat} (hp : p < 2 ^ 31) : (fun j => Value.int (B j)) (nI p).toNatClampNeg = .int (B p) := by
  show Value.int (B (nI p).toNatClampNeg) = _
  rw [nI_clamp hp]
def rng (lo s : Int32) : Bool := !decide (s < lo) && !decide (57 < s)
def stand (p : Nat) (s : Int32) : Bool := if p = 0 then decide (s = 85) else if p = 1 then rng 48 s else if p < 14 then (if (p - 2) % 3 = 0 then decide (s = 84) else rng (if (p - 2) % 3 = 1 then 48 else 49) s) else false
theorem b2i_t {b : Bool} (h : b = true) : b2i b = 1 := by rw [h]; rfl
theorem b2i_f {b : Bool} (h : b = false) : b2i b = 0 := by rw [h]; rfl
theorem c4_canStand (h : Hp) (p : Nat) (hp : p < 16) (s : Int32) : Fn MX4_canStand 0 [.int (nI p), .int s] h (some (.int (b2i (stand p s)))) := by
  intro z
  refine Cal_of_R (by decide +kernel) (L := [.int (nI p), .int s, .null]) rfl (Nat.le_of_ble_eq_true rfl) ?_
  refine r_iload iX4_canStand_0 rfl ?_
  refine r_if_ne iX4_canStand_1 (fun g0 => ?_) (fun g0 => ?_)
  · have hp0 : ¬ p = 0 := fun q => g0 (by rw [q]; rfl)
    refine r_iload iX4_canStand_16 rfl ?_
    refine r_iconst (v := 1) iX4_canStand_17 rfl ?_
    refine r_icmp_ne iX4_canStand_18 (fun g1 => ?_) (fun g1 => ?_)
    · have hp1 : ¬ p = 1 := fun q => g1 (by rw [q]; rfl)
      refine r_iload iX4_canStand_39 rfl ?_
      refine r_bipush (v := 14) iX4_canStand_40 rfl ?_
      refine r_icmp_lt iX4_canStand_42 (fun g2 => ?_) (fun g2 => ?_)
      · have hp2 : p < 14 := (nI_ltI (b := 14) (by omega) (by omega)).mp g2
        have e1 : nI p - 2 = nI (p - 2) := pk_sub (a := p) (b := 2) (by omega)
        have e2 : nI (p - 2) - nI (p - 2) / 3 * 3 = nI ((p - 2) % 3) := pk_rem (d := 3) (by omega) (by omega) (by omega)
        have tail : ∀ (lo w : Int32), (p - 2) % 3 ≠ 0 → lo = (if (p - 2) % 3 = 1 then 48 else 49) → R MX4_canStand 0 0 0 (fun v h' z' => v = some (.int (b2i (stand p s))) ∧ h' = h ∧ z' = z) 82 [.int (nI p), .int s, .int w] [.int lo, .int s] h z 0 0 := by
          intro lo w h3 hlo
          have e : stand p s = rng lo s := by rw [stand, if_neg hp0, if_neg hp1, if_pos hp2, if_neg h3, ← hlo]
          rw [e]
          refine r_icmp_lt iX4_canStand_82 (fun g5 => ?_) (fun g5 => ?_)
          · refine r_iconst (v := 0) iX4_canStand_95 rfl ?_
            refine r_zret iX4_canStand_96 rfl (Or.inl rfl) ?_
            exact ⟨by rw [b2i_f (by simp [rng, g5])], rfl, rfl⟩
          · refine r_iload iX4_canStand_85 rfl ?_
            refine r_bipush (v := 57) iX4_canStand_86 rfl ?_
            refine r_icmp_gt iX4_canStand_88 (fun g6 => ?_) (fun g6 => ?_)
            · refine r_iconst (v := 0) iX4_canStand_95 rfl ?_
              refine r_zret iX4_canStand_96 rfl (Or.inl rfl) ?_
              exact ⟨by rw [b2i_f (by simp [rng, g6])], rfl, rfl⟩
            · refine r_iconst (v := 1) iX4_canStand_91 rfl ?_
              refine r_goto iX4_canStand_92 ?_
              refine r_zret iX4_canStand_96 rfl (Or.inr rfl) ?_
              exact ⟨by rw [b2i_t (by simp [rng, g5, g6])], rfl, rfl⟩
        refine r_iload iX4_canStand_47 rfl ?_
        refine r_iconst (v := 2) iX4_canStand_48 rfl ?_
        refine r_isub iX4_canStand_49 ?_
        rw [e1]
        refine r_iconst (v := 3) iX4_canStand_50 rfl ?_
        refine r_irem iX4_canStand_51 (by decide) ?_
        rw [e2]
        refine r_istore_2 iX4_canStand_52 rfl ?_
        refine r_iload iX4_canStand_53 rfl ?_
        refine r_if_ne iX4_canStand_54 (fun g3 => ?_) (fun g3 => ?_)
        · have h3 : (p - 2) % 3 ≠ 0 := fun q => g3 (by rw [q]; rfl)
          refine r_iload iX4_canStand_69 rfl ?_
          refine r_iload iX4_canStand_70 rfl ?_
          refine r_iconst (v := 1) iX4_canStand_71 rfl ?_
          refine r_icmp_ne iX4_canStand_72 (fun g4 => ?_) (fun g4 => ?_)
          · refine r_bipush (v := 49) iX4_canStand_80 rfl ?_
            exact tail 49 _ h3 (by rw [if_neg (fun q => g4 (by rw [q]; rfl))])
          · have h4 : (p - 2) % 3 = 1 := (nI_eq (b := 1) (by omega) (by omega)).mp g4
            refine r_bipush (v := 48) iX4_canStand_75 rfl ?_
            refine r_goto iX4_canStand_77 ?_
            exact tail 48 _ h3 (by rw [if_pos h4])
        · have h3 : (p - 2) % 3 = 0 := (nI_eq (b := 0) (by omega) (by omega)).mp g3
          have e : stand p s = decide (s = 84) := by rw [stand, if_neg hp0, if_neg hp1, if_pos hp2, if_pos h3]
          rw [e]
          refine r_iload iX4_canStand_57 rfl ?_
          refine r_bipush (v := 84) iX4_canStand_58 rfl ?_
          refine r_icmp_ne iX4_canStand_60 (fun g5 => ?_) (fun g5 => ?_)
          · refine r_iconst (v := 0) iX4_canStand_67 rfl ?_
            refine r_zret iX4_canStand_68 rfl (Or.inl rfl) ?_
            exact ⟨by rw [b2i_f (by simpa using g5)], rfl, rfl⟩
          · refine r_iconst (v := 1) iX4_canStand_63 rfl ?_
            refine r_goto iX4_canStand_64 ?_
            refine r_zret iX4_canStand_68 rfl (Or.inr rfl) ?_
            exact ⟨by rw [b2i_t (by simpa using g5)], rfl, rfl⟩
      · have hp2 : ¬ p < 14 := fun q => g2 (nI_lt (b := 14) q (by omega))
        refine r_iconst (v := 0) iX4_canStand_45 rfl ?_
        refine r_zret iX4_canStand_46 rfl (Or.inl rfl) ?_
        exact ⟨by rw [b2i_f (by rw [stand, if_neg hp0, if_neg hp1, if_neg hp2])], rfl, rfl⟩
    · have hp1 : p = 1 := (nI_eq (b := 1) (by omega) (by omega)).mp g1
      have e : stand p s = rng 48 s := by rw [stand, if_neg hp0, if_pos hp1]
      rw [e]
      refine r_iload iX4_canStand_21 rfl ?_
      refine r_bipush (v := 48) iX4_canStand_22 rfl ?_
      refine r_icmp_lt iX4_canStand_24 (fun g5 => ?_) (fun g5 => ?_)
      · refine r_iconst (v := 0) iX4_canStand_37 rfl ?_
        refine r_zret iX4_canStand_38 rfl (Or.inl rfl) ?_
        exact ⟨by rw [b2i_f (by simp [rng, g5])], rfl, rfl⟩
      · refine r_iload iX4_canStand_27 rfl ?_
        refine r_bipush (v := 57) iX4_canStand_28 rfl ?_
        refine r_icmp_gt iX4_canStand_30 (fun g6 => ?_) (fun g6 => ?_)
        · refine r_iconst (v := 0) iX4_canStand_37 rfl ?_
          refine r_zret iX4_canStand_38 rfl (Or.inl rfl) ?_
          exact ⟨by rw [b2i_f (by simp [rng, g6])], rfl, rfl⟩
        · refine r_iconst (v := 1) iX4_canStand_33 rfl ?_
          refine r_goto iX4_canStand_34 ?_
          refine r_zret iX4_canStand_38 rfl (Or.inr rfl) ?_
          exact ⟨by rw [b2i_t (by simp [rng, g5, g6])], rfl, rfl⟩
  · have hp0 : p = 0 := (nI_eq (b := 0) (by omega) (by omega)).mp g0
    have e : stand p s = decide (s = 85) := by rw [stand, if_pos hp0]
    rw [e]
    refine r_iload iX4_canStand_4 rfl ?_
    refine r_bipush (v := 85) iX4_canStand_5 rfl ?_
    refine r_icmp_ne iX4_canStand_7 (fun g5 => ?_) (fun g5 => ?_)
    · refine r_iconst (v := 0) iX4_canStand_14 rfl ?_
      refine r_zret iX4_canStand_15 rfl (Or.inl rfl) ?_
      exact ⟨by rw [b2i_f (by simpa using g5)], rfl, rfl⟩
    · refine r_iconst (v := 1) iX4_canStand_10 rfl ?_
      refine r_goto iX4_canStand_11 ?_
      refine r_zret iX4_canStand_15 rfl (Or.inr rfl) ?_
      exact ⟨by rw [b2i_t (by simpa using g5)], rfl, rfl⟩
/-- the first place from p on, j places, that isn't g -/
def srch (g : Nat → Bool) : Nat → Nat → Nat
  | p, 0 => p
  | p, j + 1 => if g p = true then srch g (p + 1) j else p
theorem srch_le (g : Nat → Bool) : ∀ j p, srch g p j ≤ p + j
  | 0, p => Nat.le_refl _
  | j + 1, p => by rw [srch]; have := srch_le g j (p + 1); split <;> omega
/-- the fault of a text -/
def flt (l : Nat) (B : Nat → Int32) : Int32 := if srch (fun p => stand p (B p)) 0 l < l then nI (srch (fun p => stand p (B p)) 0 l) else if l < 2 ∨ (l - 2) % 3 ≠ 0 then nI l else -9
theorem c4_firstFault (h : Hp) (x l : Nat) (hl : l ≤ 16) (B : Nat → Int32) : Fn MX4_firstFault 1 [.ref x] (tOv h x (l, B)) (some (.int (flt l B))) := by
  intro z
  refine Cal_of_R (by decide +kernel) (L := [.ref x, .null]) rfl (Nat.le_of_ble_eq_true rfl) ?_
  have tail : ∀ w z, ¬ srch (fun p => stand p (B p)) 0 l < l → R MX4_firstFault 1 0 0 (fun v h' z' => v = some (.int (flt l B)) ∧ h' = tOv h x (l, B) ∧ z' = z) 37 [.ref x, .int w] [] (tOv h x (l, B)) z 0 0 := by
    intro w z hs
    refine r_aload iX4_firstFault_37 rfl ?_
    refine r_getfield iX4_firstFault_38 (flX4_15 _ rfl) (tOv_obj _ _ _) rfl ?_
    refine r_iconst (v := 2) iX4_firstFault_41 rfl ?_
    refine r_icmp_lt iX4_firstFault_42 (fun g1 => ?_) (fun g1 => ?_)
    · have h1 : l < 2 := (nI_ltI (b := 2) (by omega) (by omega)).mp g1
      refine r_aload iX4_firstFault_56 rfl ?_
      refine r_getfield iX4_firstFault_57 (flX4_15 _ rfl) (tOv_obj _ _ _) rfl ?_
      refine r_iret iX4_firstFault_60 rfl ?_
      exact ⟨by rw [flt, if_neg hs, if_pos (Or.inl h1)], rfl, rfl⟩
    · have h1 : ¬ l < 2 := fun q => g1 (nI_lt (b := 2) q (by omega))
      have e1 : nI l - 2 = nI (l - 2) := pk_sub (a := l) (b := 2) (by omega)
      have e2 : nI (l - 2) - nI (l - 2) / 3 * 3 = nI ((l - 2) % 3) := pk_rem (d := 3) (by omega) (by omega) (by omega)
      refine r_aload iX4_firstFault_45 rfl ?_
      refine r_getfield iX4_firstFault_46 (flX4_15 _ rfl) (tOv_obj _ _ _) rfl ?_
      refine r_iconst (v := 2) iX4_firstFault_49 rfl ?_
      refine r_isub iX4_firstFault_50 ?_
      rw [show nI (l, B).fst = nI l from rfl, e1]
      refine r_iconst (v := 3) iX4_firstFault_51 rfl ?_
      refine r_irem iX4_firstFault_52 (by decide) ?_
      rw [e2]
      refine r_if_eq iX4_firstFault_53 (fun g2 => ?_) (fun g2 => ?_)
      · have h2 : (l - 2) % 3 = 0 := (nI_eq (b := 0) (by omega) (by omega)).mp g2
        refine r_bipush (v := (-9)) iX4_firstFault_61 rfl ?_
        refine r_iret iX4_firstFault_63 rfl ?_
        exact ⟨by rw [flt, if_neg hs, if_neg (by omega)], rfl, rfl⟩
      · have h2 : (l - 2) % 3 ≠ 0 := fun q => g2 (by rw [q]; rfl)
        refine r_aload iX4_firstFault_56 rfl ?_
        refine r_getfield iX4_firstFault_57 (flX4_15 _ rfl) (tOv_obj _ _ _) rfl ?_
        refine r_iret iX4_firstFault_60 rfl ?_
        exact ⟨by rw [flt, if_neg hs, if_pos (Or.inr h2)], rfl, rfl⟩
  have loop : ∀ (j p : Nat), p + j = l → srch (fun p => stand p (B p)) 0 l = srch (fun p => stand p (B p)) p j → ∀ z, R MX4_firstFault 1 0 0 (fun v h' z' => v = some (.int (flt l B)) ∧ h' = tOv h x (l, B) ∧ z' = z) 2 [.ref x, .int (nI p)] [] (tOv h x (l, B)) z 0 0 := by
    intro j
    induction j with
    | zero =>
      intro p hp hr z
      refine r_iload iX4_firstFault_2 rfl ?_
      refine r_aload iX4_firstFault_3 rfl ?_
      refine r_getfield iX4_firstFault_4 (flX4_15 _ rfl) (tOv_obj _ _ _) rfl ?_
      refine r_icmp_ge iX4_firstFault_7 (fun _ => ?_) (fun g9 => absurd (nI_le (by omega) (by omega)) g9)
      exact tail _ _ (by rw [hr, srch]; omega)
    | succ j ih =>
      intro p hp hr z
      have hr2 := hr
      rw [srch] at hr2
      refine r_iload iX4_firstFault_2 rfl ?_
      refine r_aload iX4_firstFault_3 rfl ?_
      refine r_getfield iX4_firstFault_4 (flX4_15 _ rfl) (tOv_obj _ _ _) rfl ?_
      refine r_icmp_ge iX4_firstFault_7 (fun g9 => absurd g9 (nI_ge (by omega) (by omega))) (fun _ => ?_)
      refine r_iload iX4_firstFault_10 rfl ?_
      refine r_bipush (v := 16) iX4_firstFault_11 rfl ?_
      refine r_icmp_ge iX4_firstFault_13 (fun g9 => absurd g9 (nI_ge (b := 16) (by omega) (by omega))) (fun _ => ?_)
      refine r_iload iX4_firstFault_16 rfl ?_
      refine r_aload iX4_firstFault_17 rfl ?_
      refine r_getfield iX4_firstFault_18 (flX4_9 _ rfl) (tOv_obj _ _ _) rfl ?_
      refine r_iload iX4_firstFault_21 rfl ?_
      refine r_iaload iX4_firstFault_22 (tOv_arr _ _ _) (vp_in_nI (by omega) (by decide)) (nI_at (by omega)) ?_
      refine r_callS iX4_firstFault_23 (cX4_19 _ rfl) (c4_canStand _ p (by omega) (B p) _) (by omega) rfl rfl (Nat.le_of_ble_eq_true rfl) (by first | exact Nat.le_of_ble_eq_true rfl | omega) (by first | exact Nat.le_of_ble_eq_true rfl | omega) ?_
      rintro v h' z' ⟨rfl, rfl, rfl⟩
      cases g : stand p (B p) with
      | false =>
        rw [if_neg (by rw [g]; decide)] at hr2
        refine r_if_ne iX4_firstFault_26 (fun g9 => absurd (rfl) g9) (fun _ => ?_)
        refine r_iload iX4_firstFault_29 rfl ?_
        refine r_iret iX4_firstFault_30 rfl ?_
        exact ⟨by rw [flt, hr2, if_pos (by omega)], rfl, rfl⟩
      | true =>
        rw [if_pos g] at hr2
        refine r_if_ne iX4_firstFault_26 (fun _ => ?_) (fun g9 => absurd g9 (by decide))
        refine r_iinc_1 iX4_firstFault_31 (by first | exact nI_inc _ | rfl) rfl ?_
        refine r_goto iX4_firstFault_34 ?_
        exact ih (p + 1) (by omega) hr2 z'
  refine r_iconst (v := 0) iX4_firstFault_0 rfl ?_
  refine r_istore_1 iX4_firstFault_1 rfl ?_
  exact loop l 0 (by omega) rfl z
theorem c4_figureAt (h : Hp) (x l : Nat) (hl : l ≤ 16) (B : Nat → Int32) (p : Nat) (hp : p < l) : Fn MX4_figureAt 0 [.ref x, .int (nI p)] (tOv h x (l, B)) (some (.int (B p - 48))) := by
  intro z
  refine Cal_of_R (by decide +kernel) (L := [.ref x, .int (nI p)]) rfl (Nat.le_of_ble_eq_true rfl) ?_
  refine r_iload iX4_figureAt_0 rfl ?_
  refine r_if_lt iX4_figureAt_1 (fun g9 => absurd g9 (nI_pos (by omega))) (fun _ => ?_)
  refine r_iload iX4_figureAt_4 rfl ?_
  refine r_aload iX4_figureAt_5 rfl ?_
  refine r_getfield iX4_figureAt_6 (flX4_15 _ rfl) (tOv_obj _ _ _) rfl ?_
  refine r_icmp_ge iX4_figureAt_9 (fun g9 => absurd g9 (nI_ge (by omega) (by omega))) (fun _ => ?_)
  refine r_iload iX4_figureAt_12 rfl ?_
  refine r_bipush (v := 16) iX4_figureAt_13 rfl ?_
  refine r_icmp_ge iX4_figureAt_15 (fun g9 => absurd g9 (nI_ge (b := 16) (by omega) (by omega))) (fun _ => ?_)
  refine r_aload iX4_figureAt_18 rfl ?_
  refine r_getfield iX4_figureAt_19 (flX4_9 _ rfl) (tOv_obj _ _ _) rfl ?_
  refine r_iload iX4_figureAt_22 rfl ?_
  refine r_iaload iX4_figureAt_23 (tOv_arr _ _ _) (vp_in_nI (by omega) (by decide)) (nI_at (by omega)) ?_
  refine r_bipush (v := 48) iX4_figureAt_24 rfl ?_
  refine r_isub iX4_figureAt_26 ?_
  refine r_goto iX4_figureAt_27 ?_
  refine r_iret iX4_figureAt_31 rfl ?_
  exact ⟨rfl, rfl, rfl⟩
theorem c4_barTold (h : Hp) (x l : Nat) (hl : l ≤ 16) (B : Nat → Int32) (h2 : 2 ≤ l) : Fn MX4_barTold 1 [.ref x] (tOv h x (l, B)) (some (.int (B 1 - 48))) := by
  intro z
  refine Cal_of_R (by decide +kernel) (L := [.ref x]) rfl (Nat.le_of_ble_eq_true rfl) ?_
  refine r_aload iX4_barTold_0 rfl ?_
  refine r_iconst (v := 1) iX4_barTold_1 rfl ?_
  refine r_callV iX4_barTold_2 (cX4_29 _ rfl) (c4_figureAt h x l hl B 1 (by omega) _) (by omega) (tOv_obj _ _ _) rfl rfl rfl (Nat.le_of_ble_eq_true rfl) (by first | exact Nat.le_of_ble_eq_true rfl | omega) (by first | exact Nat.le_of_ble_eq_true rfl | omega) ?_
  rintro v h' z' ⟨rfl, rfl, rfl⟩
  refine r_iret iX4_barTold_5 rfl ?_
  exact ⟨rfl, rfl, rfl⟩
theorem c4_strengthTold (h : Hp) (x l : Nat) (hl : l ≤ 16) (B : Nat → Int32) (i : Nat) (hi : 3 * i + 5 ≤ l) : Fn MX4_strengthTold 1 [.ref x, .int (nI i)] (tOv h x (l, B)) (some (.int (B (3 * i + 3) - 48))) := by
  intro z
  refine Cal_of_R (by decide +kernel) (L := [.ref x, .int (nI i)]) rfl (Nat.le_of_ble_eq_true rfl) ?_
  have e : (2 : Int32) + 3 * nI i + 1 = nI (3 * i + 3) := by
    rw [show (3 : Int32) * nI i = nI (3 * i) from pk_mul 3 i, show (2 : Int32) + nI (3 * i) = nI (2 + 3 * i) from nI_add 2 _, show nI (2 + 3 * i) + 1 = nI (2 + 3 * i + 1) from nI_1 _]
    congr 1; omega
  refine r_aload iX4_strengthTold_0 rfl ?_
  refine r_iconst (v := 2) iX4_strengthTold_1 rfl ?_
  refine r_iconst (v := 3) iX4_strengthTold_2 rfl ?_
  refine r_iload iX4_strengthTold_3 rfl ?_
  refine r_imul iX4_strengthTold_4 ?_
  refine r_iadd iX4_strengthTold_5 ?_
  refine r_iconst (v := 1) iX4_strengthTold_6 rfl ?_
  refine r_iadd iX4_strengthTold_7 ?_
  rw [e]
  refine r_callV iX4_strengthTold_8 (cX4_29 _ rfl) (c4_figureAt h x l hl B (3 * i + 3) (by omega) _) (by omega) (tOv_obj _ _ _) rfl rfl rfl (Nat.le_of_ble_eq_true rfl) (by first | exact Nat.le_of_ble_eq_true rfl | omega) (by first | exact Nat.le_of_ble_eq_true rfl | omega) ?_
  rintro v h' z' ⟨rfl, rfl, rfl⟩
  refine r_iret iX4_strengthTold_11 rfl ?_
  exact ⟨rfl, rfl, rfl⟩
theorem c4_windTold (h : Hp) (x l : Nat) (hl : l ≤ 16) (B : Nat → Int32) (i : Nat) (hi : 3 * i + 5 ≤ l) : Fn MX4_windTold 1 [.ref x, .int (nI i)] (tOv h x (l, B)) (some (.int (B (3 * i + 4) - 48))) := by
  intro z
  refine Cal_of_R (by decide +kernel) (L := [.ref x, .int (nI i)]) rfl (Nat.le_of_ble_eq_true rfl) ?_
  have e : (2 : Int32) + 3 * nI i + 2 = nI (3 * i + 4) := by
    rw [show (3 : Int32) * nI i = nI (3 * i) from pk_mul 3 i, show (2 : Int32) + nI (3 * i) = nI (2 + 3 * i) from nI_add 2 _, show nI (2 + 3 * i) + 2 = nI (2 + 3 * i + 2) from nI_add _ 2]
    congr 1; omega
  refine r_aload iX4_windTold_0 rfl ?_
  refine r_iconst (v := 2) iX4_windTold_1 rfl ?_
  refine r_iconst (v := 3) iX4_windTold_2 rfl ?_
  refine r_iload iX4_windTold_3 rfl ?_
  refine r_imul iX4_windTold_4 ?_
  refine r_iadd iX4_windTold_5 ?_
  refine r_iconst (v := 2) iX4_windTold_6 rfl ?_
  refine r_iadd iX4_windTold_7 ?_
  rw [e]
  refine r_callV iX4_windTold_8 (cX4_29 _ rfl) (c4_figureAt h x l hl B (3 * i + 4) (by omega) _) (by omega) (tOv_obj _ _ _) rfl rfl rfl (Nat.le_of_ble_eq_true rfl) (by first | exact Nat.le_of_ble_eq_true rfl | omega) (by first | exact Nat.le_of_ble_eq_true rfl | omega) ?_
  rintro v h' z' ⟨rfl, rfl, rfl⟩
  refine r_iret iX4_windTold_11 rfl ?_
  exact ⟨rfl, rfl, rfl⟩
theorem c4_throwersTold (h : Hp) (x n : Nat) (hn : n ≤ 4) (B : Nat → Int32) : Fn MX4_throwersTold 1 [.ref x] (tOv h x (3 * n + 2, B)) (some (.int (nI n))) := by
  intro z
  refine Cal_of_R (by decide +kernel) (L := [.ref x]) rfl (Nat.le_of_ble_eq_true rfl) ?_
  have e1 : nI (3 * n + 2) - 2 = nI (3 * n) := pk_sub (a := 3 * n + 2) (b := 2) (by omega)
  have e2 : nI (3 * n) / 3 = nI n := by rw [show nI (3 * n) / 3 = nI (3 * n / 3) from pk_div (d := 3) (by omega) (by omega) (by omega)]; congr 1; omega
  have e3 : imin (nI n) 4 = nI n := by
    unfold imin
    by_cases g : (4 : Int32) < nI n
    · exact absurd ((nI_ltI (a := 4) (by omega) (by omega)).mp g) (by omega)
    · rw [if_neg g]
  refine r_aload iX4_throwersTold_0 rfl ?_
  refine r_getfield iX4_throwersTold_1 (flX4_15 _ rfl) (tOv_obj _ _ _) rfl ?_
  refine r_iconst (v := 2) iX4_throwersTold_4 rfl ?_
  refine r_icmp_ge iX4_throwersTold_5 (fun _ => ?_) (fun g9 => absurd (nI_le (a := 2) (by omega) (by omega)) g9)
  refine r_aload iX4_throwersTold_12 rfl ?_
  refine r_getfield iX4_throwersTold_13 (flX4_15 _ rfl) (tOv_obj _ _ _) rfl ?_
  refine r_iconst (v := 2) iX4_throwersTold_16 rfl ?_
  refine r_isub iX4_throwersTold_17 ?_
  rw [show nI (3 * n + 2, B).fst = nI (3 * n + 2) from rfl, e1]
  refine r_iconst (v := 3) iX4_throwersTold_18 rfl ?_
  refine r_idiv iX4_throwersTold_19 (by decide) ?_
  rw [e2]
  refine r_iconst (v := 4) iX4_throwersTold_20 rfl ?_
  refine r_mmin iX4_throwersTold_21 (cX4_23 _ rfl) (by omega) (Nat.le_of_ble_eq_true rfl) ?_
  refine r_iret iX4_throwersTold_24 rfl ?_
  exact ⟨by rw [e3], rfl, rfl⟩
