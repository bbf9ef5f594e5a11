/-! the model's ranks, odds and turns -/
theorem En.mk {A : Nat → Nat → Int32} {l n : Nat} {b u : Int32} {t : Nat → Nat → Int32} (H : En A l n b u t) {i w : Nat} (hi : i < n) (hw : w < 7) : A 3 (30 * l + 2 + 7 * i + w) = t i (w + 2) := ((H.2.2 i hi).2.2 w hw).symm
/-- the value of a thrower's marks -/
def kVal (k : Nat → Int32) : Int32 := (k 4 + 10) * 1000000 + (if k 4 = -9 then 0 else 999 - k 5) * 1000 + 999 - k 6
def VOk (k : Nat → Int32) : Prop := ((k 4 = -9 ∧ k 5 = -9) ∨ ∃ x y, x ≤ 20 ∧ y ≤ 20 ∧ k 4 = nI x ∧ k 5 = nI y) ∧ ∃ a, a ≤ 300 ∧ k 6 = nI a
theorem kVal_none {k : Nat → Int32} {a : Nat} (ha : a ≤ 300) (h4 : k 4 = -9) (h6 : k 6 = nI a) : kVal k = nI (1000999 - a) := by
  unfold kVal
  rw [if_pos h4, h4, h6, show ((-9 : Int32) + 10) * 1000000 + 0 * 1000 + 999 = nI 1000999 by decide +kernel, nI_sub (by omega)]
theorem kVal_some {k : Nat → Int32} {x y a : Nat} (hx : x ≤ 20) (hy : y ≤ 20) (ha : a ≤ 300) (h4 : k 4 = nI x) (h5 : k 5 = nI y) (h6 : k 6 = nI a) : kVal k = nI ((x + 10) * 1000000 + (999 - y) * 1000 + 999 - a) := by
  unfold kVal
  rw [if_neg (by rw [h4]; exact nI_9 (by omega)), h4, h5, h6]
  have e1 : (nI x + 10) * 1000000 = nI ((x + 10) * 1000000) := by rw [← nI_mul, ← nI_add]; rfl
  have e2 : ((999 : Int32) - nI y) * 1000 = nI ((999 - y) * 1000) := by rw [← nI_mul, ← nI_sub (show y ≤ 999 by omega)]; rfl
  rw [e1, e2, nI_add, show (nI ((x + 10) * 1000000 + (999 - y) * 1000) + 999 : Int32) = nI ((x + 10) * 1000000 + (999 - y) * 1000 + 999) from nI_add _ 999, nI_sub (by omega)]
theorem kVal_lt {k k2 : Nat → Int32} (H : VOk k) (H2 : VOk k2) : kVal k < kVal k2 ↔ kBetter k2 k = true := by
  obtain ⟨h, a, ha, h6⟩ := H
  obtain ⟨h2, a2, ha2, h62⟩ := H2
  rcases h with ⟨h4, h5⟩ | ⟨x, y, hx, hy, h4, h5⟩ <;> rcases h2 with ⟨g4, g5⟩ | ⟨x2, y2, hx2, hy2, g4, g5⟩
  · rw [kVal_none ha h4 h6, kVal_none ha2 g4 h62, nI_ltI (by omega) (by omega)]
    unfold kBetter
    rw [if_pos (by rw [h4, g4]), if_pos (by rw [h5, g5]), h6, h62, decide_eq_true_iff, nI_ltI (by omega) (by omega)]
    omega
  · rw [kVal_none ha h4 h6, kVal_some hx2 hy2 ha2 g4 g5 h62, nI_ltI (by omega) (by omega)]
    unfold kBetter
    rw [if_neg (by rw [h4, g4]; exact nI_9 (by omega)), h4, g4, decide_eq_true_iff]
    have : (-9 : Int32) < nI x2 := by
      rw [Int32.lt_iff_toInt_lt, nI_toInt (by omega)]; show (-9 : Int) < _; omega
    exact ⟨fun _ => this, fun _ => by omega⟩
  · rw [kVal_some hx hy ha h4 h5 h6, kVal_none ha2 g4 h62, nI_ltI (by omega) (by omega)]
    unfold kBetter
    rw [if_neg (by rw [h4, g4]; exact fun q => nI_9 (by omega) q.symm), h4, g4, decide_eq_true_iff]
    have : ¬ nI x < (-9 : Int32) := by
      rw [Int32.lt_iff_toInt_lt, nI_toInt (by omega)]; show ¬ _ < (-9 : Int); omega
    exact ⟨fun _ => by omega, fun q => absurd q this⟩
  · rw [kVal_some hx hy ha h4 h5 h6, kVal_some hx2 hy2 ha2 g4 g5 h62, nI_ltI (by omega) (by omega)]
    unfold kBetter
    rw [h4, g4, h5, g5, h6, h62]
    by_cases e : x2 = x
    · subst e
      rw [if_pos rfl]
      by_cases e : y2 = y
      · subst e
        rw [if_pos rfl, decide_eq_true_iff, nI_ltI (by omega) (by omega)]
        omega
      · rw [if_neg (fun q => e ((nI_eq (by omega) (by omega)).mp q)), decide_eq_true_iff, nI_ltI (by omega) (by omega)]
        omega
    · rw [if_neg (fun q => e ((nI_eq (by omega) (by omega)).mp q)), decide_eq_true_iff, nI_ltI (by omega) (by omega)]
      omega
theorem c7_value (h : Hp) (x y a : Int32) : Fn MX7_value 0 [.int x, .int y, .int a] h (some (.int ((x + 10) * 1000000 + (if x = -9 then 0 else 999 - y) * 1000 + 999 - a))) := by
  intro z
  refine Cal_of_R (by decide +kernel) (L := [.int x, .int y, .int a]) rfl (Nat.le_of_ble_eq_true rfl) ?_
  by_cases g : x = -9
  · refine r_iload iX7_value_0 rfl ?_
    refine r_bipush (v := 10) iX7_value_1 rfl ?_
    refine r_iadd iX7_value_3 ?_
    refine r_ldc (v := 1000000) iX7_value_4 (gt_3 120 rfl rfl) ?_
    refine r_imul iX7_value_6 ?_
    refine r_iload iX7_value_7 rfl ?_
    refine r_bipush (v := (-9)) iX7_value_8 rfl ?_
    refine r_icmp_ne iX7_value_10 (fun g9 => absurd (g) g9) (fun _ => ?_)
    refine r_iconst (v := 0) iX7_value_13 rfl ?_
    refine r_goto iX7_value_14 ?_
    refine r_sipush (v := 1000) iX7_value_22 rfl ?_
    refine r_imul iX7_value_25 ?_
    refine r_iadd iX7_value_26 ?_
    refine r_sipush (v := 999) iX7_value_27 rfl ?_
    refine r_iadd iX7_value_30 ?_
    refine r_iload iX7_value_31 rfl ?_
    refine r_isub iX7_value_32 ?_
    refine r_iret iX7_value_33 rfl ?_
    exact ⟨by rw [if_pos g], rfl, rfl⟩
  · refine r_iload iX7_value_0 rfl ?_
    refine r_bipush (v := 10) iX7_value_1 rfl ?_
    refine r_iadd iX7_value_3 ?_
    refine r_ldc (v := 1000000) iX7_value_4 (gt_3 120 rfl rfl) ?_
    refine r_imul iX7_value_6 ?_
    refine r_iload iX7_value_7 rfl ?_
    refine r_bipush (v := (-9)) iX7_value_8 rfl ?_
    refine r_icmp_ne iX7_value_10 (fun _ => ?_) (fun g9 => absurd g9 (g))
    refine r_sipush (v := 999) iX7_value_17 rfl ?_
    refine r_iload iX7_value_20 rfl ?_
    refine r_isub iX7_value_21 ?_
    refine r_sipush (v := 1000) iX7_value_22 rfl ?_
    refine r_imul iX7_value_25 ?_
    refine r_iadd iX7_value_26 ?_
    refine r_sipush (v := 999) iX7_value_27 rfl ?_
    refine r_iadd iX7_value_30 ?_
    refine r_iload iX7_value_31 rfl ?_
    refine r_isub iX7_value_32 ?_
    refine r_iret iX7_value_33 rfl ?_
    exact ⟨by rw [if_neg g], rfl, rfl⟩
theorem c7_valueOf (h : Hp) (I : Nat → Int32) (J : Nat → Int64) {A : Nat → Nat → Int32} (me : Nat → Int64) {l n : Nat} {b u : Int32} {t : Nat → Nat → Int32} (H : En A l n b u t) (hl : l < 2) (hn : n ≤ 4) {i : Nat} (hi : i < n) : Fn MX7_valueOf 1 [.ref 152, .int (nI l), .int (nI i)] (mOv h (I, J, A, me)) (some (.int (kVal (t i)))) := by
  intro z
  refine Cal_of_R (by decide +kernel) (L := [.ref 152, .int (nI l), .int (nI i)]) rfl (Nat.le_of_ble_eq_true rfl) ?_
  refine r_aload iX7_valueOf_0 rfl ?_
  refine r_iload iX7_valueOf_1 rfl ?_
  refine r_iload iX7_valueOf_2 rfl ?_
  refine r_iconst (v := 2) iX7_valueOf_3 rfl ?_
  refine r_callV iX7_valueOf_4 (cX7_77 _ rfl) (c7_mark h I J A me hl (t := i) (by omega) (w := 2) (by omega) _) (by omega) (mOv_obj _ _) rfl rfl rfl (Nat.le_of_ble_eq_true rfl) (by first | exact Nat.le_of_ble_eq_true rfl | omega) (by first | exact Nat.le_of_ble_eq_true rfl | omega) ?_
  rintro v h' z' ⟨rfl, rfl, rfl⟩
  refine r_aload iX7_valueOf_7 rfl ?_
  refine r_iload iX7_valueOf_8 rfl ?_
  refine r_iload iX7_valueOf_9 rfl ?_
  refine r_iconst (v := 3) iX7_valueOf_10 rfl ?_
  refine r_callV iX7_valueOf_11 (cX7_77 _ rfl) (c7_mark h I J A me hl (t := i) (by omega) (w := 3) (by omega) _) (by omega) (mOv_obj _ _) rfl rfl rfl (Nat.le_of_ble_eq_true rfl) (by first | exact Nat.le_of_ble_eq_true rfl | omega) (by first | exact Nat.le_of_ble_eq_true rfl | omega) ?_
  rintro v h' z' ⟨rfl, rfl, rfl⟩
  refine r_aload iX7_valueOf_14 rfl ?_
  refine r_iload iX7_valueOf_15 rfl ?_
  refine r_iload iX7_valueOf_16 rfl ?_
  refine r_iconst (v := 4) iX7_valueOf_17 rfl ?_
  refine r_callV iX7_valueOf_18 (cX7_77 _ rfl) (c7_mark h I J A me hl (t := i) (by omega) (w := 4) (by omega) _) (by omega) (mOv_obj _ _) rfl rfl rfl (Nat.le_of_ble_eq_true rfl) (by first | exact Nat.le_of_ble_eq_true rfl | omega) (by first | exact Nat.le_of_ble_eq_true rfl | omega) ?_
  rintro v h' z' ⟨rfl, rfl, rfl⟩
  refine r_callS iX7_valueOf_21 (cX7_82 _ rfl) (c7_value _ _ _ _ _) (by omega) rfl rfl (Nat.le_of_ble_eq_true rfl) (by first | exact Nat.le_of_ble_eq_true rfl | omega) (by first | exact Nat.le_of_ble_eq_true rfl | omega) ?_
  rintro v h' z' ⟨rfl, rfl, rfl⟩
  refine r_iret iX7_valueOf_24 rfl ?_
  exact ⟨by rw [H.mk hi (by omega), H.mk hi (by omega), H.mk hi (by omega)]; rfl, rfl, rfl⟩
theorem c7_rankOf (h : Hp) {I : Nat → Int32} (J : Nat → Int64) {A : Nat → Nat → Int32} (me : Nat → Int64) {l n : Nat} {b u : Int32} {t : Nat → Nat → Int32} (h0 : I 0 = nI n) (H : En A l n b u t) (hl : l < 2) (hn : n ≤ 4) (hv : ∀ i, i < n → VOk (t i)) {i : Nat} (hi : i < n) : Fn MX7_rankOf 2 [.ref 152, .int (nI l), .int (nI i)] (mOv h (I, J, A, me)) (some (.int (nI (cnt (fun j => kBetter (t j) (t i)) n)))) := by
  intro z
  refine Cal_of_R (by decide +kernel) (L := [.ref 152, .int (nI l), .int (nI i), .null, .null]) rfl (Nat.le_of_ble_eq_true rfl) ?_
  have loop : ∀ (j p : Nat), p + j = n → ∀ z, R MX7_rankOf 2 0 0 (fun v h' z' => v = some (.int (nI (cnt (fun j => kBetter (t j) (t i)) n))) ∧ h' = mOv h (I, J, A, me) ∧ z' = z) 5 [.ref 152, .int (nI l), .int (nI i), .int (nI (cnt (fun j => kBetter (t j) (t i)) p)), .int (nI p)] [] (mOv h (I, J, A, me)) z 0 0 := by
    intro j
    induction j with
    | zero =>
      intro p hp z
      obtain rfl : p = n := by omega
      refine r_iload iX7_rankOf_5 rfl ?_
      refine r_aload iX7_rankOf_7 rfl ?_
      refine r_gthrowers iX7_rankOf_8 (flX7_68 _ rfl) ?_
      rw [h0]
      refine r_icmp_ge iX7_rankOf_11 (fun _ => ?_) (fun g9 => absurd (nI_le (by omega) (by omega)) g9)
      refine r_iload iX7_rankOf_44 rfl ?_
      refine r_iret iX7_rankOf_45 rfl ?_
      exact ⟨rfl, rfl, rfl⟩
    | succ j ih =>
      intro p hp z
      refine r_iload iX7_rankOf_5 rfl ?_
      refine r_aload iX7_rankOf_7 rfl ?_
      refine r_gthrowers iX7_rankOf_8 (flX7_68 _ rfl) ?_
      rw [h0]
      refine r_icmp_ge iX7_rankOf_11 (fun g9 => absurd g9 (nI_ge (by omega) (by omega))) (fun _ => ?_)
      refine r_iload iX7_rankOf_14 rfl ?_
      refine r_aload iX7_rankOf_15 rfl ?_
      refine r_iload iX7_rankOf_16 rfl ?_
      refine r_iload iX7_rankOf_17 rfl ?_
      refine r_callV iX7_rankOf_19 (cX7_85 _ rfl) (c7_valueOf h I J me H hl hn (i := p) (by omega) _) (by omega) (mOv_obj _ _) rfl rfl rfl (Nat.le_of_ble_eq_true rfl) (by first | exact Nat.le_of_ble_eq_true rfl | omega) (by first | exact Nat.le_of_ble_eq_true rfl | omega) ?_
      rintro v h' z' ⟨rfl, rfl, rfl⟩
      refine r_aload iX7_rankOf_22 rfl ?_
      refine r_iload iX7_rankOf_23 rfl ?_
      refine r_iload iX7_rankOf_24 rfl ?_
      refine r_callV iX7_rankOf_25 (cX7_85 _ rfl) (c7_valueOf h I J me H hl hn (i := i) (by omega) _) (by omega) (mOv_obj _ _) rfl rfl rfl (Nat.le_of_ble_eq_true rfl) (by first | exact Nat.le_of_ble_eq_true rfl | omega) (by first | exact Nat.le_of_ble_eq_true rfl | omega) ?_
      rintro v h' z' ⟨rfl, rfl, rfl⟩
      have e := ih (p + 1) (by omega) z'
      by_cases g : kBetter (t p) (t i) = true
      · rw [show cnt (fun j => kBetter (t j) (t i)) (p + 1) = cnt (fun j => kBetter (t j) (t i)) p + 1 by simp [cnt, g]] at e
        refine r_icmp_le iX7_rankOf_28 (fun g9 => absurd g9 (Int32.not_le.mpr ((kVal_lt (hv i hi) (hv p (by omega))).mpr g))) (fun _ => ?_)
        refine r_iconst (v := 1) iX7_rankOf_31 rfl ?_
        refine r_goto iX7_rankOf_32 ?_
        refine r_iadd iX7_rankOf_36 ?_
        rw [nI_1]
        refine r_istore_3 iX7_rankOf_37 rfl ?_
        refine r_iinc_4 iX7_rankOf_38 (by first | exact nI_inc _ | rfl) rfl ?_
        refine r_goto iX7_rankOf_41 ?_
        exact e
      · rw [show cnt (fun j => kBetter (t j) (t i)) (p + 1) = cnt (fun j => kBetter (t j) (t i)) p by simp [cnt, g]] at e
        refine r_icmp_le iX7_rankOf_28 (fun _ => ?_) (fun g9 => absurd (Int32.not_lt.mp (fun q => g ((kVal_lt (hv i hi) (hv p (by omega))).mp q))) g9)
        refine r_iconst (v := 0) iX7_rankOf_35 rfl ?_
        refine r_iadd iX7_rankOf_36 ?_
        rw [Int32.add_zero]
        refine r_istore_3 iX7_rankOf_37 rfl ?_
        refine r_iinc_4 iX7_rankOf_38 (by first | exact nI_inc _ | rfl) rfl ?_
        refine r_goto iX7_rankOf_41 ?_
        exact e
  refine r_iconst (v := 0) iX7_rankOf_0 rfl ?_
  refine r_istore_3 iX7_rankOf_1 rfl ?_
  refine r_iconst (v := 0) iX7_rankOf_2 rfl ?_
  refine r_istore_4 iX7_rankOf_3 rfl ?_
  exact loop n 0 (by omega) z
theorem c7_rank_unk (h : Hp) {I : Nat → Int32} (J : Nat → Int64) (A : Nat → Nat → Int32) (me : Nat → Int64) {n : Nat} (hn : n ≤ 4) (h0 : I 0 = nI n) {x : Int32} (hx : ¬ (0 ≤ x ∧ x < nI n)) : Fn MX7_rank 3 [.ref 152, .int x] (mOv h (I, J, A, me)) (some (.int (-1))) := by
  intro z
  refine Cal_of_R (by decide +kernel) (L := [.ref 152, .int x]) rfl (Nat.le_of_ble_eq_true rfl) ?_
  refine r_aload iX7_rank_0 rfl ?_
  refine r_iload iX7_rank_1 rfl ?_
  refine r_callV iX7_rank_2 (cX7_74 _ rfl) (c7_isThrower h J A me hn h0 x _) (by omega) (mOv_obj _ _) rfl rfl rfl (Nat.le_of_ble_eq_true rfl) (by first | exact Nat.le_of_ble_eq_true rfl | omega) (by first | exact Nat.le_of_ble_eq_true rfl | omega) ?_
  rintro v h' z' ⟨rfl, rfl, rfl⟩
  rw [if_neg hx]
  refine r_if_eq iX7_rank_5 (fun _ => ?_) (fun g9 => absurd (rfl) g9)
  refine r_iconst (v := (-1)) iX7_rank_17 rfl ?_
  refine r_iret iX7_rank_18 rfl ?_
  exact ⟨rfl, rfl, rfl⟩
theorem c7_rank (h : Hp) {I : Nat → Int32} (J : Nat → Int64) {A : Nat → Nat → Int32} (me : Nat → Int64) {n : Nat} {b u : Int32} {t : Nat → Nat → Int32} (h0 : I 0 = nI n) (H : En A 0 n b u t) (hn : n ≤ 4) (hv : ∀ i, i < n → VOk (t i)) {i : Nat} (hi : i < n) : Fn MX7_rank 3 [.ref 152, .int (nI i)] (mOv h (I, J, A, me)) (some (.int (nI (cnt (fun j => kBetter (t j) (t i)) n)))) := by
  intro z
  refine Cal_of_R (by decide +kernel) (L := [.ref 152, .int (nI i)]) rfl (Nat.le_of_ble_eq_true rfl) ?_
  refine r_aload iX7_rank_0 rfl ?_
  refine r_iload iX7_rank_1 rfl ?_
  refine r_callV iX7_rank_2 (cX7_74 _ rfl) (c7_isThrower h J A me hn h0 (nI i) _) (by omega) (mOv_obj _ _) rfl rfl rfl (Nat.le_of_ble_eq_true rfl) (by first | exact Nat.le_of_ble_eq_true rfl | omega) (by first | exact Nat.le_of_ble_eq_true rfl | omega) ?_
  rintro v h' z' ⟨rfl, rfl, rfl⟩
  rw [i_ks hn hi]
  refine r_if_eq iX7_rank_5 (fun g9 => absurd g9 (by decide)) (fun _ => ?_)
  refine r_aload iX7_rank_8 rfl ?_
  refine r_iconst (v := 0) iX7_rank_9 rfl ?_
  refine r_iload iX7_rank_10 rfl ?_
  refine r_callV iX7_rank_11 (cX7_89 _ rfl) (c7_rankOf h J me h0 H (l := 0) (by omega) hn hv hi _) (by omega) (mOv_obj _ _) rfl rfl rfl (Nat.le_of_ble_eq_true rfl) (by first | exact Nat.le_of_ble_eq_true rfl | omega) (by first | exact Nat.le_of_ble_eq_true rfl | omega) ?_
  rintro v h' z' ⟨rfl, rfl, rfl⟩
  refine r_goto iX7_rank_14 ?_
  refine r_iret iX7_rank_18 rfl ?_
  exact ⟨rfl, rfl, rfl⟩
