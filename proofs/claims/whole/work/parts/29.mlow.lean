/-! the model's small methods -/
theorem nI_mul (a b : Nat) : nI a * nI b = nI (a * b) := (Int32.ofNat_mul a b).symm
theorem i01 (p : Prop) [Decidable p] : (if p then (1 : Int32) else 0) = 0 ∨ (if p then (1 : Int32) else 0) = 1 := by
  by_cases h : p
  · exact Or.inr (if_pos h)
  · exact Or.inl (if_neg h)
theorem c7_in (h : Hp) (v a b : Int64) : Fn MX7_in 0 [.long v, .long a, .long b] h (some (.int (if a ≤ v ∧ v ≤ b then 1 else 0))) := by
  intro z
  refine Cal_of_R (by decide +kernel) (L := [.long v, .null, .long a, .null, .long b, .null]) rfl (Nat.le_of_ble_eq_true rfl) ?_
  by_cases h1 : a ≤ v
  · by_cases h2 : v ≤ b
    · have g1 : ¬ lg_cmp v a < 0 := fun q => absurd ((lg_cmp_lt _ _).mp q) (Int64.not_lt.mpr h1)
      have g2 : ¬ 0 < lg_cmp v b := fun q => absurd ((lg_cmp_le _ _).mpr h2) (Int32.not_le.mpr q)
      refine r_lload iX7_in_0 rfl ?_
      refine r_lload iX7_in_1 rfl ?_
      refine r_lcmp iX7_in_2 ?_
      refine r_if_lt iX7_in_3 (fun g9 => absurd g9 (g1)) (fun _ => ?_)
      refine r_lload iX7_in_6 rfl ?_
      refine r_lload iX7_in_7 rfl ?_
      refine r_lcmp iX7_in_9 ?_
      refine r_if_gt iX7_in_10 (fun g9 => absurd g9 (g2)) (fun _ => ?_)
      refine r_iconst (v := 1) iX7_in_13 rfl ?_
      refine r_goto iX7_in_14 ?_
      refine r_zret iX7_in_18 rfl (by simp) ?_
      exact ⟨by rw [if_pos ⟨h1, h2⟩], rfl, rfl⟩
    · have g1 : ¬ lg_cmp v a < 0 := fun q => absurd ((lg_cmp_lt _ _).mp q) (Int64.not_lt.mpr h1)
      have g2 : 0 < lg_cmp v b := Int32.not_le.mp fun q => h2 ((lg_cmp_le _ _).mp q)
      refine r_lload iX7_in_0 rfl ?_
      refine r_lload iX7_in_1 rfl ?_
      refine r_lcmp iX7_in_2 ?_
      refine r_if_lt iX7_in_3 (fun g9 => absurd g9 (g1)) (fun _ => ?_)
      refine r_lload iX7_in_6 rfl ?_
      refine r_lload iX7_in_7 rfl ?_
      refine r_lcmp iX7_in_9 ?_
      refine r_if_gt iX7_in_10 (fun _ => ?_) (fun g9 => absurd (g2) g9)
      refine r_iconst (v := 0) iX7_in_17 rfl ?_
      refine r_zret iX7_in_18 rfl (by simp) ?_
      exact ⟨by rw [if_neg (fun q => h2 q.2)], rfl, rfl⟩
  · have g1 : lg_cmp v a < 0 := (lg_cmp_lt _ _).mpr (Int64.not_le.mp h1)
    refine r_lload iX7_in_0 rfl ?_
    refine r_lload iX7_in_1 rfl ?_
    refine r_lcmp iX7_in_2 ?_
    refine r_if_lt iX7_in_3 (fun _ => ?_) (fun g9 => absurd (g1) g9)
    refine r_iconst (v := 0) iX7_in_17 rfl ?_
    refine r_zret iX7_in_18 rfl (by simp) ?_
    exact ⟨by rw [if_neg (fun q => h1 q.1)], rfl, rfl⟩
theorem i2l_le (x y : Int32) : x.toInt64 ≤ y.toInt64 ↔ x ≤ y := by
  rw [Int64.le_iff_toInt_le, Int32.le_iff_toInt_le, Int32.toInt_toInt64, Int32.toInt_toInt64]
theorem c7_inI (h : Hp) (v a b : Int32) : Fn MX7_in 0 [.long v.toInt64, .long a.toInt64, .long b.toInt64] h (some (.int (if a ≤ v ∧ v ≤ b then 1 else 0))) := by
  have e := c7_in h v.toInt64 a.toInt64 b.toInt64
  rw [show (if a.toInt64 ≤ v.toInt64 ∧ v.toInt64 ≤ b.toInt64 then (1 : Int32) else 0) = if a ≤ v ∧ v ≤ b then 1 else 0 by simp only [i2l_le]] at e
  exact e
theorem c7_inE (h : Hp) {v a b : Int64} {x lo hi : Int32} (ev : v = x.toInt64) (ea : a = lo.toInt64) (eb : b = hi.toInt64) : Fn MX7_in 0 [.long v, .long a, .long b] h (some (.int (if lo ≤ x ∧ x ≤ hi then 1 else 0))) := by
  subst ev; subst ea; subst eb; exact c7_inI h x lo hi
theorem ixM (l t w : Nat) : (30 : Int32) * nI l + 2 + 7 * nI t + nI w = nI (30 * l + 2 + 7 * t + w) := by
  rw [← nI_add, ← nI_add, ← nI_add, ← nI_mul, ← nI_mul]; rfl
theorem c7_mark (h : Hp) (I : Nat → Int32) (J : Nat → Int64) (A : Nat → Nat → Int32) (me : Nat → Int64) {l t w : Nat} (hl : l < 2) (ht : t < 4) (hw : w < 7) : Fn MX7_mark 0 [.ref 152, .int (nI l), .int (nI t), .int (nI w)] (mOv h (I, J, A, me)) (some (.int (A 3 (30 * l + 2 + 7 * t + w)))) := by
  intro z
  refine Cal_of_R (by decide +kernel) (L := [.ref 152, .int (nI l), .int (nI t), .int (nI w)]) rfl (Nat.le_of_ble_eq_true rfl) ?_
  refine r_aload iX7_mark_0 rfl ?_
  refine r_gnow iX7_mark_1 (flX7_19 _ rfl) ?_
  refine r_bipush (v := 30) iX7_mark_4 rfl ?_
  refine r_iload iX7_mark_6 rfl ?_
  refine r_imul iX7_mark_7 ?_
  refine r_iconst (v := 2) iX7_mark_8 rfl ?_
  refine r_iadd iX7_mark_9 ?_
  refine r_bipush (v := 7) iX7_mark_10 rfl ?_
  refine r_iload iX7_mark_12 rfl ?_
  refine r_imul iX7_mark_13 ?_
  refine r_iadd iX7_mark_14 ?_
  refine r_iload iX7_mark_15 rfl ?_
  refine r_iadd iX7_mark_16 ?_
  refine r_ld3 iX7_mark_17 (ixM l t w) (by omega) ?_
  refine r_iret iX7_mark_18 rfl ?_
  exact ⟨rfl, rfl, rfl⟩
def sA (A : Nat → Nat → Int32) (l t w : Nat) (v : Int32) : Nat → Nat → Int32 := upA A 3 (30 * l + 2 + 7 * t + w) v
theorem c7_set (h : Hp) (I : Nat → Int32) (J : Nat → Int64) (A : Nat → Nat → Int32) (me : Nat → Int64) {l t w : Nat} (v : Int32) (hl : l < 2) (ht : t < 4) (hw : w < 7) : Pr MX7_set 0 [.ref 152, .int (nI l), .int (nI t), .int (nI w), .int v] (mOv h (I, J, A, me)) none (mOv h (I, J, sA A l t w v, me)) := by
  intro z
  refine Cal_of_R (by decide +kernel) (L := [.ref 152, .int (nI l), .int (nI t), .int (nI w), .int v]) rfl (Nat.le_of_ble_eq_true rfl) ?_
  refine r_aload iX7_set_0 rfl ?_
  refine r_gnow iX7_set_1 (flX7_19 _ rfl) ?_
  refine r_bipush (v := 30) iX7_set_4 rfl ?_
  refine r_iload iX7_set_6 rfl ?_
  refine r_imul iX7_set_7 ?_
  refine r_iconst (v := 2) iX7_set_8 rfl ?_
  refine r_iadd iX7_set_9 ?_
  refine r_bipush (v := 7) iX7_set_10 rfl ?_
  refine r_iload iX7_set_12 rfl ?_
  refine r_imul iX7_set_13 ?_
  refine r_iadd iX7_set_14 ?_
  refine r_iload iX7_set_15 rfl ?_
  refine r_iadd iX7_set_16 ?_
  refine r_iload iX7_set_17 rfl ?_
  refine r_st3 iX7_set_19 (ixM l t w) (by omega) ?_
  refine r_vret iX7_set_20 rfl ?_
  exact ⟨rfl, rfl, rfl⟩
theorem isT_of (x : Int32) {n : Nat} (hn : n ≤ 4) : (0 ≤ x ∧ x ≤ nI n - 1) ↔ (0 ≤ x ∧ x < nI n) := by
  have e : (nI n - 1).toInt = (n : Int) - 1 := by
    have : ∀ n, n ≤ 4 → (nI n - 1).toInt = (n : Int) - 1 := by decide +kernel
    exact this n hn
  rw [Int32.le_iff_toInt_le (y := nI n - 1), Int32.lt_iff_toInt_lt, e, nI_toInt (by omega)]
  constructor
  · rintro ⟨q, r⟩; exact ⟨q, by omega⟩
  · rintro ⟨q, r⟩; exact ⟨q, by omega⟩
theorem c7_isThrower (h : Hp) {I : Nat → Int32} (J : Nat → Int64) (A : Nat → Nat → Int32) (me : Nat → Int64) {n : Nat} (hn : n ≤ 4) (h0 : I 0 = nI n) (x : Int32) : Fn MX7_isThrower 1 [.ref 152, .int x] (mOv h (I, J, A, me)) (some (.int (if 0 ≤ x ∧ x < nI n then 1 else 0))) := by
  intro z
  refine Cal_of_R (by decide +kernel) (L := [.ref 152, .int x]) rfl (Nat.le_of_ble_eq_true rfl) ?_
  refine r_iload iX7_isThrower_0 rfl ?_
  refine r_i2l iX7_isThrower_1 ?_
  refine r_lconst (v := 0) iX7_isThrower_2 rfl ?_
  refine r_aload iX7_isThrower_3 rfl ?_
  refine r_gthrowers iX7_isThrower_4 (flX7_68 _ rfl) ?_
  refine r_iconst (v := 1) iX7_isThrower_7 rfl ?_
  refine r_isub iX7_isThrower_8 ?_
  refine r_i2l iX7_isThrower_9 ?_
  refine r_callS iX7_isThrower_10 (cX7_44 _ rfl) (c7_inE _ (x := x) (lo := 0) (hi := I 0 - 1) rfl rfl rfl _) (by omega) rfl rfl (Nat.le_of_ble_eq_true rfl) (by first | exact Nat.le_of_ble_eq_true rfl | omega) (by first | exact Nat.le_of_ble_eq_true rfl | omega) ?_
  rintro v h' z' ⟨rfl, rfl, rfl⟩
  refine r_zret iX7_isThrower_13 rfl (i01 _) ?_
  rw [h0]
  exact ⟨by simp only [isT_of x hn], rfl, rfl⟩
theorem c7_wipe (h : Hp) (I : Nat → Int32) (J : Nat → Int64) (A : Nat → Nat → Int32) (me : Nat → Int64) : Pr MX7_wipe 0 [.ref 152] (mOv h (I, J, A, me)) (some (.int (I 1))) (mOv h (upd I 1 0, J, A, me)) := by
  intro z
  refine Cal_of_R (by decide +kernel) (L := [.ref 152, .null]) rfl (Nat.le_of_ble_eq_true rfl) ?_
  refine r_aload iX7_wipe_0 rfl ?_
  refine r_glength iX7_wipe_1 (flX7_48 _ rfl) ?_
  refine r_istore_1 iX7_wipe_4 rfl ?_
  refine r_aload iX7_wipe_5 rfl ?_
  refine r_iconst (v := 0) iX7_wipe_6 rfl ?_
  refine r_mlength iX7_wipe_7 (fpX7_48 _ rfl) ?_
  refine r_iload iX7_wipe_10 rfl ?_
  refine r_iret iX7_wipe_11 rfl ?_
  exact ⟨rfl, rfl, rfl⟩
theorem c7_on (h : Hp) (I : Nat → Int32) (J : Nat → Int64) (A : Nat → Nat → Int32) (me : Nat → Int64) : Fn MX7_on 0 [.ref 152] (mOv h (I, J, A, me)) (some (.int (A 3 1))) := by
  intro z
  refine Cal_of_R (by decide +kernel) (L := [.ref 152]) rfl (Nat.le_of_ble_eq_true rfl) ?_
  refine r_aload iX7_on_0 rfl ?_
  refine r_gnow iX7_on_1 (flX7_19 _ rfl) ?_
  refine r_iconst (v := 1) iX7_on_4 rfl ?_
  refine r_ld3 iX7_on_5 ((show (1 : Int32) = nI 1 from rfl)) (by omega) ?_
  refine r_iret iX7_on_6 rfl ?_
  exact ⟨rfl, rfl, rfl⟩
theorem bit255 (w i : Nat) (hw : 8 ≤ w) : (BitVec.ofNat w 255).getLsbD i = decide (i < 8) := by
  rw [BitVec.getLsbD_ofNat]
  by_cases h : i < 8
  · rw [decide_eq_true (show i < w by omega), decide_eq_true h]
    have : ∀ i, i < 8 → (true && Nat.testBit 255 i) = true := by decide
    exact this i h
  · rw [decide_eq_false h]
    rw [Nat.testBit_lt_two_pow (x := 255) (i := i) (Nat.lt_of_lt_of_le (show 255 < 2 ^ 8 by decide) (Nat.pow_le_pow_right (by decide) (by omega))), Bool.and_false]
theorem byt_m (v : Int64) {k : Nat} (hk : k < 8) : (v >>> ((8 * nI k).toInt64 &&& 63) &&& 255).toInt32 = byt v k := by
  have e1 : (8 * nI k).toInt64 &&& 63 = Int64.ofNat (8 * k) := by
    have : ∀ k, k < 8 → (8 * nI k).toInt64 &&& 63 = Int64.ofNat (8 * k) := by decide +kernel
    exact this k hk
  have e2 : (nI (8 * k)).toInt64.toUInt64 &&& Int64.toUInt64 63 = UInt64.ofNat (8 * k) := by
    have : ∀ k, k < 8 → (nI (8 * k)).toInt64.toUInt64 &&& Int64.toUInt64 63 = UInt64.ofNat (8 * k) := by decide +kernel
    exact this k hk
  unfold byt
  rw [e1, e2]
  apply Int32.toBitVec_inj.mp
  have m1 : ((Int64.ofNat (8 * k)).toBitVec.smod 64).toNat = 8 * k := by
    have : ∀ k, k < 8 → ((Int64.ofNat (8 * k)).toBitVec.smod 64).toNat = 8 * k := by decide +kernel
    exact this k hk
  have m2 : ((UInt64.ofNat (8 * k)).toBitVec % 64).toNat = 8 * k := by
    have : ∀ k, k < 8 → ((UInt64.ofNat (8 * k)).toBitVec % 64).toNat = 8 * k := by decide +kernel
    exact this k hk
  rw [Int32.toBitVec_and, Int64.toBitVec_toInt32, Int64.toBitVec_and, Int64.toBitVec_toInt32, Int64.toBitVec_shiftRight, UInt64.toBitVec_toInt64, UInt64.toBitVec_shiftRight]
  apply BitVec.eq_of_getLsbD_eq
  intro i hi
  rw [BitVec.signExtend_eq_setWidth_of_le _ (by decide), BitVec.signExtend_eq_setWidth_of_le _ (by decide), BitVec.getLsbD_setWidth, BitVec.getLsbD_and, BitVec.getLsbD_and, BitVec.getLsbD_setWidth, BitVec.sshiftRight_eq', BitVec.ushiftRight_eq', m1, m2, BitVec.getLsbD_sshiftRight, BitVec.getLsbD_ushiftRight]
  rw [show ((255 : Int64).toBitVec).getLsbD i = decide (i < 8) from bit255 64 i (by decide), show ((255 : Int32).toBitVec).getLsbD i = decide (i < 8) from bit255 32 i (by decide)]
  by_cases h8 : i < 8
  · rw [decide_eq_true h8, decide_eq_true hi, decide_eq_false (show ¬ 64 ≤ i by omega), if_pos (show 8 * k + i < 64 by omega)]
    simp
  · rw [decide_eq_false h8, Bool.and_false, Bool.and_false, Bool.and_false]
