/-! the model's mean and what is wise -/
theorem c7_mean_no (h : Hp) (s : Ms) {x y : Int32} (w : Int32) {e : Int32} (he : Fn MX7_refused 3 [.ref 152, .int x, .int y] (mOv h s) (some (.int e))) (h0 : ¬ e = 0) : Fn MX7_mean 4 [.ref 152, .int x, .int y, .int w] (mOv h s) (some (.long e.toInt64)) := by
  intro z
  refine Cal_of_R (by decide +kernel) (L := [.ref 152, .int x, .int y, .int w, .null, .null, .null, .null, .null, .null]) rfl (Nat.le_of_ble_eq_true rfl) ?_
  refine r_aload iX7_mean_0 rfl ?_
  refine r_iload iX7_mean_1 rfl ?_
  refine r_iload iX7_mean_2 rfl ?_
  refine r_callV iX7_mean_3 (cX7_160 _ rfl) (he _) (by omega) (mOv_obj _ _) rfl rfl rfl (Nat.le_of_ble_eq_true rfl) (by first | exact Nat.le_of_ble_eq_true rfl | omega) (by first | exact Nat.le_of_ble_eq_true rfl | omega) ?_
  rintro v h' z' ⟨rfl, rfl, rfl⟩
  refine r_istore_4 iX7_mean_6 rfl ?_
  refine r_iload iX7_mean_8 rfl ?_
  refine r_if_eq iX7_mean_10 (fun g9 => absurd g9 (h0)) (fun _ => ?_)
  refine r_iload iX7_mean_13 rfl ?_
  refine r_i2l iX7_mean_15 ?_
  refine r_lret iX7_mean_16 rfl ?_
  exact ⟨rfl, rfl, rfl⟩
theorem c7_mean (h : Hp) {I : Nat → Int32} (J : Nat → Int64) {A : Nat → Nat → Int32} (me : Nat → Int64) {n bb : Nat} {u : Int32} {t : Nat → Nat → Int32} (hn : n ≤ 4) (h0 : I 0 = nI n) (H : En A 0 n (nI bb) u t) {i : Nat} (hi : i < n) (hw : 0 < t i 1) {m : Nat} (h1 : 1 ≤ m) (h4 : m ≤ 4) (hb : bb + m ≤ 12) (h3 : ¬ t i 7 = 3) {r : Nat} (hr : t i 3 = nI r) (hr2 : r ≤ 2) (w : Int32) (z : Nat) : Cal MX7_mean 4 0 0 [.ref 152, .int (nI i), .int (nI m), .int w] (mOv h (I, J, A, me)) z (fun v h' z' => v = some (.long (lN (frac (grt (t i) (nI bb) m 16 0 r 0 0) (10 ^ 12) w))) ∧ z' = z ∧ ∃ J' me', J' 2 = J 2 ∧ h' = mOv h (I, J', A, me')) := by
  refine Cal_of_R (by decide +kernel) (L := [.ref 152, .int (nI i), .int (nI m), .int w, .null, .null, .null, .null, .null, .null]) rfl (Nat.le_of_ble_eq_true rfl) ?_
  refine r_aload iX7_mean_0 rfl ?_
  refine r_iload iX7_mean_1 rfl ?_
  refine r_iload iX7_mean_2 rfl ?_
  refine r_callV iX7_mean_3 (cX7_160 _ rfl) (c7_ref_in h J me hn h0 H hi h1 h4 hb _) (by omega) (mOv_obj _ _) rfl rfl rfl (Nat.le_of_ble_eq_true rfl) (by first | exact Nat.le_of_ble_eq_true rfl | omega) (by first | exact Nat.le_of_ble_eq_true rfl | omega) ?_
  rintro v h' z' ⟨rfl, rfl, rfl⟩
  rw [if_neg h3]
  refine r_istore_4 iX7_mean_6 rfl ?_
  refine r_iload iX7_mean_8 rfl ?_
  refine r_if_eq iX7_mean_10 (fun _ => ?_) (fun g9 => absurd (rfl) g9)
  refine r_aload iX7_mean_17 rfl ?_
  refine r_iload iX7_mean_18 rfl ?_
  refine r_iload iX7_mean_19 rfl ?_
  refine r_callV iX7_mean_20 (cX7_163 _ rfl) (c7_layMeans h I J me H hn hi hw h4 h1 z') (by omega) (mOv_obj _ _) rfl rfl rfl (Nat.le_of_ble_eq_true rfl) (by first | exact Nat.le_of_ble_eq_true rfl | omega) (by first | exact Nat.le_of_ble_eq_true rfl | omega) ?_
  rintro v h' z9 ⟨rfl, rfl, J', me', hJ', rfl, hB, hG⟩
  refine r_aload iX7_mean_23 rfl ?_
  refine r_iconst (v := 0) iX7_mean_24 rfl ?_
  refine r_iload iX7_mean_25 rfl ?_
  refine r_iconst (v := 1) iX7_mean_26 rfl ?_
  refine r_callV iX7_mean_27 (cX7_77 _ rfl) (c7_mark h I J' A me' (l := 0) (by omega) (t := i) (by omega) (w := 1) (by omega) _) (by omega) (mOv_obj _ _) rfl rfl rfl (Nat.le_of_ble_eq_true rfl) (by first | exact Nat.le_of_ble_eq_true rfl | omega) (by first | exact Nat.le_of_ble_eq_true rfl | omega) ?_
  rintro v h' z9 ⟨rfl, rfl, rfl⟩
  rw [show _ = t i 3 from H.mk (w := 1) hi (by omega), hr]
  obtain ⟨V, e1, e2, e3⟩ := hG 0 r 0 (by omega) (by omega) (by omega) 0 (by omega)
  have eg := e3 16 (by omega)
  simp only [Nat.sub_zero] at e2 eg
  have h12 : 10 ^ (3 * m - r) ≤ 10 ^ 12 := Nat.pow_le_pow_right (by decide) (by omega)
  have hp0 : 0 < 10 ^ (3 * m - r) := Nat.pow_pos (by decide)
  have ef : frac (grt (t i) (nI bb) m 16 0 r 0 0) (10 ^ 12) w = frac V (10 ^ (3 * m - r)) w := by
    rw [eg, ← pow_up (show 3 * m - r + (12 - (3 * m - r)) = 12 by omega), Nat.mul_comm V, Nat.mul_comm (10 ^ (3 * m - r)), frac_mul (c := 10 ^ (12 - (3 * m - r))) (Nat.pow_pos (by decide))]
  rw [ef]
  have hg0 : 0 < Nat.gcd V (10 ^ (3 * m - r)) := Nat.gcd_pos_of_pos_right _ hp0
  have hgl : Nat.gcd V (10 ^ (3 * m - r)) ≤ 10 ^ (3 * m - r) := Nat.gcd_le_right _ hp0
  have gne : ¬ lN (Nat.gcd V (10 ^ (3 * m - r))) = 0 := fun q => absurd ((pk_lEQ (b := 0) (by omega) (by omega)).mp q) (by omega)
  refine r_istore_5 iX7_mean_30 rfl ?_
  refine r_aload iX7_mean_32 rfl ?_
  refine r_gmeans iX7_mean_33 (flX7_25 _ rfl) ?_
  refine r_iconst (v := 0) iX7_mean_36 rfl ?_
  refine r_iload iX7_mean_37 rfl ?_
  refine r_iconst (v := 0) iX7_mean_39 rfl ?_
  refine r_iconst (v := 0) iX7_mean_40 rfl ?_
  refine r_callS iX7_mean_41 (cX7_143 _ rfl) (c7_place _ 0 r 0 0 _) (by omega) rfl rfl (Nat.le_of_ble_eq_true rfl) (by first | exact Nat.le_of_ble_eq_true rfl | omega) (by first | exact Nat.le_of_ble_eq_true rfl | omega) ?_
  rintro v h' z9 ⟨rfl, rfl, rfl⟩
  refine r_ldm iX7_mean_44 (rfl) (pl_lt (by omega) (by omega) (by omega) (by omega)) ?_
  rw [e1]
  refine r_lstore_6 iX7_mean_45 rfl ?_
  refine r_iconst (v := 3) iX7_mean_47 rfl ?_
  refine r_iload iX7_mean_48 rfl ?_
  refine r_imul iX7_mean_49 ?_
  refine r_iload iX7_mean_50 rfl ?_
  refine r_isub iX7_mean_52 ?_
  rw [show (3 : Int32) * nI m = nI (3 * m) from pk_mul 3 m, pk_sub (by omega)]
  refine r_callS iX7_mean_53 (cX7_124 _ rfl) (c7_tenTo _ (3 * m - r) (by omega) _) (by omega) rfl rfl (Nat.le_of_ble_eq_true rfl) (by first | exact Nat.le_of_ble_eq_true rfl | omega) (by first | exact Nat.le_of_ble_eq_true rfl | omega) ?_
  rintro v h' z9 ⟨rfl, rfl, rfl⟩
  by_cases g : w = 0
  · refine r_lstore_8 iX7_mean_56 rfl ?_
    refine r_iload iX7_mean_58 rfl ?_
    refine r_if_eq iX7_mean_59 (fun _ => ?_) (fun g9 => absurd (g) g9)
    refine r_lload iX7_mean_75 rfl ?_
    refine r_lload iX7_mean_77 rfl ?_
    refine r_lload iX7_mean_79 rfl ?_
    refine r_callS iX7_mean_81 (cX7_139 _ rfl) (c7_common _ V (10 ^ (3 * m - r)) (by omega) (by omega) _) (by omega) rfl rfl (Nat.le_of_ble_eq_true rfl) (by first | exact Nat.le_of_ble_eq_true rfl | omega) (by first | exact Nat.le_of_ble_eq_true rfl | omega) ?_
    rintro v h' z9 ⟨rfl, rfl, rfl⟩
    refine r_ldiv iX7_mean_84 (gne) ?_
    rw [pk_lDiv (by omega) hg0 (by omega)]
    refine r_lret iX7_mean_85 rfl ?_
    exact ⟨by rw [frac, if_pos g], rfl, J', me', hJ', rfl⟩
  · refine r_lstore_8 iX7_mean_56 rfl ?_
    refine r_iload iX7_mean_58 rfl ?_
    refine r_if_eq iX7_mean_59 (fun g9 => absurd g9 (g)) (fun _ => ?_)
    refine r_lload iX7_mean_62 rfl ?_
    refine r_lload iX7_mean_64 rfl ?_
    refine r_lload iX7_mean_66 rfl ?_
    refine r_callS iX7_mean_68 (cX7_139 _ rfl) (c7_common _ V (10 ^ (3 * m - r)) (by omega) (by omega) _) (by omega) rfl rfl (Nat.le_of_ble_eq_true rfl) (by first | exact Nat.le_of_ble_eq_true rfl | omega) (by first | exact Nat.le_of_ble_eq_true rfl | omega) ?_
    rintro v h' z9 ⟨rfl, rfl, rfl⟩
    refine r_ldiv iX7_mean_71 (gne) ?_
    rw [pk_lDiv (by omega) hg0 (by omega)]
    refine r_goto iX7_mean_72 ?_
    refine r_lret iX7_mean_85 rfl ?_
    exact ⟨by rw [frac, if_neg g], rfl, J', me', hJ', rfl⟩
theorem c7_wise_no (h : Hp) (s : Ms) {x y : Int32} {e : Int32} (he : Fn MX7_refused 3 [.ref 152, .int x, .int y] (mOv h s) (some (.int e))) (h0 : ¬ e = 0) : Fn MX7_wise 4 [.ref 152, .int x, .int y] (mOv h s) (some (.int e)) := by
  intro z
  refine Cal_of_R (by decide +kernel) (L := [.ref 152, .int x, .int y, .null, .null, .null, .null, .null, .null, .null, .null, .null]) rfl (Nat.le_of_ble_eq_true rfl) ?_
  refine r_aload iX7_wise_0 rfl ?_
  refine r_iload iX7_wise_1 rfl ?_
  refine r_iload iX7_wise_2 rfl ?_
  refine r_callV iX7_wise_3 (cX7_160 _ rfl) (he _) (by omega) (mOv_obj _ _) rfl rfl rfl (Nat.le_of_ble_eq_true rfl) (by first | exact Nat.le_of_ble_eq_true rfl | omega) (by first | exact Nat.le_of_ble_eq_true rfl | omega) ?_
  rintro v h' z' ⟨rfl, rfl, rfl⟩
  refine r_istore_3 iX7_wise_6 rfl ?_
  refine r_iload iX7_wise_7 rfl ?_
  refine r_if_eq iX7_wise_8 (fun g9 => absurd g9 (h0)) (fun _ => ?_)
  refine r_iload iX7_wise_11 rfl ?_
  refine r_iret iX7_wise_12 rfl ?_
  exact ⟨rfl, rfl, rfl⟩
theorem c7_wise (h : Hp) {I : Nat → Int32} (J : Nat → Int64) {A : Nat → Nat → Int32} (me : Nat → Int64) {n bb : Nat} {u : Int32} {t : Nat → Nat → Int32} (hn : n ≤ 4) (h0 : I 0 = nI n) (H : En A 0 n (nI bb) u t) {i : Nat} (hi : i < n) (hw : 0 < t i 1) {m : Nat} (h1 : 1 ≤ m) (h4 : m ≤ 4) (hb : bb + m ≤ 12) (h3 : ¬ t i 7 = 3) {r : Nat} (hr : t i 3 = nI r) (hr2 : r ≤ 2) (z : Nat) : Cal MX7_wise 4 0 0 [.ref 152, .int (nI i), .int (nI m)] (mOv h (I, J, A, me)) z (fun v h' z' => v = some (.int (if grt (t i) (nI bb) m 15 1 r 0 0 ≤ tryN (t i) (nI bb) m 15 0 r 0 0 then 1 else 0)) ∧ z' = z ∧ ∃ J' me', J' 2 = J 2 ∧ h' = mOv h (I, J', A, me')) := by
  have hp9 := pN_le (t i) (nI bb + nI 0) (nI 0)
  have hpe := pN_eq (t i) (nI bb + nI 0) (nI 0)
  unfold tryN
  generalize pN (t i) (nI bb + nI 0) (nI 0) = P at hp9 hpe ⊢
  rw [show nI bb + nI 0 = nI bb from Int32.add_zero _] at hpe
  refine Cal_of_R (by decide +kernel) (L := [.ref 152, .int (nI i), .int (nI m), .null, .null, .null, .null, .null, .null, .null, .null, .null]) rfl (Nat.le_of_ble_eq_true rfl) ?_
  refine r_aload iX7_wise_0 rfl ?_
  refine r_iload iX7_wise_1 rfl ?_
  refine r_iload iX7_wise_2 rfl ?_
  refine r_callV iX7_wise_3 (cX7_160 _ rfl) (c7_ref_in h J me hn h0 H hi h1 h4 hb _) (by omega) (mOv_obj _ _) rfl rfl rfl (Nat.le_of_ble_eq_true rfl) (by first | exact Nat.le_of_ble_eq_true rfl | omega) (by first | exact Nat.le_of_ble_eq_true rfl | omega) ?_
  rintro v h' z' ⟨rfl, rfl, rfl⟩
  rw [show (if t i 7 = 3 then (-3 : Int32) else 0) = 0 from if_neg h3]
  refine r_istore_3 iX7_wise_6 rfl ?_
  refine r_iload iX7_wise_7 rfl ?_
  refine r_if_eq iX7_wise_8 (fun _ => ?_) (fun g9 => absurd (rfl) g9)
  refine r_aload iX7_wise_13 rfl ?_
  refine r_iload iX7_wise_14 rfl ?_
  refine r_iload iX7_wise_15 rfl ?_
  refine r_callV iX7_wise_16 (cX7_163 _ rfl) (c7_layMeans h I J me H hn hi hw h4 h1 z') (by omega) (mOv_obj _ _) rfl rfl rfl (Nat.le_of_ble_eq_true rfl) (by first | exact Nat.le_of_ble_eq_true rfl | omega) (by first | exact Nat.le_of_ble_eq_true rfl | omega) ?_
  rintro v h' z9 ⟨rfl, rfl, J', me', hJ', rfl, hB, hG⟩
  have c1 : ∃ v, me' (pl 1 0 1 1) = lN v ∧ v ≤ 4 * 10 ^ (3 * (m - 1)) ∧ grt (t i) (nI bb) m 15 (0 + 1) 0 (0 + 1) (0 + 1) = v * 10 ^ (11 - 3 * (m - 1)) := by
    by_cases g : 1 < m
    · obtain ⟨V, e1, e2, e3⟩ := hG 1 0 1 g (by omega) (by omega) 1 (by omega)
      exact ⟨V, e1, e2, e3 15 (by omega)⟩
    · obtain rfl : m = 1 := by omega
      exact ⟨1, hB.at (by omega) (by omega) (by omega), by decide, grt_end _ _ (Or.inl (by omega)) 15⟩
  have c2 : ∃ v, (if r = 2 then 0 else me' (pl 0 (r + 1) 1 0)) = lN v ∧ v ≤ 4 * 10 ^ (3 * m - r - 1) ∧ grt (t i) (nI bb) m 15 0 (r + 1) (0 + 1) 0 = v * 10 ^ (12 - (3 * m - r)) := by
    by_cases g : r = 2
    · refine ⟨0, by rw [if_pos g]; rfl, Nat.zero_le _, ?_⟩
      rw [grt_end _ _ (Or.inr (Or.inl (by omega))), Nat.zero_mul, Nat.zero_mul]
    · obtain ⟨V, e1, e2, e3⟩ := hG 0 (r + 1) 1 (by omega) (by omega) (by omega) 0 (by omega)
      have e4 := e3 15 (by omega)
      rw [show 3 * (m - 0) - (r + 1) = 3 * m - r - 1 by omega] at e2 e4
      exact ⟨V, by rw [if_neg g, e1], e2, by rw [e4, show 12 - 1 - (3 * m - r - 1) = 12 - (3 * m - r) by omega]⟩
  have c3 : ∃ v, (if m = 1 then 0 else me' (pl 1 r 0 0) * 1000) = lN v ∧ v ≤ 4 * 10 ^ (3 * m - r) ∧ grt (t i) (nI bb) m 15 1 r 0 0 = v * 10 ^ (12 - (3 * m - r)) := by
    by_cases g : m = 1
    · refine ⟨0, by rw [if_pos g]; rfl, Nat.zero_le _, ?_⟩
      rw [grt_end _ _ (Or.inl (by omega)), Nat.zero_mul, Nat.zero_mul]
    · obtain ⟨V, e1, e2, e3⟩ := hG 1 r 0 (by omega) (by omega) (by omega) 0 (by omega)
      have e4 := e3 15 (by omega)
      rw [show 3 * (m - 1) - r = 3 * m - r - 3 by omega] at e2 e4
      refine ⟨V * 10 ^ 3, by rw [if_neg g, e1]; exact lN_mul V 1000, ?_, ?_⟩
      · have := Nat.mul_le_mul_right (10 ^ 3) e2
        rw [Nat.mul_assoc, pow_up (show 3 * m - r - 3 + 3 = 3 * m - r by omega)] at this
        exact this
      · rw [e4, Nat.mul_assoc, pow_up (show 3 + (12 - (3 * m - r)) = 12 - 0 - (3 * m - r - 3) by omega)]
  obtain ⟨v1, a1, b1, g1⟩ := c1
  obtain ⟨v2, a2, b2, g2⟩ := c2
  obtain ⟨v3, a3, b3, g3⟩ := c3
  have hc : 0 < 10 ^ (12 - (3 * m - r)) := Nat.pow_pos (by decide)
  have g1' : v1 * 10 ^ (11 - 3 * (m - 1)) = v1 * 10 ^ (2 - r) * 10 ^ (12 - (3 * m - r)) := by
    rw [Nat.mul_assoc, pow_up (show 2 - r + (12 - (3 * m - r)) = 11 - 3 * (m - 1) by omega)]
  have b1' : v1 * 10 ^ (2 - r) ≤ 4 * 10 ^ (3 * m - r - 1) := by
    have := Nat.mul_le_mul_right (10 ^ (2 - r)) b1
    rw [Nat.mul_assoc, pow_up (show 3 * (m - 1) + (2 - r) = 3 * m - r - 1 by omega)] at this
    exact this
  have hx : P * (v1 * 10 ^ (2 - r) * 10 ^ (12 - (3 * m - r))) + (10 - P) * (v2 * 10 ^ (12 - (3 * m - r))) = (P * (v1 * 10 ^ (2 - r)) + (10 - P) * v2) * 10 ^ (12 - (3 * m - r)) := by
    rw [Nat.add_mul, Nat.mul_assoc P, Nat.mul_assoc (10 - P)]
  rw [g1, g2, g3, g1', hx]
  have hmix := mix_le hp9 b1' b2
  have h12 : 10 ^ (3 * m - r) ≤ 10 ^ 12 := Nat.pow_le_pow_right (by decide) (by omega)
  have h11 : 10 ^ (3 * m - r - 1) ≤ 10 ^ 12 := Nat.pow_le_pow_right (by decide) (by omega)
  have ele : (v3 * 10 ^ (12 - (3 * m - r)) ≤ (P * (v1 * 10 ^ (2 - r)) + (10 - P) * v2) * 10 ^ (12 - (3 * m - r))) ↔ v3 ≤ P * (v1 * 10 ^ (2 - r)) + (10 - P) * v2 := ⟨fun q => Nat.le_of_mul_le_mul_right q hc, fun q => Nat.mul_le_mul_right _ q⟩
  simp only [ele]
  refine r_aload iX7_wise_19 rfl ?_
  refine r_iconst (v := 0) iX7_wise_20 rfl ?_
  refine r_iload iX7_wise_21 rfl ?_
  refine r_iconst (v := 1) iX7_wise_22 rfl ?_
  refine r_callV iX7_wise_23 (cX7_77 _ rfl) (c7_mark h I J' A me' (l := 0) (by omega) (t := i) (by omega) (w := 1) (by omega) _) (by omega) (mOv_obj _ _) rfl rfl rfl (Nat.le_of_ble_eq_true rfl) (by first | exact Nat.le_of_ble_eq_true rfl | omega) (by first | exact Nat.le_of_ble_eq_true rfl | omega) ?_
  rintro v h' z9 ⟨rfl, rfl, rfl⟩
  rw [show _ = t i 3 from H.mk (w := 1) hi (by omega), hr]
  refine r_istore_4 iX7_wise_26 rfl ?_
  refine r_aload iX7_wise_28 rfl ?_
  refine r_iload iX7_wise_29 rfl ?_
  refine r_aload iX7_wise_30 rfl ?_
  refine r_gnow iX7_wise_31 (flX7_19 _ rfl) ?_
  refine r_iconst (v := 0) iX7_wise_34 rfl ?_
  refine r_ld3 iX7_wise_35 ((show (0 : Int32) = nI 0 from rfl)) (by omega) ?_
  rw [show A 3 0 = nI bb from H.1]
  refine r_aload iX7_wise_36 rfl ?_
  refine r_iconst (v := 0) iX7_wise_37 rfl ?_
  refine r_iload iX7_wise_38 rfl ?_
  refine r_iconst (v := 0) iX7_wise_39 rfl ?_
  refine r_callV iX7_wise_40 (cX7_77 _ rfl) (c7_mark h I J' A me' (l := 0) (by omega) (t := i) (by omega) (w := 0) (by omega) _) (by omega) (mOv_obj _ _) rfl rfl rfl (Nat.le_of_ble_eq_true rfl) (by first | exact Nat.le_of_ble_eq_true rfl | omega) (by first | exact Nat.le_of_ble_eq_true rfl | omega) ?_
  rintro v h' z9 ⟨rfl, rfl, rfl⟩
  rw [show _ = t i 2 from H.mk (w := 0) hi (by omega)]
  refine r_callV iX7_wise_43 (cX7_94 _ rfl) (c7_oddsOf h I J' me' (k := t i) (i := i) (by omega) (H.2.2 i hi).1.symm (H.2.2 i hi).2.1.symm hw (nI bb) 0 _ (Int32.add_zero _).symm _) (by omega) (mOv_obj _ _) rfl rfl rfl (Nat.le_of_ble_eq_true rfl) (by first | exact Nat.le_of_ble_eq_true rfl | omega) (by first | exact Nat.le_of_ble_eq_true rfl | omega) ?_
  rintro v h' z9 ⟨rfl, rfl, rfl⟩
  rw [show kOdds (t i) (nI bb) 0 = nI P from hpe]
  have P4 : ∀ (l6 l8 l10 : Int64), l6 = lN v2 → l8 = lN v1 * lN (10 ^ (2 - r)) → l10 = lN v3 → R MX7_wise 4 0 0 (fun v h' z' => v = some (.int (if v3 ≤ P * (v1 * 10 ^ (2 - r)) + (10 - P) * v2 then 1 else 0)) ∧ z' = z9 ∧ ∃ J' me', J' 2 = J 2 ∧ h' = mOv h (I, J', A, me')) 125 [.ref 152, .int (nI i), .int (nI m), .int 0, .int (nI r), .int (nI P), .long l6, .null, .long l8, .null, .long l10, .null] [] (mOv h (I, J', A, me')) z9 0 0 := by
    intro l6 l8 l10 e6 e8 e10
    subst e6; subst e8; subst e10
    refine r_lload iX7_wise_125 rfl ?_
    refine r_iload iX7_wise_127 rfl ?_
    refine r_i2l iX7_wise_129 ?_
    rw [nI_l (by omega), lN_mul]
    refine r_lmul iX7_wise_130 ?_
    refine r_lload iX7_wise_131 rfl ?_
    refine r_bipush (v := 10) iX7_wise_133 rfl ?_
    refine r_iload iX7_wise_135 rfl ?_
    refine r_isub iX7_wise_137 ?_
    rw [show (10 : Int32) - nI P = nI (10 - P) from nI_sub (a := 10) (by omega)]
    refine r_i2l iX7_wise_138 ?_
    rw [nI_l (by omega)]
    refine r_lmul iX7_wise_139 ?_
    refine r_ladd iX7_wise_140 ?_
    rw [lN_mul, lN_mul, lN_add, Nat.mul_comm _ P, Nat.mul_comm v2]
    by_cases g : v3 ≤ P * (v1 * 10 ^ (2 - r)) + (10 - P) * v2
    · rw [if_pos g]
      refine r_lload iX7_wise_141 rfl ?_
      refine r_lcmp iX7_wise_143 ?_
      refine r_if_lt iX7_wise_144 (fun g9 => absurd g9 (fun q => absurd ((pk_lLT (by omega) (by omega)).mp ((lg_cmp_lt _ _).mp q)) (by omega))) (fun _ => ?_)
      refine r_iconst (v := 1) iX7_wise_147 rfl ?_
      refine r_goto iX7_wise_148 ?_
      refine r_iret iX7_wise_152 rfl ?_
      exact ⟨rfl, rfl, J', me', hJ', rfl⟩
    · rw [if_neg g]
      refine r_lload iX7_wise_141 rfl ?_
      refine r_lcmp iX7_wise_143 ?_
      refine r_if_lt iX7_wise_144 (fun _ => ?_) (fun g9 => absurd ((lg_cmp_lt _ _).mpr ((pk_lLT (by omega) (by omega)).mpr (by omega))) g9)
      refine r_iconst (v := 0) iX7_wise_151 rfl ?_
      refine r_iret iX7_wise_152 rfl ?_
      exact ⟨rfl, rfl, J', me', hJ', rfl⟩
  have P3 : ∀ (l6 : Int64), l6 = lN v2 → R MX7_wise 4 0 0 (fun v h' z' => v = some (.int (if v3 ≤ P * (v1 * 10 ^ (2 - r)) + (10 - P) * v2 then 1 else 0)) ∧ z' = z9 ∧ ∃ J' me', J' 2 = J 2 ∧ h' = mOv h (I, J', A, me')) 73 [.ref 152, .int (nI i), .int (nI m), .int 0, .int (nI r), .int (nI P), .null, .null, .null, .null, .null, .null] [.long l6] (mOv h (I, J', A, me')) z9 0 0 := by
    intro l6 e6
    refine r_lstore_6 iX7_wise_73 rfl ?_
    refine r_aload iX7_wise_75 rfl ?_
    refine r_gmeans iX7_wise_76 (flX7_25 _ rfl) ?_
    refine r_iconst (v := 1) iX7_wise_79 rfl ?_
    refine r_iconst (v := 0) iX7_wise_80 rfl ?_
    refine r_iconst (v := 1) iX7_wise_81 rfl ?_
    refine r_iconst (v := 1) iX7_wise_82 rfl ?_
    refine r_callS iX7_wise_83 (cX7_143 _ rfl) (c7_place _ 1 0 1 1 _) (by omega) rfl rfl (Nat.le_of_ble_eq_true rfl) (by first | exact Nat.le_of_ble_eq_true rfl | omega) (by first | exact Nat.le_of_ble_eq_true rfl | omega) ?_
    rintro v h' z8 ⟨rfl, rfl, rfl⟩
    refine r_ldm iX7_wise_86 (rfl) (pl_lt (by omega) (by omega) (by omega) (by omega)) ?_
    rw [a1]
    refine r_iconst (v := 2) iX7_wise_87 rfl ?_
    refine r_iload iX7_wise_88 rfl ?_
    refine r_isub iX7_wise_90 ?_
    rw [show (2 : Int32) - nI r = nI (2 - r) from nI_sub (a := 2) (by omega)]
    refine r_callS iX7_wise_91 (cX7_124 _ rfl) (c7_tenTo _ (2 - r) (by omega) _) (by omega) rfl rfl (Nat.le_of_ble_eq_true rfl) (by first | exact Nat.le_of_ble_eq_true rfl | omega) (by first | exact Nat.le_of_ble_eq_true rfl | omega) ?_
    rintro v h' z8 ⟨rfl, rfl, rfl⟩
    by_cases g : m = 1
    · rw [if_pos g] at a3
      refine r_lmul iX7_wise_94 ?_
      refine r_lstore_8 iX7_wise_95 rfl ?_
      refine r_iload iX7_wise_97 rfl ?_
      refine r_iconst (v := 1) iX7_wise_98 rfl ?_
      refine r_icmp_ne iX7_wise_99 (fun g9 => absurd (congrArg nI g) g9) (fun _ => ?_)
      refine r_lconst (v := 0) iX7_wise_102 rfl ?_
      refine r_goto iX7_wise_103 ?_
      refine r_lstore_10 iX7_wise_123 rfl ?_
      exact P4 _ _ _ e6 rfl a3
    · rw [if_neg g] at a3
      refine r_lmul iX7_wise_94 ?_
      refine r_lstore_8 iX7_wise_95 rfl ?_
      refine r_iload iX7_wise_97 rfl ?_
      refine r_iconst (v := 1) iX7_wise_98 rfl ?_
      refine r_icmp_ne iX7_wise_99 (fun _ => ?_) (fun g9 => absurd g9 (fun q => g ((nI_eq (b := 1) (by omega) (by omega)).mp q)))
      refine r_aload iX7_wise_106 rfl ?_
      refine r_gmeans iX7_wise_107 (flX7_25 _ rfl) ?_
      refine r_iconst (v := 1) iX7_wise_110 rfl ?_
      refine r_iload iX7_wise_111 rfl ?_
      refine r_iconst (v := 0) iX7_wise_113 rfl ?_
      refine r_iconst (v := 0) iX7_wise_114 rfl ?_
      refine r_callS iX7_wise_115 (cX7_143 _ rfl) (c7_place _ 1 r 0 0 _) (by omega) rfl rfl (Nat.le_of_ble_eq_true rfl) (by first | exact Nat.le_of_ble_eq_true rfl | omega) (by first | exact Nat.le_of_ble_eq_true rfl | omega) ?_
      rintro v h' z8 ⟨rfl, rfl, rfl⟩
      refine r_ldm iX7_wise_118 (rfl) (pl_lt (by omega) (by omega) (by omega) (by omega)) ?_
      refine r_ldc2 (v := 1000) iX7_wise_119 (gt_3 190 rfl rfl) ?_
      refine r_lmul iX7_wise_122 ?_
      refine r_lstore_10 iX7_wise_123 rfl ?_
      exact P4 _ _ _ e6 rfl a3
  by_cases g : r = 2
  · rw [if_pos g] at a2
    refine r_istore_5 iX7_wise_46 rfl ?_
    refine r_iload iX7_wise_48 rfl ?_
    refine r_iconst (v := 2) iX7_wise_50 rfl ?_
    refine r_icmp_ne iX7_wise_51 (fun g9 => absurd (congrArg nI g) g9) (fun _ => ?_)
    refine r_lconst (v := 0) iX7_wise_54 rfl ?_
    refine r_goto iX7_wise_55 ?_
    exact P3 _ a2
  · rw [if_neg g] at a2
    refine r_istore_5 iX7_wise_46 rfl ?_
    refine r_iload iX7_wise_48 rfl ?_
    refine r_iconst (v := 2) iX7_wise_50 rfl ?_
    refine r_icmp_ne iX7_wise_51 (fun _ => ?_) (fun g9 => absurd g9 (fun q => g ((nI_eq (b := 2) (by omega) (by omega)).mp q)))
    refine r_aload iX7_wise_58 rfl ?_
    refine r_gmeans iX7_wise_59 (flX7_25 _ rfl) ?_
    refine r_iconst (v := 0) iX7_wise_62 rfl ?_
    refine r_iload iX7_wise_63 rfl ?_
    refine r_iconst (v := 1) iX7_wise_65 rfl ?_
    refine r_iadd iX7_wise_66 ?_
    rw [nI_1]
    refine r_iconst (v := 1) iX7_wise_67 rfl ?_
    refine r_iconst (v := 0) iX7_wise_68 rfl ?_
    refine r_callS iX7_wise_69 (cX7_143 _ rfl) (c7_place _ 0 (r + 1) 1 0 _) (by omega) rfl rfl (Nat.le_of_ble_eq_true rfl) (by first | exact Nat.le_of_ble_eq_true rfl | omega) (by first | exact Nat.le_of_ble_eq_true rfl | omega) ?_
    rintro v h' z8 ⟨rfl, rfl, rfl⟩
    refine r_ldm iX7_wise_72 (rfl) (pl_lt (by omega) (by omega) (by omega) (by omega)) ?_
    exact P3 _ a2
