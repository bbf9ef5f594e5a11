/-! the public methods that look ahead -/
theorem c6_ref_unk {h : Hp} {T : Tx} {n : Nat} {b u : Int32} {t : Nat → Nat → Int32} {sz nx : Nat} {W sl : Nat → Cn} {kp : Nat → Int32} {seed : Int64} (hn : n ≤ 4) (H : cls h T (n, b, u, t) sz nx W sl kp seed) (x m : Int32) (hx : ¬ (0 ≤ x ∧ x < nI n)) : Fn MX6_refusalAhead 2 [.ref 2, .int x, .int m] h (some (.int (-1))) := by
  obtain ⟨tr, pt, h_obj, h_tx, h_cu, h_tr, h_ac, h_sl, h_kp, h_pt, h_sh⟩ := id H
  intro z
  refine Cal_of_R (by decide +kernel) (L := [.ref 2, .int x, .int m]) rfl (Nat.le_of_ble_eq_true rfl) ?_
  refine r_aload iX6_refusalAhead_0 rfl ?_
  refine r_getfield iX6_refusalAhead_1 (flX6_19 _ rfl) h_obj rfl ?_
  refine r_iload iX6_refusalAhead_4 rfl ?_
  refine r_callV iX6_refusalAhead_5 (cX6_81 _ rfl) (Fn_con h_cu (c2_knows h 5 hn b u t x) _) (by omega) (h_cu.1) rfl rfl rfl (Nat.le_of_ble_eq_true rfl) (by first | exact Nat.le_of_ble_eq_true rfl | omega) (by first | exact Nat.le_of_ble_eq_true rfl | omega) ?_
  rintro v' h' z' ⟨rfl, qh, rfl⟩
  rw [qh, i_no hx]
  refine r_if_ne iX6_refusalAhead_8 (fun g9 => absurd (rfl) g9) (fun _ => ?_)
  refine r_iconst (v := (-1)) iX6_refusalAhead_11 rfl ?_
  refine r_iret iX6_refusalAhead_12 rfl ?_
  exact ⟨rfl, rfl, rfl⟩
theorem c6_ref_out {h : Hp} {T : Tx} {n : Nat} {b u : Int32} {t : Nat → Nat → Int32} {sz nx : Nat} {W sl : Nat → Cn} {kp : Nat → Int32} {seed : Int64} (hn : n ≤ 4) (H : cls h T (n, b, u, t) sz nx W sl kp seed) {i : Nat} (hi : i < n) (m : Int32) (hm : m < 1 ∨ 4 < m ∨ 11 < b + m - 1) : Fn MX6_refusalAhead 2 [.ref 2, .int (nI i), .int m] h (some (.int (-2))) := by
  obtain ⟨tr, pt, h_obj, h_tx, h_cu, h_tr, h_ac, h_sl, h_kp, h_pt, h_sh⟩ := id H
  intro z
  refine Cal_of_R (by decide +kernel) (L := [.ref 2, .int (nI i), .int m]) rfl (Nat.le_of_ble_eq_true rfl) ?_
  refine r_aload iX6_refusalAhead_0 rfl ?_
  refine r_getfield iX6_refusalAhead_1 (flX6_19 _ rfl) h_obj rfl ?_
  refine r_iload iX6_refusalAhead_4 rfl ?_
  refine r_callV iX6_refusalAhead_5 (cX6_81 _ rfl) (Fn_con h_cu (c2_knows h 5 hn b u t _) _) (by omega) (h_cu.1) rfl rfl rfl (Nat.le_of_ble_eq_true rfl) (by first | exact Nat.le_of_ble_eq_true rfl | omega) (by first | exact Nat.le_of_ble_eq_true rfl | omega) ?_
  rintro v' h' z' ⟨rfl, qh, rfl⟩
  rw [qh, i_ks hn hi]
  by_cases g1 : m < 1
  · refine r_if_ne iX6_refusalAhead_8 (fun _ => ?_) (fun g9 => absurd g9 (by decide))
    refine r_iload iX6_refusalAhead_13 rfl ?_
    refine r_iconst (v := 1) iX6_refusalAhead_14 rfl ?_
    refine r_icmp_lt iX6_refusalAhead_15 (fun _ => ?_) (fun g9 => absurd (g1) g9)
    refine r_bipush (v := (-2)) iX6_refusalAhead_39 rfl ?_
    refine r_iret iX6_refusalAhead_41 rfl ?_
    exact ⟨rfl, rfl, rfl⟩
  · by_cases g2 : 4 < m
    · refine r_if_ne iX6_refusalAhead_8 (fun _ => ?_) (fun g9 => absurd g9 (by decide))
      refine r_iload iX6_refusalAhead_13 rfl ?_
      refine r_iconst (v := 1) iX6_refusalAhead_14 rfl ?_
      refine r_icmp_lt iX6_refusalAhead_15 (fun g9 => absurd g9 (g1)) (fun _ => ?_)
      refine r_iload iX6_refusalAhead_18 rfl ?_
      refine r_iconst (v := 4) iX6_refusalAhead_19 rfl ?_
      refine r_icmp_gt iX6_refusalAhead_20 (fun _ => ?_) (fun g9 => absurd (g2) g9)
      refine r_bipush (v := (-2)) iX6_refusalAhead_39 rfl ?_
      refine r_iret iX6_refusalAhead_41 rfl ?_
      exact ⟨rfl, rfl, rfl⟩
    · have g3 : 11 < b + m - 1 := (hm.resolve_left g1).resolve_left g2
      refine r_if_ne iX6_refusalAhead_8 (fun _ => ?_) (fun g9 => absurd g9 (by decide))
      refine r_iload iX6_refusalAhead_13 rfl ?_
      refine r_iconst (v := 1) iX6_refusalAhead_14 rfl ?_
      refine r_icmp_lt iX6_refusalAhead_15 (fun g9 => absurd g9 (g1)) (fun _ => ?_)
      refine r_iload iX6_refusalAhead_18 rfl ?_
      refine r_iconst (v := 4) iX6_refusalAhead_19 rfl ?_
      refine r_icmp_gt iX6_refusalAhead_20 (fun g9 => absurd g9 (g2)) (fun _ => ?_)
      refine r_aload iX6_refusalAhead_23 rfl ?_
      refine r_getfield iX6_refusalAhead_24 (flX6_19 _ rfl) h_obj rfl ?_
      refine r_getfield iX6_refusalAhead_27 (flX6_140 _ rfl) (h_cu.1) rfl ?_
      refine r_iload iX6_refusalAhead_30 rfl ?_
      refine r_iadd iX6_refusalAhead_31 ?_
      refine r_iconst (v := 1) iX6_refusalAhead_32 rfl ?_
      refine r_isub iX6_refusalAhead_33 ?_
      refine r_bipush (v := 11) iX6_refusalAhead_34 rfl ?_
      refine r_icmp_le iX6_refusalAhead_36 (fun g9 => absurd g9 (Int32.not_le.mpr g3)) (fun _ => ?_)
      refine r_bipush (v := (-2)) iX6_refusalAhead_39 rfl ?_
      refine r_iret iX6_refusalAhead_41 rfl ?_
      exact ⟨rfl, rfl, rfl⟩
theorem c6_ref_in {h : Hp} {T : Tx} {n : Nat} {bb : Nat} {u : Int32} {t : Nat → Nat → Int32} {sz nx : Nat} {W sl : Nat → Cn} {kp : Nat → Int32} {seed : Int64} (hn : n ≤ 4) (H : cls h T (n, nI bb, u, t) sz nx W sl kp seed) {i : Nat} (hi : i < n) {m : Nat} (h1 : 1 ≤ m) (h4 : m ≤ 4) (hb : bb + m ≤ 12) : Fn MX6_refusalAhead 2 [.ref 2, .int (nI i), .int (nI m)] h (some (.int (if t i 7 = 3 then -3 else 0))) := by
  obtain ⟨tr, pt, h_obj, h_tx, h_cu, h_tr, h_ac, h_sl, h_kp, h_pt, h_sh⟩ := id H
  intro z
  have e1 : nI bb + nI m - 1 = nI (bb + m - 1) := by rw [nI_add]; exact pk_sub (b := 1) (by omega)
  refine Cal_of_R (by decide +kernel) (L := [.ref 2, .int (nI i), .int (nI m)]) rfl (Nat.le_of_ble_eq_true rfl) ?_
  refine r_aload iX6_refusalAhead_0 rfl ?_
  refine r_getfield iX6_refusalAhead_1 (flX6_19 _ rfl) h_obj rfl ?_
  refine r_iload iX6_refusalAhead_4 rfl ?_
  refine r_callV iX6_refusalAhead_5 (cX6_81 _ rfl) (Fn_con h_cu (c2_knows h 5 hn _ u t _) _) (by omega) (h_cu.1) rfl rfl rfl (Nat.le_of_ble_eq_true rfl) (by first | exact Nat.le_of_ble_eq_true rfl | omega) (by first | exact Nat.le_of_ble_eq_true rfl | omega) ?_
  rintro v' h' z' ⟨rfl, qh, rfl⟩
  rw [qh, i_ks hn hi]
  have hi4 : i < 4 := by omega
  refine r_if_ne iX6_refusalAhead_8 (fun _ => ?_) (fun g9 => absurd g9 (by decide))
  refine r_iload iX6_refusalAhead_13 rfl ?_
  refine r_iconst (v := 1) iX6_refusalAhead_14 rfl ?_
  refine r_icmp_lt iX6_refusalAhead_15 (fun g9 => absurd g9 (nI_nlt (b := 1) h1 (by omega))) (fun _ => ?_)
  refine r_iload iX6_refusalAhead_18 rfl ?_
  refine r_iconst (v := 4) iX6_refusalAhead_19 rfl ?_
  refine r_icmp_gt iX6_refusalAhead_20 (fun g9 => absurd g9 (nI_nlt (a := 4) h4 (by omega))) (fun _ => ?_)
  refine r_aload iX6_refusalAhead_23 rfl ?_
  refine r_getfield iX6_refusalAhead_24 (flX6_19 _ rfl) h_obj rfl ?_
  refine r_getfield iX6_refusalAhead_27 (flX6_140 _ rfl) (h_cu.1) rfl ?_
  refine r_iload iX6_refusalAhead_30 rfl ?_
  refine r_iadd iX6_refusalAhead_31 ?_
  refine r_iconst (v := 1) iX6_refusalAhead_32 rfl ?_
  refine r_isub iX6_refusalAhead_33 ?_
  rw [e1]
  refine r_bipush (v := 11) iX6_refusalAhead_34 rfl ?_
  refine r_icmp_le iX6_refusalAhead_36 (fun _ => ?_) (fun g9 => absurd (nI_le (b := 11) (by omega) (by omega)) g9)
  refine r_aload iX6_refusalAhead_42 rfl ?_
  refine r_getfield iX6_refusalAhead_43 (flX6_19 _ rfl) h_obj rfl ?_
  refine r_getfield iX6_refusalAhead_46 (flX6_85 _ rfl) (h_cu.1) rfl ?_
  refine r_iload iX6_refusalAhead_49 rfl ?_
  refine r_aaload iX6_refusalAhead_50 rfl (h_cu.2.1) (in4 hi4) (thr_ix 5 hi4) ?_
  refine r_callV iX6_refusalAhead_51 (cX6_131 _ rfl) (c5_isOut h (t i) (h_cu.2.2 i hi4) _) (by omega) (h_cu.2.2 i hi4) rfl rfl rfl (Nat.le_of_ble_eq_true rfl) (by first | exact Nat.le_of_ble_eq_true rfl | omega) (by first | exact Nat.le_of_ble_eq_true rfl | omega) ?_
  rintro v' h' z' ⟨rfl, qh, rfl⟩
  rw [qh]
  by_cases g : t i 7 = 3
  · rw [if_pos g, if_pos g]
    refine r_if_eq iX6_refusalAhead_54 (fun g9 => absurd g9 (by decide)) (fun _ => ?_)
    refine r_bipush (v := (-3)) iX6_refusalAhead_57 rfl ?_
    refine r_goto iX6_refusalAhead_59 ?_
    refine r_iret iX6_refusalAhead_63 rfl ?_
    exact ⟨rfl, rfl, rfl⟩
  · rw [if_neg g, if_neg g]
    refine r_if_eq iX6_refusalAhead_54 (fun _ => ?_) (fun g9 => absurd (rfl) g9)
    refine r_iconst (v := 0) iX6_refusalAhead_62 rfl ?_
    refine r_iret iX6_refusalAhead_63 rfl ?_
    exact ⟨rfl, rfl, rfl⟩
theorem c6_mean_no {h : Hp} (h_obj : ∃ fs, h 2 = some (.inr (5, fs))) {x m : Int32} (w : Int32) {r : Int32} (hR : Fn MX6_refusalAhead 2 [.ref 2, .int x, .int m] h (some (.int r))) (hr : ¬ r = 0) : PU MX6_mean 40 [.ref 2, .int x, .int m, .int w] h (.long r.toInt64) (fun h' => h' = h) := by
  obtain ⟨fs, h_obj⟩ := h_obj
  intro z
  refine Cal_of_R (by decide +kernel) (L := [.ref 2, .int x, .int m, .int w, .null, .null, .null, .null]) rfl (Nat.le_of_ble_eq_true rfl) ?_
  refine r_aload iX6_mean_0 rfl ?_
  refine r_iload iX6_mean_1 rfl ?_
  refine r_iload iX6_mean_2 rfl ?_
  refine r_callV iX6_mean_3 (cX6_151 _ rfl) (hR _) (by omega) (h_obj) rfl rfl rfl (Nat.le_of_ble_eq_true rfl) (by first | exact Nat.le_of_ble_eq_true rfl | omega) (by first | exact Nat.le_of_ble_eq_true rfl | omega) ?_
  rintro v' h' z' ⟨rfl, qh, rfl⟩
  rw [qh]
  refine r_istore_4 iX6_mean_6 rfl ?_
  refine r_iload iX6_mean_8 rfl ?_
  refine r_if_eq iX6_mean_10 (fun g9 => absurd g9 (hr)) (fun _ => ?_)
  refine r_iload iX6_mean_13 rfl ?_
  refine r_i2l iX6_mean_15 ?_
  refine r_lret iX6_mean_16 rfl ?_
  exact ⟨rfl, rfl, rfl, fun _ _ => rfl⟩
def frac (x y : Nat) (w : Int32) : Nat := (if w = 0 then y else x) / Nat.gcd x y
theorem c6_mean {h : Hp} (hT : tenAt h) {T : Tx} {n : Nat} {bb : Nat} {u : Int32} {t : Nat → Nat → Int32} {sz nx : Nat} {W sl : Nat → Cn} {kp : Nat → Int32} {seed : Int64} (hn : n ≤ 4) (H : cls h T (n, nI bb, u, t) sz nx W sl kp seed) {i : Nat} (hi : i < n) {m : Nat} (h1 : 1 ≤ m) (h4 : m ≤ 4) (hb : bb + m ≤ 12) (ho : ¬ t i 7 = 3) {r : Nat} (hr : t i 3 = nI r) (hr3 : r ≤ 3) (w : Int32) : PU MX6_mean 40 [.ref 2, .int (nI i), .int (nI m), .int w] h (.long (lN (frac (grt (t i) (nI bb) m 16 0 r 0 0) (10 ^ 12) w))) (fun h' => h' = h) := by
  obtain ⟨tr, pt, h_obj, h_tx, h_cu, h_tr, h_ac, h_sl, h_kp, h_pt, h_sh⟩ := id H
  intro z
  have hi4 : i < 4 := by omega
  have P := c6_ref_in hn H hi h1 h4 hb
  rw [if_neg ho] at P
  have PG1 := c1_greatest hT (h_cu.2.2 i hi4) (nI bb) h4 16 0 r 0 0 (by omega) hr3 (by omega) (by omega) (by omega)
  have hG := grt_le (t i) (nI bb) h4 16 0 r 0 0 (by omega)
  refine Cal_of_R (by decide +kernel) (L := [.ref 2, .int (nI i), .int (nI m), .int w, .null, .null, .null, .null]) rfl (Nat.le_of_ble_eq_true rfl) ?_
  refine r_aload iX6_mean_0 rfl ?_
  refine r_iload iX6_mean_1 rfl ?_
  refine r_iload iX6_mean_2 rfl ?_
  refine r_callV iX6_mean_3 (cX6_151 _ rfl) (P _) (by omega) (h_obj) rfl rfl rfl (Nat.le_of_ble_eq_true rfl) (by first | exact Nat.le_of_ble_eq_true rfl | omega) (by first | exact Nat.le_of_ble_eq_true rfl | omega) ?_
  rintro v' h' z' ⟨rfl, qh, rfl⟩
  rw [qh]
  refine r_istore_4 iX6_mean_6 rfl ?_
  refine r_iload iX6_mean_8 rfl ?_
  refine r_if_eq iX6_mean_10 (fun _ => ?_) (fun g9 => absurd (rfl) g9)
  refine r_aload iX6_mean_17 rfl ?_
  refine r_getfield iX6_mean_18 (flX6_19 _ rfl) h_obj rfl ?_
  refine r_getfield iX6_mean_21 (flX6_85 _ rfl) (h_cu.1) rfl ?_
  refine r_iload iX6_mean_24 rfl ?_
  refine r_aaload iX6_mean_25 rfl (h_cu.2.1) (in4 hi4) (thr_ix 5 hi4) ?_
  refine r_astore_5 iX6_mean_26 rfl ?_
  refine r_aload iX6_mean_28 rfl ?_
  refine r_aload iX6_mean_30 rfl ?_
  refine r_getfield iX6_mean_31 (flX6_19 _ rfl) h_obj rfl ?_
  refine r_getfield iX6_mean_34 (flX6_140 _ rfl) (h_cu.1) rfl ?_
  refine r_iload iX6_mean_37 rfl ?_
  refine r_iconst (v := 0) iX6_mean_38 rfl ?_
  refine r_aload iX6_mean_39 rfl ?_
  refine r_getfield iX6_mean_41 (flX6_154 _ rfl) (h_cu.2.2 i hi4) rfl ?_
  dsimp only
  rw [hr]
  refine r_iconst (v := 0) iX6_mean_44 rfl ?_
  refine r_iconst (v := 0) iX6_mean_45 rfl ?_
  refine r_callSN iX6_mean_46 (cX6_157 _ rfl) (PG1 _) (by omega) rfl rfl (Nat.le_of_ble_eq_true rfl) (by first | exact Nat.le_of_ble_eq_true rfl | omega) (by first | exact Nat.le_of_ble_eq_true rfl | omega) ?_
  rintro v' h' z' ⟨rfl, qh, rfl⟩
  rw [qh]
  refine r_lstore_6 iX6_mean_49 rfl ?_
  refine r_lload iX6_mean_51 rfl ?_
  refine r_getTENS iX6_mean_53 (gt_2 104 rfl rfl) ?_
  refine r_bipush (v := 12) iX6_mean_56 rfl ?_
  refine r_laload iX6_mean_58 (hT) (ten_at12 (m := 12) (by omega)) (ten_at (m := 12) (by omega)) ?_
  refine r_iload iX6_mean_59 rfl ?_
  refine r_callS iX6_mean_60 (cX6_147 _ rfl) (c6_leastTerms h _ (10 ^ 12) w (small12 hG) (by decide) (by decide) _) (by omega) rfl rfl (Nat.le_of_ble_eq_true rfl) (by first | exact Nat.le_of_ble_eq_true rfl | omega) (by first | exact Nat.le_of_ble_eq_true rfl | omega) ?_
  rintro v' h' z' ⟨rfl, qh, rfl⟩
  rw [qh]
  refine r_lret iX6_mean_63 rfl ?_
  exact ⟨rfl, rfl, rfl, fun _ _ => rfl⟩
theorem c6_wise_no {h : Hp} (h_obj : ∃ fs, h 2 = some (.inr (5, fs))) {x m : Int32} {r : Int32} (hR : Fn MX6_refusalAhead 2 [.ref 2, .int x, .int m] h (some (.int r))) (hr : ¬ r = 0) : PU MX6_wise 40 [.ref 2, .int x, .int m] h (.int r) (fun h' => h' = h) := by
  obtain ⟨fs, h_obj⟩ := h_obj
  intro z
  refine Cal_of_R (by decide +kernel) (L := [.ref 2, .int x, .int m, .null, .null, .null, .null, .null, .null]) rfl (Nat.le_of_ble_eq_true rfl) ?_
  refine r_aload iX6_wise_0 rfl ?_
  refine r_iload iX6_wise_1 rfl ?_
  refine r_iload iX6_wise_2 rfl ?_
  refine r_callV iX6_wise_3 (cX6_151 _ rfl) (hR _) (by omega) (h_obj) rfl rfl rfl (Nat.le_of_ble_eq_true rfl) (by first | exact Nat.le_of_ble_eq_true rfl | omega) (by first | exact Nat.le_of_ble_eq_true rfl | omega) ?_
  rintro v' h' z' ⟨rfl, qh, rfl⟩
  rw [qh]
  refine r_istore_3 iX6_wise_6 rfl ?_
  refine r_iload iX6_wise_7 rfl ?_
  refine r_if_eq iX6_wise_8 (fun g9 => absurd g9 (hr)) (fun _ => ?_)
  refine r_iload iX6_wise_11 rfl ?_
  refine r_iret iX6_wise_12 rfl ?_
  exact ⟨rfl, rfl, rfl, fun _ _ => rfl⟩
theorem tryN_le (k : Nat → Int32) (b : Int32) {n : Nat} (hn : n ≤ 4) (f st r q last : Nat) (hst : st < n) (hq : q < 12) (hl : last ≤ 4) : tryN k b n f st r q last ≤ 4 * 10 ^ (12 - q) := by
  have e : 4 * 10 ^ (12 - q) = 10 * (4 * 10 ^ (12 - (q + 1))) := by
    rw [show 12 - q = 12 - (q + 1) + 1 by omega, Nat.pow_succ]; omega
  rw [e]
  exact mix_le (pN_le _ _ _) (grt_le k b hn f _ _ _ _ (by omega)) (grt_le k b hn f _ _ _ _ hl)
theorem c6_wise {h : Hp} (hT : tenAt h) {T : Tx} {n : Nat} {bb : Nat} {u : Int32} {t : Nat → Nat → Int32} {sz nx : Nat} {W sl : Nat → Cn} {kp : Nat → Int32} {seed : Int64} (hn : n ≤ 4) (H : cls h T (n, nI bb, u, t) sz nx W sl kp seed) {i : Nat} (hi : i < n) {m : Nat} (h1 : 1 ≤ m) (h4 : m ≤ 4) (hb : bb + m ≤ 12) (ho : ¬ t i 7 = 3) {r : Nat} (hr : t i 3 = nI r) (hr3 : r < 3) : PU MX6_wise 40 [.ref 2, .int (nI i), .int (nI m)] h (.int (if grt (t i) (nI bb) m 15 1 r 0 0 ≤ tryN (t i) (nI bb) m 15 0 r 0 0 then 1 else 0)) (fun h' => h' = h) := by
  obtain ⟨tr, pt, h_obj, h_tx, h_cu, h_tr, h_ac, h_sl, h_kp, h_pt, h_sh⟩ := id H
  intro z
  have hi4 : i < 4 := by omega
  have P := c6_ref_in hn H hi h1 h4 hb
  rw [if_neg ho] at P
  have PGr := c1_greatest hT (h_cu.2.2 i hi4) (nI bb) h4 15
  have P1 := c1_byTrying (h_cu.2.2 i hi4) (nI bb) h4 PGr (st := 0) (r := r) (q := 0) (last := 0) (by omega) hr3 (by omega) (by omega) (by omega)
  have P2 := c1_bySparing (a := 5 + 2 + i) (nI bb) h4 PGr (st := 0) (r := r) (q := 0) (last := 0) (by omega) (by omega) (by omega) (by omega) (by omega)
  have b1 := small12 (tryN_le (t i) (nI bb) h4 15 0 r 0 0 (by omega) (by omega) (by omega))
  have b2 := small12 (grt_le (t i) (nI bb) h4 15 (0 + 1) r 0 0 (by omega))
  refine Cal_of_R (by decide +kernel) (L := [.ref 2, .int (nI i), .int (nI m), .null, .null, .null, .null, .null, .null]) rfl (Nat.le_of_ble_eq_true rfl) ?_
  refine r_aload iX6_wise_0 rfl ?_
  refine r_iload iX6_wise_1 rfl ?_
  refine r_iload iX6_wise_2 rfl ?_
  refine r_callV iX6_wise_3 (cX6_151 _ rfl) (P _) (by omega) (h_obj) rfl rfl rfl (Nat.le_of_ble_eq_true rfl) (by first | exact Nat.le_of_ble_eq_true rfl | omega) (by first | exact Nat.le_of_ble_eq_true rfl | omega) ?_
  rintro v' h' z' ⟨rfl, qh, rfl⟩
  rw [qh]
  refine r_istore_3 iX6_wise_6 rfl ?_
  refine r_iload iX6_wise_7 rfl ?_
  refine r_if_eq iX6_wise_8 (fun _ => ?_) (fun g9 => absurd (rfl) g9)
  refine r_aload iX6_wise_13 rfl ?_
  refine r_getfield iX6_wise_14 (flX6_19 _ rfl) h_obj rfl ?_
  refine r_getfield iX6_wise_17 (flX6_85 _ rfl) (h_cu.1) rfl ?_
  refine r_iload iX6_wise_20 rfl ?_
  refine r_aaload iX6_wise_21 rfl (h_cu.2.1) (in4 hi4) (thr_ix 5 hi4) ?_
  refine r_astore_4 iX6_wise_22 rfl ?_
  refine r_aload iX6_wise_24 rfl ?_
  refine r_aload iX6_wise_26 rfl ?_
  refine r_getfield iX6_wise_27 (flX6_19 _ rfl) h_obj rfl ?_
  refine r_getfield iX6_wise_30 (flX6_140 _ rfl) (h_cu.1) rfl ?_
  refine r_iload iX6_wise_33 rfl ?_
  refine r_iconst (v := 0) iX6_wise_34 rfl ?_
  refine r_aload iX6_wise_35 rfl ?_
  refine r_getfield iX6_wise_37 (flX6_154 _ rfl) (h_cu.2.2 i hi4) rfl ?_
  dsimp only
  rw [hr]
  refine r_iconst (v := 0) iX6_wise_40 rfl ?_
  refine r_iconst (v := 0) iX6_wise_41 rfl ?_
  refine r_callSN iX6_wise_42 (cX6_161 _ rfl) (P1 _) (by omega) rfl rfl (Nat.le_of_ble_eq_true rfl) (by first | exact Nat.le_of_ble_eq_true rfl | omega) (by first | exact Nat.le_of_ble_eq_true rfl | omega) ?_
  rintro v' h' z' ⟨rfl, qh, rfl⟩
  rw [qh]
  refine r_lstore_5 iX6_wise_45 rfl ?_
  refine r_aload iX6_wise_47 rfl ?_
  refine r_aload iX6_wise_49 rfl ?_
  refine r_getfield iX6_wise_50 (flX6_19 _ rfl) h_obj rfl ?_
  refine r_getfield iX6_wise_53 (flX6_140 _ rfl) (h_cu.1) rfl ?_
  refine r_iload iX6_wise_56 rfl ?_
  refine r_iconst (v := 0) iX6_wise_57 rfl ?_
  refine r_aload iX6_wise_58 rfl ?_
  refine r_getfield iX6_wise_60 (flX6_154 _ rfl) (h_cu.2.2 i hi4) rfl ?_
  dsimp only
  rw [hr]
  refine r_iconst (v := 0) iX6_wise_63 rfl ?_
  refine r_iconst (v := 0) iX6_wise_64 rfl ?_
  refine r_callSN iX6_wise_65 (cX6_164 _ rfl) (P2 _) (by omega) rfl rfl (Nat.le_of_ble_eq_true rfl) (by first | exact Nat.le_of_ble_eq_true rfl | omega) (by first | exact Nat.le_of_ble_eq_true rfl | omega) ?_
  rintro v' h' z' ⟨rfl, qh, rfl⟩
  rw [qh]
  refine r_lstore_7 iX6_wise_68 rfl ?_
  refine r_lload iX6_wise_70 rfl ?_
  refine r_lload iX6_wise_72 rfl ?_
  refine r_lcmp iX6_wise_74 ?_
  by_cases g : grt (t i) (nI bb) m 15 (0 + 1) r 0 0 ≤ tryN (t i) (nI bb) m 15 0 r 0 0
  · have g2 : ¬ lg_cmp (lN (tryN (t i) (nI bb) m 15 0 r 0 0)) (lN (grt (t i) (nI bb) m 15 (0 + 1) r 0 0)) < 0 := fun q => by
      rw [lg_cmp_lt, pk_lLT b1 b2] at q; omega
    refine r_if_lt iX6_wise_75 (fun g9 => absurd g9 (g2)) (fun _ => ?_)
    refine r_iconst (v := 1) iX6_wise_78 rfl ?_
    refine r_goto iX6_wise_79 ?_
    refine r_iret iX6_wise_83 rfl ?_
    exact ⟨by rw [if_pos g], rfl, rfl, fun _ _ => rfl⟩
  · have g2 : lg_cmp (lN (tryN (t i) (nI bb) m 15 0 r 0 0)) (lN (grt (t i) (nI bb) m 15 (0 + 1) r 0 0)) < 0 := by
      rw [lg_cmp_lt, pk_lLT b1 b2]; omega
    refine r_if_lt iX6_wise_75 (fun _ => ?_) (fun g9 => absurd (g2) g9)
    refine r_iconst (v := 0) iX6_wise_82 rfl ?_
    refine r_iret iX6_wise_83 rfl ?_
    exact ⟨by rw [if_neg g], rfl, rfl, fun _ _ => rfl⟩
theorem c6_first_no {h : Hp} (h_obj : ∃ fs, h 2 = some (.inr (5, fs))) {x m : Int32} (w : Int32) {r : Int32} (hR : Fn MX6_refusalAhead 2 [.ref 2, .int x, .int m] h (some (.int r))) (hr : ¬ r = 0) : PU MX6_first 40 [.ref 2, .int x, .int m, .int w] h (.long r.toInt64) (fun h' => h' = h) := by
  obtain ⟨fs, h_obj⟩ := h_obj
  intro z
  refine Cal_of_R (by decide +kernel) (L := [.ref 2, .int x, .int m, .int w, .null, .null, .null]) rfl (Nat.le_of_ble_eq_true rfl) ?_
  refine r_aload iX6_first_0 rfl ?_
  refine r_iload iX6_first_1 rfl ?_
  refine r_iload iX6_first_2 rfl ?_
  refine r_callV iX6_first_3 (cX6_151 _ rfl) (hR _) (by omega) (h_obj) rfl rfl rfl (Nat.le_of_ble_eq_true rfl) (by first | exact Nat.le_of_ble_eq_true rfl | omega) (by first | exact Nat.le_of_ble_eq_true rfl | omega) ?_
  rintro v' h' z' ⟨rfl, qh, rfl⟩
  rw [qh]
  refine r_istore_4 iX6_first_6 rfl ?_
  refine r_iload iX6_first_8 rfl ?_
  refine r_if_eq iX6_first_10 (fun g9 => absurd g9 (hr)) (fun _ => ?_)
  refine r_iload iX6_first_13 rfl ?_
  refine r_i2l iX6_first_15 ?_
  refine r_lret iX6_first_16 rfl ?_
  exact ⟨rfl, rfl, rfl, fun _ _ => rfl⟩
theorem unb_le (n : Nat) (t : Nat → Nat → Int32) (num m : Nat) (b : Int32) : ∀ (f st q : Nat) (k : Nat → Int32), unb n t num m b f st q k ≤ 10 ^ (12 - q)
  | 0, st, q, k => by
    rw [unb]
    split
    · exact Nat.le_refl _
    · exact Nat.zero_le _
  | f + 1, st, q, k => by
    rw [unb]
    split
    · split
      · exact Nat.le_refl _
      · exact Nat.zero_le _
    · rename_i g
      have e : 10 ^ (12 - q) = 10 * 10 ^ (12 - (q + 1)) := by
        rw [show 12 - q = 12 - (q + 1) + 1 by omega, Nat.pow_succ]; omega
      rw [e]
      exact mix_le (pN_le _ _ _) (unb_le n t num m b f _ _ _) (unb_le n t num m b f _ _ _)
theorem c6_first {h : Hp} (hT : tenAt h) {T : Tx} {n : Nat} {bb : Nat} {u : Int32} {t : Nat → Nat → Int32} {sz nx : Nat} {W sl : Nat → Cn} {kp : Nat → Int32} {seed : Int64} (hn : n ≤ 4) (H : cls h T (n, nI bb, u, t) sz nx W sl kp seed) {i : Nat} (hi : i < n) {m : Nat} (h1 : 1 ≤ m) (h4 : m ≤ 4) (hb : bb + m ≤ 12) (ho : ¬ t i 7 = 3) (w : Int32) : PU MX6_first 40 [.ref 2, .int (nI i), .int (nI m), .int w] h (.long (lN (frac (unb n t i m (nI bb) 12 0 0 (t i)) (10 ^ 12) w))) (fun h' => cls h' T (n, nI bb, u, t) sz nx W sl kp seed) := by
  obtain ⟨tr, pt, h_obj, h_tx, h_cu, h_tr, h_ac, h_sl, h_kp, h_pt, h_sh⟩ := id H
  intro z
  have hi4 : i < 4 := by omega
  have P := c6_ref_in hn H hi h1 h4 hb
  rw [if_neg ho] at P
  have hU := unb_le n t i m (nI bb) 12 0 0 (t i)
  have P1 := c5_copyFrom h (a := 130 + 0) (b := 5 + 2 + i) (pt 0) (t i) (by omega) (h_cu.2.2 i hi4) (by omega)
  rw [hset_self (h_pt.2 0 (by omega))] at P1
  have H1 : cls (hset h (130 + 0) (thr (t i))) T (n, nI bb, u, t) sz nx W sl kp seed := H.pt (fun a ha => hset_ne _ _ (by omega)) (h_pt.set (by omega) (t i))
  have g_pt : ptAt (hset h (130 + 0) (thr (t i))) (upT pt 0 (t i)) := h_pt.set (by omega) (t i)
  have o1 : ∀ a, (a < 129 ∨ 143 ≤ a) → hset h (130 + 0) (thr (t i)) a = h a := fun a ha => hset_ne _ _ (by omega)
  generalize hset h (130 + 0) (thr (t i)) = h1 at P1 H1 o1 g_pt
  have g_obj : h1 2 = some (.inr (5, [.ref 3, .ref 5, .ref 11, .ref 17, .ref 115, .ref 128, .ref 129, .ref 143, .long seed])) := (o1 2 (by omega)).trans h_obj
  have g_cu : conAt h1 5 (n, nI bb, u, t) := h_cu.kept fun a q1 q2 => o1 a (by omega)
  have P2 := fun z => c1_unbeaten (c := 5) hn (b := nI bb) (u := u) (t := t) (num := i) (m := m) hi4 h4 (by omega) 12 h1 _ 0 0 z ((o1 1 (by omega)).trans hT) g_cu g_pt (by omega) (by omega) (by omega)
  rw [show upT pt 0 (t i) 0 = t i by simp [upT]] at P2
  refine Cal_of_R (by decide +kernel) (L := [.ref 2, .int (nI i), .int (nI m), .int w, .null, .null, .null]) rfl (Nat.le_of_ble_eq_true rfl) ?_
  refine r_aload iX6_first_0 rfl ?_
  refine r_iload iX6_first_1 rfl ?_
  refine r_iload iX6_first_2 rfl ?_
  refine r_callV iX6_first_3 (cX6_151 _ rfl) (P _) (by omega) (h_obj) rfl rfl rfl (Nat.le_of_ble_eq_true rfl) (by first | exact Nat.le_of_ble_eq_true rfl | omega) (by first | exact Nat.le_of_ble_eq_true rfl | omega) ?_
  rintro v' h' z' ⟨rfl, qh, rfl⟩
  rw [qh]
  refine r_istore_4 iX6_first_6 rfl ?_
  refine r_iload iX6_first_8 rfl ?_
  refine r_if_eq iX6_first_10 (fun _ => ?_) (fun g9 => absurd (rfl) g9)
  refine r_aload iX6_first_17 rfl ?_
  refine r_getfield iX6_first_18 (flX6_43 _ rfl) h_obj rfl ?_
  refine r_iconst (v := 0) iX6_first_21 rfl ?_
  refine r_aaload iX6_first_22 rfl (h_pt.1) (vp_in_nI (n := 0) (by omega) (by decide)) (pt_ix (i := 0) (by omega)) ?_
  refine r_aload iX6_first_23 rfl ?_
  refine r_getfield iX6_first_24 (flX6_19 _ rfl) h_obj rfl ?_
  refine r_getfield iX6_first_27 (flX6_85 _ rfl) (h_cu.1) rfl ?_
  refine r_iload iX6_first_30 rfl ?_
  refine r_aaload iX6_first_31 rfl (h_cu.2.1) (in4 hi4) (thr_ix 5 hi4) ?_
  refine r_callV iX6_first_32 (cX6_167 _ rfl) (P1 _) (by omega) (h_pt.2 0 (by omega)) rfl rfl rfl (Nat.le_of_ble_eq_true rfl) (by first | exact Nat.le_of_ble_eq_true rfl | omega) (by first | exact Nat.le_of_ble_eq_true rfl | omega) ?_
  rintro v' h' z' ⟨rfl, qh, rfl⟩
  rw [qh]
  refine r_aload iX6_first_35 rfl ?_
  refine r_getfield iX6_first_36 (flX6_19 _ rfl) (g_obj) rfl ?_
  refine r_iload iX6_first_39 rfl ?_
  refine r_aload iX6_first_40 rfl ?_
  refine r_getfield iX6_first_41 (flX6_43 _ rfl) (g_obj) rfl ?_
  refine r_iload iX6_first_44 rfl ?_
  refine r_iconst (v := 0) iX6_first_45 rfl ?_
  refine r_iconst (v := 0) iX6_first_46 rfl ?_
  refine r_callSN iX6_first_47 (cX6_170 _ rfl) (P2 _) (by omega) rfl rfl (Nat.le_of_ble_eq_true rfl) (by first | exact Nat.le_of_ble_eq_true rfl | omega) (by first | exact Nat.le_of_ble_eq_true rfl | omega) ?_
  rintro v' h2 z' ⟨rfl, rfl, ⟨pt2, hP2, -⟩, o2⟩
  have H2 : cls h2 T (n, nI bb, u, t) sz nx W sl kp seed := H1.pt o2 hP2
  have hT2 : tenAt h2 := (o2 1 (by omega)).trans ((o1 1 (by omega)).trans hT)
  refine r_lstore_5 iX6_first_50 rfl ?_
  refine r_lload iX6_first_52 rfl ?_
  refine r_getTENS iX6_first_54 (gt_2 104 rfl rfl) ?_
  refine r_bipush (v := 12) iX6_first_57 rfl ?_
  refine r_laload iX6_first_59 (hT2) (ten_at12 (m := 12) (by omega)) (ten_at (m := 12) (by omega)) ?_
  refine r_iload iX6_first_60 rfl ?_
  refine r_callS iX6_first_61 (cX6_147 _ rfl) (c6_leastTerms h2 _ (10 ^ 12) w (small12 (q := 0) (by omega)) (by decide) (by decide) _) (by omega) rfl rfl (Nat.le_of_ble_eq_true rfl) (by first | exact Nat.le_of_ble_eq_true rfl | omega) (by first | exact Nat.le_of_ble_eq_true rfl | omega) ?_
  rintro v' h' z' ⟨rfl, qh, rfl⟩
  rw [qh]
  refine r_lret iX6_first_64 rfl ?_
  exact ⟨rfl, rfl, H2, fun a ha => (o2 a (by omega)).trans (o1 a (by omega))⟩
theorem c6_clears_unk {h : Hp} {T : Tx} {n : Nat} {b u : Int32} {t : Nat → Nat → Int32} {sz nx : Nat} {W sl : Nat → Cn} {kp : Nat → Int32} {seed : Int64} (hn : n ≤ 4) (H : cls h T (n, b, u, t) sz nx W sl kp seed) (x w : Int32) (hx : ¬ (0 ≤ x ∧ x < nI n)) : PU MX6_clears 40 [.ref 2, .int x, .int w] h (.int (-1)) (fun h' => h' = h) := by
  obtain ⟨tr, pt, h_obj, h_tx, h_cu, h_tr, h_ac, h_sl, h_kp, h_pt, h_sh⟩ := id H
  intro z
  refine Cal_of_R (by decide +kernel) (L := [.ref 2, .int x, .int w, .null, .null, .null]) rfl (Nat.le_of_ble_eq_true rfl) ?_
  refine r_aload iX6_clears_0 rfl ?_
  refine r_getfield iX6_clears_1 (flX6_19 _ rfl) h_obj rfl ?_
  refine r_iload iX6_clears_4 rfl ?_
  refine r_callV iX6_clears_5 (cX6_81 _ rfl) (Fn_con h_cu (c2_knows h 5 hn b u t x) _) (by omega) (h_cu.1) rfl rfl rfl (Nat.le_of_ble_eq_true rfl) (by first | exact Nat.le_of_ble_eq_true rfl | omega) (by first | exact Nat.le_of_ble_eq_true rfl | omega) ?_
  rintro v' h' z' ⟨rfl, qh, rfl⟩
  rw [qh, i_no hx]
  refine r_if_ne iX6_clears_8 (fun g9 => absurd (rfl) g9) (fun _ => ?_)
  refine r_iconst (v := (-1)) iX6_clears_11 rfl ?_
  refine r_iret iX6_clears_12 rfl ?_
  exact ⟨rfl, rfl, rfl, fun _ _ => rfl⟩
theorem c6_clears_out {h : Hp} {T : Tx} {n : Nat} {b u : Int32} {t : Nat → Nat → Int32} {sz nx : Nat} {W sl : Nat → Cn} {kp : Nat → Int32} {seed : Int64} (hn : n ≤ 4) (H : cls h T (n, b, u, t) sz nx W sl kp seed) {i : Nat} (hi : i < n) (w : Int32) (ho : t i 7 = 3) : PU MX6_clears 40 [.ref 2, .int (nI i), .int w] h (.int (-3)) (fun h' => h' = h) := by
  obtain ⟨tr, pt, h_obj, h_tx, h_cu, h_tr, h_ac, h_sl, h_kp, h_pt, h_sh⟩ := id H
  intro z
  have hi4 : i < 4 := by omega
  refine Cal_of_R (by decide +kernel) (L := [.ref 2, .int (nI i), .int w, .null, .null, .null]) rfl (Nat.le_of_ble_eq_true rfl) ?_
  refine r_aload iX6_clears_0 rfl ?_
  refine r_getfield iX6_clears_1 (flX6_19 _ rfl) h_obj rfl ?_
  refine r_iload iX6_clears_4 rfl ?_
  refine r_callV iX6_clears_5 (cX6_81 _ rfl) (Fn_con h_cu (c2_knows h 5 hn b u t _) _) (by omega) (h_cu.1) rfl rfl rfl (Nat.le_of_ble_eq_true rfl) (by first | exact Nat.le_of_ble_eq_true rfl | omega) (by first | exact Nat.le_of_ble_eq_true rfl | omega) ?_
  rintro v' h' z' ⟨rfl, qh, rfl⟩
  rw [qh, i_ks hn hi]
  refine r_if_ne iX6_clears_8 (fun _ => ?_) (fun g9 => absurd g9 (by decide))
  refine r_aload iX6_clears_13 rfl ?_
  refine r_getfield iX6_clears_14 (flX6_19 _ rfl) h_obj rfl ?_
  refine r_getfield iX6_clears_17 (flX6_85 _ rfl) (h_cu.1) rfl ?_
  refine r_iload iX6_clears_20 rfl ?_
  refine r_aaload iX6_clears_21 rfl (h_cu.2.1) (in4 hi4) (thr_ix 5 hi4) ?_
  refine r_astore_3 iX6_clears_22 rfl ?_
  refine r_aload iX6_clears_23 rfl ?_
  refine r_callV iX6_clears_24 (cX6_131 _ rfl) (c5_isOut h (t i) (h_cu.2.2 i hi4) _) (by omega) (h_cu.2.2 i hi4) rfl rfl rfl (Nat.le_of_ble_eq_true rfl) (by first | exact Nat.le_of_ble_eq_true rfl | omega) (by first | exact Nat.le_of_ble_eq_true rfl | omega) ?_
  rintro v' h' z' ⟨rfl, qh, rfl⟩
  rw [qh, if_pos ho]
  refine r_if_eq iX6_clears_27 (fun g9 => absurd g9 (by decide)) (fun _ => ?_)
  refine r_bipush (v := (-3)) iX6_clears_30 rfl ?_
  refine r_iret iX6_clears_32 rfl ?_
  exact ⟨rfl, rfl, rfl, fun _ _ => rfl⟩
theorem c6_clears {h : Hp} {T : Tx} {n : Nat} {b u : Int32} {t : Nat → Nat → Int32} {sz nx : Nat} {W sl : Nat → Cn} {kp : Nat → Int32} {seed : Int64} (hn : n ≤ 4) (H : cls h T (n, b, u, t) sz nx W sl kp seed) {i : Nat} (hi : i < n) (w : Int32) (ho : ¬ t i 7 = 3) {r : Nat} (hr : t i 3 = nI r) (hr3 : r ≤ 3) : PU MX6_clears 40 [.ref 2, .int (nI i), .int w] h (.int (nI (frac (10 ^ (3 - r) - prodF (t i) b (3 - r)) (10 ^ (3 - r)) w))) (fun h' => h' = h) := by
  obtain ⟨tr, pt, h_obj, h_tx, h_cu, h_tr, h_ac, h_sl, h_kp, h_pt, h_sh⟩ := id H
  intro z
  have hi4 : i < 4 := by omega
  have hk : h (5 + 2 + i) = some (thr (t i)) := h_cu.2.2 i hi4
  have h10 : 10 ^ (3 - r) ≤ 10 ^ 3 := Nat.pow_le_pow_right (by decide) (by omega)
  have h10p : 0 < 10 ^ (3 - r) := Nat.pow_pos (by decide)
  have hF := prodF_le (t i) b (3 - r)
  refine Cal_of_R (by decide +kernel) (L := [.ref 2, .int (nI i), .int w, .null, .null, .null]) rfl (Nat.le_of_ble_eq_true rfl) ?_
  refine r_aload iX6_clears_0 rfl ?_
  refine r_getfield iX6_clears_1 (flX6_19 _ rfl) h_obj rfl ?_
  refine r_iload iX6_clears_4 rfl ?_
  refine r_callV iX6_clears_5 (cX6_81 _ rfl) (Fn_con h_cu (c2_knows h 5 hn b u t _) _) (by omega) (h_cu.1) rfl rfl rfl (Nat.le_of_ble_eq_true rfl) (by first | exact Nat.le_of_ble_eq_true rfl | omega) (by first | exact Nat.le_of_ble_eq_true rfl | omega) ?_
  rintro v' h' z' ⟨rfl, qh, rfl⟩
  rw [qh, i_ks hn hi]
  refine r_if_ne iX6_clears_8 (fun _ => ?_) (fun g9 => absurd g9 (by decide))
  refine r_aload iX6_clears_13 rfl ?_
  refine r_getfield iX6_clears_14 (flX6_19 _ rfl) h_obj rfl ?_
  refine r_getfield iX6_clears_17 (flX6_85 _ rfl) (h_cu.1) rfl ?_
  refine r_iload iX6_clears_20 rfl ?_
  refine r_aaload iX6_clears_21 rfl (h_cu.2.1) (in4 hi4) (thr_ix 5 hi4) ?_
  refine r_astore_3 iX6_clears_22 rfl ?_
  refine r_aload iX6_clears_23 rfl ?_
  refine r_callV iX6_clears_24 (cX6_131 _ rfl) (c5_isOut h (t i) hk _) (by omega) (hk) rfl rfl rfl (Nat.le_of_ble_eq_true rfl) (by first | exact Nat.le_of_ble_eq_true rfl | omega) (by first | exact Nat.le_of_ble_eq_true rfl | omega) ?_
  rintro v' h' z' ⟨rfl, qh, rfl⟩
  rw [qh, if_neg ho]
  refine r_if_eq iX6_clears_27 (fun _ => ?_) (fun g9 => absurd (rfl) g9)
  refine r_aload iX6_clears_33 rfl ?_
  refine r_callS iX6_clears_34 (cX6_134 _ rfl) (c1_wholeOf hk hr hr3 _) (by omega) rfl rfl (Nat.le_of_ble_eq_true rfl) (by first | exact Nat.le_of_ble_eq_true rfl | omega) (by first | exact Nat.le_of_ble_eq_true rfl | omega) ?_
  rintro v' h' z' ⟨rfl, qh, rfl⟩
  rw [qh]
  refine r_lstore_4 iX6_clears_37 rfl ?_
  refine r_lload iX6_clears_39 rfl ?_
  refine r_aload iX6_clears_41 rfl ?_
  refine r_aload iX6_clears_42 rfl ?_
  refine r_getfield iX6_clears_43 (flX6_19 _ rfl) h_obj rfl ?_
  refine r_getfield iX6_clears_46 (flX6_140 _ rfl) (h_cu.1) rfl ?_
  refine r_callS iX6_clears_49 (cX6_143 _ rfl) (c1_failing hk b hr hr3 _) (by omega) rfl rfl (Nat.le_of_ble_eq_true rfl) (by first | exact Nat.le_of_ble_eq_true rfl | omega) (by first | exact Nat.le_of_ble_eq_true rfl | omega) ?_
  rintro v' h' z' ⟨rfl, qh, rfl⟩
  rw [qh]
  refine r_lsub iX6_clears_52 ?_
  rw [lN_sub hF]
  refine r_lload iX6_clears_53 rfl ?_
  refine r_iload iX6_clears_55 rfl ?_
  refine r_callS iX6_clears_56 (cX6_147 _ rfl) (c6_leastTerms h _ _ w (by omega) (Nat.lt_of_le_of_lt h10 (by decide)) h10p _) (by omega) rfl rfl (Nat.le_of_ble_eq_true rfl) (by first | exact Nat.le_of_ble_eq_true rfl | omega) (by first | exact Nat.le_of_ble_eq_true rfl | omega) ?_
  rintro v' h' z' ⟨rfl, qh, rfl⟩
  rw [qh]
  refine r_l2i iX6_clears_59 ?_
  rw [lN_i]
  refine r_iret iX6_clears_60 rfl ?_
  exact ⟨rfl, rfl, rfl, fun _ _ => rfl⟩
theorem c6_alone_unk {h : Hp} {T : Tx} {n : Nat} {b u : Int32} {t : Nat → Nat → Int32} {sz nx : Nat} {W sl : Nat → Cn} {kp : Nat → Int32} {seed : Int64} (hn : n ≤ 4) (H : cls h T (n, b, u, t) sz nx W sl kp seed) (x y w : Int32) (hx : ¬ (0 ≤ x ∧ x < nI n) ∨ ¬ (0 ≤ y ∧ y < nI n)) : PU MX6_alone 40 [.ref 2, .int x, .int y, .int w] h (.int (-1)) (fun h' => h' = h) := by
  obtain ⟨tr, pt, h_obj, h_tx, h_cu, h_tr, h_ac, h_sl, h_kp, h_pt, h_sh⟩ := id H
  intro z
  refine Cal_of_R (by decide +kernel) (L := [.ref 2, .int x, .int y, .int w, .null, .null, .null, .null, .null, .null, .null, .null, .null, .null, .null, .null]) rfl (Nat.le_of_ble_eq_true rfl) ?_
  refine r_aload iX6_alone_0 rfl ?_
  refine r_getfield iX6_alone_1 (flX6_19 _ rfl) h_obj rfl ?_
  refine r_iload iX6_alone_4 rfl ?_
  refine r_callV iX6_alone_5 (cX6_81 _ rfl) (Fn_con h_cu (c2_knows h 5 hn b u t x) _) (by omega) (h_cu.1) rfl rfl rfl (Nat.le_of_ble_eq_true rfl) (by first | exact Nat.le_of_ble_eq_true rfl | omega) (by first | exact Nat.le_of_ble_eq_true rfl | omega) ?_
  rintro v' h' z' ⟨rfl, qh, rfl⟩
  rw [qh]
  by_cases g : 0 ≤ x ∧ x < nI n
  · rw [if_pos g]
    refine r_if_eq iX6_alone_8 (fun g9 => absurd g9 (by decide)) (fun _ => ?_)
    refine r_aload iX6_alone_11 rfl ?_
    refine r_getfield iX6_alone_12 (flX6_19 _ rfl) h_obj rfl ?_
    refine r_iload iX6_alone_15 rfl ?_
    refine r_callV iX6_alone_16 (cX6_81 _ rfl) (Fn_con h_cu (c2_knows h 5 hn b u t y) _) (by omega) (h_cu.1) rfl rfl rfl (Nat.le_of_ble_eq_true rfl) (by first | exact Nat.le_of_ble_eq_true rfl | omega) (by first | exact Nat.le_of_ble_eq_true rfl | omega) ?_
    rintro v' h' z' ⟨rfl, qh, rfl⟩
    rw [qh, i_no (hx.resolve_left (fun q => q g))]
    refine r_if_ne iX6_alone_19 (fun g9 => absurd (rfl) g9) (fun _ => ?_)
    refine r_iconst (v := (-1)) iX6_alone_22 rfl ?_
    refine r_iret iX6_alone_23 rfl ?_
    exact ⟨rfl, rfl, rfl, fun _ _ => rfl⟩
  · rw [if_neg g]
    refine r_if_eq iX6_alone_8 (fun _ => ?_) (fun g9 => absurd (rfl) g9)
    refine r_iconst (v := (-1)) iX6_alone_22 rfl ?_
    refine r_iret iX6_alone_23 rfl ?_
    exact ⟨rfl, rfl, rfl, fun _ _ => rfl⟩
theorem c6_alone_one {h : Hp} {T : Tx} {n : Nat} {b u : Int32} {t : Nat → Nat → Int32} {sz nx : Nat} {W sl : Nat → Cn} {kp : Nat → Int32} {seed : Int64} (hn : n ≤ 4) (H : cls h T (n, b, u, t) sz nx W sl kp seed) {i : Nat} (hi : i < n) (w : Int32) : PU MX6_alone 40 [.ref 2, .int (nI i), .int (nI i), .int w] h (.int (-2)) (fun h' => h' = h) := by
  obtain ⟨tr, pt, h_obj, h_tx, h_cu, h_tr, h_ac, h_sl, h_kp, h_pt, h_sh⟩ := id H
  intro z
  refine Cal_of_R (by decide +kernel) (L := [.ref 2, .int (nI i), .int (nI i), .int w, .null, .null, .null, .null, .null, .null, .null, .null, .null, .null, .null, .null]) rfl (Nat.le_of_ble_eq_true rfl) ?_
  refine r_aload iX6_alone_0 rfl ?_
  refine r_getfield iX6_alone_1 (flX6_19 _ rfl) h_obj rfl ?_
  refine r_iload iX6_alone_4 rfl ?_
  refine r_callV iX6_alone_5 (cX6_81 _ rfl) (Fn_con h_cu (c2_knows h 5 hn b u t _) _) (by omega) (h_cu.1) rfl rfl rfl (Nat.le_of_ble_eq_true rfl) (by first | exact Nat.le_of_ble_eq_true rfl | omega) (by first | exact Nat.le_of_ble_eq_true rfl | omega) ?_
  rintro v' h' z' ⟨rfl, qh, rfl⟩
  rw [qh, i_ks hn hi]
  refine r_if_eq iX6_alone_8 (fun g9 => absurd g9 (by decide)) (fun _ => ?_)
  refine r_aload iX6_alone_11 rfl ?_
  refine r_getfield iX6_alone_12 (flX6_19 _ rfl) h_obj rfl ?_
  refine r_iload iX6_alone_15 rfl ?_
  refine r_callV iX6_alone_16 (cX6_81 _ rfl) (Fn_con h_cu (c2_knows h 5 hn b u t _) _) (by omega) (h_cu.1) rfl rfl rfl (Nat.le_of_ble_eq_true rfl) (by first | exact Nat.le_of_ble_eq_true rfl | omega) (by first | exact Nat.le_of_ble_eq_true rfl | omega) ?_
  rintro v' h' z' ⟨rfl, qh, rfl⟩
  rw [qh, i_ks hn hi]
  refine r_if_ne iX6_alone_19 (fun _ => ?_) (fun g9 => absurd g9 (by decide))
  refine r_iload iX6_alone_24 rfl ?_
  refine r_iload iX6_alone_25 rfl ?_
  refine r_icmp_ne iX6_alone_26 (fun g9 => absurd (rfl) g9) (fun _ => ?_)
  refine r_bipush (v := (-2)) iX6_alone_29 rfl ?_
  refine r_iret iX6_alone_31 rfl ?_
  exact ⟨rfl, rfl, rfl, fun _ _ => rfl⟩
theorem c6_alone_out {h : Hp} {T : Tx} {n : Nat} {b u : Int32} {t : Nat → Nat → Int32} {sz nx : Nat} {W sl : Nat → Cn} {kp : Nat → Int32} {seed : Int64} (hn : n ≤ 4) (H : cls h T (n, b, u, t) sz nx W sl kp seed) {i j : Nat} (hi : i < n) (hj : j < n) (hij : i ≠ j) (w : Int32) (ho : t i 7 = 3 ∨ t j 7 = 3) : PU MX6_alone 40 [.ref 2, .int (nI i), .int (nI j), .int w] h (.int (-3)) (fun h' => h' = h) := by
  obtain ⟨tr, pt, h_obj, h_tx, h_cu, h_tr, h_ac, h_sl, h_kp, h_pt, h_sh⟩ := id H
  intro z
  have hi4 : i < 4 := by omega
  have hj4 : j < 4 := by omega
  have hne : ¬ nI i = nI j := fun q => hij ((nI_eq (by omega) (by omega)).mp q)
  refine Cal_of_R (by decide +kernel) (L := [.ref 2, .int (nI i), .int (nI j), .int w, .null, .null, .null, .null, .null, .null, .null, .null, .null, .null, .null, .null]) rfl (Nat.le_of_ble_eq_true rfl) ?_
  refine r_aload iX6_alone_0 rfl ?_
  refine r_getfield iX6_alone_1 (flX6_19 _ rfl) h_obj rfl ?_
  refine r_iload iX6_alone_4 rfl ?_
  refine r_callV iX6_alone_5 (cX6_81 _ rfl) (Fn_con h_cu (c2_knows h 5 hn b u t _) _) (by omega) (h_cu.1) rfl rfl rfl (Nat.le_of_ble_eq_true rfl) (by first | exact Nat.le_of_ble_eq_true rfl | omega) (by first | exact Nat.le_of_ble_eq_true rfl | omega) ?_
  rintro v' h' z' ⟨rfl, qh, rfl⟩
  rw [qh, i_ks hn hi]
  refine r_if_eq iX6_alone_8 (fun g9 => absurd g9 (by decide)) (fun _ => ?_)
  refine r_aload iX6_alone_11 rfl ?_
  refine r_getfield iX6_alone_12 (flX6_19 _ rfl) h_obj rfl ?_
  refine r_iload iX6_alone_15 rfl ?_
  refine r_callV iX6_alone_16 (cX6_81 _ rfl) (Fn_con h_cu (c2_knows h 5 hn b u t _) _) (by omega) (h_cu.1) rfl rfl rfl (Nat.le_of_ble_eq_true rfl) (by first | exact Nat.le_of_ble_eq_true rfl | omega) (by first | exact Nat.le_of_ble_eq_true rfl | omega) ?_
  rintro v' h' z' ⟨rfl, qh, rfl⟩
  rw [qh, i_ks hn hj]
  refine r_if_ne iX6_alone_19 (fun _ => ?_) (fun g9 => absurd g9 (by decide))
  refine r_iload iX6_alone_24 rfl ?_
  refine r_iload iX6_alone_25 rfl ?_
  refine r_icmp_ne iX6_alone_26 (fun _ => ?_) (fun g9 => absurd g9 (hne))
  refine r_aload iX6_alone_32 rfl ?_
  refine r_getfield iX6_alone_33 (flX6_19 _ rfl) h_obj rfl ?_
  refine r_getfield iX6_alone_36 (flX6_85 _ rfl) (h_cu.1) rfl ?_
  refine r_iload iX6_alone_39 rfl ?_
  refine r_aaload iX6_alone_40 rfl (h_cu.2.1) (in4 hi4) (thr_ix 5 hi4) ?_
  refine r_astore_4 iX6_alone_41 rfl ?_
  refine r_aload iX6_alone_43 rfl ?_
  refine r_getfield iX6_alone_44 (flX6_19 _ rfl) h_obj rfl ?_
  refine r_getfield iX6_alone_47 (flX6_85 _ rfl) (h_cu.1) rfl ?_
  refine r_iload iX6_alone_50 rfl ?_
  refine r_aaload iX6_alone_51 rfl (h_cu.2.1) (in4 hj4) (thr_ix 5 hj4) ?_
  refine r_astore_5 iX6_alone_52 rfl ?_
  refine r_aload iX6_alone_54 rfl ?_
  refine r_callV iX6_alone_56 (cX6_131 _ rfl) (c5_isOut h (t i) (h_cu.2.2 i hi4) _) (by omega) (h_cu.2.2 i hi4) rfl rfl rfl (Nat.le_of_ble_eq_true rfl) (by first | exact Nat.le_of_ble_eq_true rfl | omega) (by first | exact Nat.le_of_ble_eq_true rfl | omega) ?_
  rintro v' h' z' ⟨rfl, qh, rfl⟩
  rw [qh]
  by_cases g : t i 7 = 3
  · rw [if_pos g]
    refine r_if_ne iX6_alone_59 (fun _ => ?_) (fun g9 => absurd g9 (by decide))
    refine r_bipush (v := (-3)) iX6_alone_70 rfl ?_
    refine r_iret iX6_alone_72 rfl ?_
    exact ⟨rfl, rfl, rfl, fun _ _ => rfl⟩
  · rw [if_neg g]
    refine r_if_ne iX6_alone_59 (fun g9 => absurd (rfl) g9) (fun _ => ?_)
    refine r_aload iX6_alone_62 rfl ?_
    refine r_callV iX6_alone_64 (cX6_131 _ rfl) (c5_isOut h (t j) (h_cu.2.2 j hj4) _) (by omega) (h_cu.2.2 j hj4) rfl rfl rfl (Nat.le_of_ble_eq_true rfl) (by first | exact Nat.le_of_ble_eq_true rfl | omega) (by first | exact Nat.le_of_ble_eq_true rfl | omega) ?_
    rintro v' h' z' ⟨rfl, qh, rfl⟩
    rw [qh, if_pos (ho.resolve_left g)]
    refine r_if_eq iX6_alone_67 (fun g9 => absurd g9 (by decide)) (fun _ => ?_)
    refine r_bipush (v := (-3)) iX6_alone_70 rfl ?_
    refine r_iret iX6_alone_72 rfl ?_
    exact ⟨rfl, rfl, rfl, fun _ _ => rfl⟩
theorem c6_alone {h : Hp} {T : Tx} {n : Nat} {b u : Int32} {t : Nat → Nat → Int32} {sz nx : Nat} {W sl : Nat → Cn} {kp : Nat → Int32} {seed : Int64} (hn : n ≤ 4) (H : cls h T (n, b, u, t) sz nx W sl kp seed) {i j : Nat} (hi : i < n) (hj : j < n) (hij : i ≠ j) (w : Int32) (hoi : ¬ t i 7 = 3) (hoj : ¬ t j 7 = 3) {r s : Nat} (hr : t i 3 = nI r) (hr3 : r ≤ 3) (hs : t j 3 = nI s) (hs3 : s ≤ 3) : PU MX6_alone 40 [.ref 2, .int (nI i), .int (nI j), .int w] h (.int (nI (frac ((10 ^ (3 - r) - prodF (t i) b (3 - r)) * prodF (t j) b (3 - s) + (10 ^ (3 - s) - prodF (t j) b (3 - s)) * prodF (t i) b (3 - r)) (10 ^ (3 - r) * 10 ^ (3 - s)) w))) (fun h' => h' = h) := by
  obtain ⟨tr, pt, h_obj, h_tx, h_cu, h_tr, h_ac, h_sl, h_kp, h_pt, h_sh⟩ := id H
  intro z
  have hi4 : i < 4 := by omega
  have hj4 : j < 4 := by omega
  have hne : ¬ nI i = nI j := fun q => hij ((nI_eq (by omega) (by omega)).mp q)
  have hk : h (5 + 2 + i) = some (thr (t i)) := h_cu.2.2 i hi4
  have hk2 : h (5 + 2 + j) = some (thr (t j)) := h_cu.2.2 j hj4
  have h10 : 10 ^ (3 - r) ≤ 10 ^ 3 := Nat.pow_le_pow_right (by decide) (by omega)
  have h10p : 0 < 10 ^ (3 - r) := Nat.pow_pos (by decide)
  have h20 : 10 ^ (3 - s) ≤ 10 ^ 3 := Nat.pow_le_pow_right (by decide) (by omega)
  have h20p : 0 < 10 ^ (3 - s) := Nat.pow_pos (by decide)
  have hF := prodF_le (t i) b (3 - r)
  have hG := prodF_le (t j) b (3 - s)
  have hb1 : (10 ^ (3 - r) - prodF (t i) b (3 - r)) * prodF (t j) b (3 - s) ≤ 10 ^ 3 * 10 ^ 3 := Nat.mul_le_mul (by omega) (by omega)
  have hb2 : (10 ^ (3 - s) - prodF (t j) b (3 - s)) * prodF (t i) b (3 - r) ≤ 10 ^ 3 * 10 ^ 3 := Nat.mul_le_mul (by omega) (by omega)
  have hb3 : 10 ^ (3 - r) * 10 ^ (3 - s) ≤ 10 ^ 3 * 10 ^ 3 := Nat.mul_le_mul h10 h20
  have hb4 : 0 < 10 ^ (3 - r) * 10 ^ (3 - s) := Nat.mul_pos h10p h20p
  refine Cal_of_R (by decide +kernel) (L := [.ref 2, .int (nI i), .int (nI j), .int w, .null, .null, .null, .null, .null, .null, .null, .null, .null, .null, .null, .null]) rfl (Nat.le_of_ble_eq_true rfl) ?_
  refine r_aload iX6_alone_0 rfl ?_
  refine r_getfield iX6_alone_1 (flX6_19 _ rfl) h_obj rfl ?_
  refine r_iload iX6_alone_4 rfl ?_
  refine r_callV iX6_alone_5 (cX6_81 _ rfl) (Fn_con h_cu (c2_knows h 5 hn b u t _) _) (by omega) (h_cu.1) rfl rfl rfl (Nat.le_of_ble_eq_true rfl) (by first | exact Nat.le_of_ble_eq_true rfl | omega) (by first | exact Nat.le_of_ble_eq_true rfl | omega) ?_
  rintro v' h' z' ⟨rfl, qh, rfl⟩
  rw [qh, i_ks hn hi]
  refine r_if_eq iX6_alone_8 (fun g9 => absurd g9 (by decide)) (fun _ => ?_)
  refine r_aload iX6_alone_11 rfl ?_
  refine r_getfield iX6_alone_12 (flX6_19 _ rfl) h_obj rfl ?_
  refine r_iload iX6_alone_15 rfl ?_
  refine r_callV iX6_alone_16 (cX6_81 _ rfl) (Fn_con h_cu (c2_knows h 5 hn b u t _) _) (by omega) (h_cu.1) rfl rfl rfl (Nat.le_of_ble_eq_true rfl) (by first | exact Nat.le_of_ble_eq_true rfl | omega) (by first | exact Nat.le_of_ble_eq_true rfl | omega) ?_
  rintro v' h' z' ⟨rfl, qh, rfl⟩
  rw [qh, i_ks hn hj]
  refine r_if_ne iX6_alone_19 (fun _ => ?_) (fun g9 => absurd g9 (by decide))
  refine r_iload iX6_alone_24 rfl ?_
  refine r_iload iX6_alone_25 rfl ?_
  refine r_icmp_ne iX6_alone_26 (fun _ => ?_) (fun g9 => absurd g9 (hne))
  refine r_aload iX6_alone_32 rfl ?_
  refine r_getfield iX6_alone_33 (flX6_19 _ rfl) h_obj rfl ?_
  refine r_getfield iX6_alone_36 (flX6_85 _ rfl) (h_cu.1) rfl ?_
  refine r_iload iX6_alone_39 rfl ?_
  refine r_aaload iX6_alone_40 rfl (h_cu.2.1) (in4 hi4) (thr_ix 5 hi4) ?_
  refine r_astore_4 iX6_alone_41 rfl ?_
  refine r_aload iX6_alone_43 rfl ?_
  refine r_getfield iX6_alone_44 (flX6_19 _ rfl) h_obj rfl ?_
  refine r_getfield iX6_alone_47 (flX6_85 _ rfl) (h_cu.1) rfl ?_
  refine r_iload iX6_alone_50 rfl ?_
  refine r_aaload iX6_alone_51 rfl (h_cu.2.1) (in4 hj4) (thr_ix 5 hj4) ?_
  refine r_astore_5 iX6_alone_52 rfl ?_
  refine r_aload iX6_alone_54 rfl ?_
  refine r_callV iX6_alone_56 (cX6_131 _ rfl) (c5_isOut h (t i) hk _) (by omega) (hk) rfl rfl rfl (Nat.le_of_ble_eq_true rfl) (by first | exact Nat.le_of_ble_eq_true rfl | omega) (by first | exact Nat.le_of_ble_eq_true rfl | omega) ?_
  rintro v' h' z' ⟨rfl, qh, rfl⟩
  rw [qh, if_neg hoi]
  refine r_if_ne iX6_alone_59 (fun g9 => absurd (rfl) g9) (fun _ => ?_)
  refine r_aload iX6_alone_62 rfl ?_
  refine r_callV iX6_alone_64 (cX6_131 _ rfl) (c5_isOut h (t j) hk2 _) (by omega) (hk2) rfl rfl rfl (Nat.le_of_ble_eq_true rfl) (by first | exact Nat.le_of_ble_eq_true rfl | omega) (by first | exact Nat.le_of_ble_eq_true rfl | omega) ?_
  rintro v' h' z' ⟨rfl, qh, rfl⟩
  rw [qh, if_neg hoj]
  refine r_if_eq iX6_alone_67 (fun _ => ?_) (fun g9 => absurd (rfl) g9)
  refine r_aload iX6_alone_73 rfl ?_
  refine r_callS iX6_alone_75 (cX6_134 _ rfl) (c1_wholeOf hk hr hr3 _) (by omega) rfl rfl (Nat.le_of_ble_eq_true rfl) (by first | exact Nat.le_of_ble_eq_true rfl | omega) (by first | exact Nat.le_of_ble_eq_true rfl | omega) ?_
  rintro v' h' z' ⟨rfl, qh, rfl⟩
  rw [qh]
  refine r_lstore_6 iX6_alone_78 rfl ?_
  refine r_aload iX6_alone_80 rfl ?_
  refine r_callS iX6_alone_82 (cX6_134 _ rfl) (c1_wholeOf hk2 hs hs3 _) (by omega) rfl rfl (Nat.le_of_ble_eq_true rfl) (by first | exact Nat.le_of_ble_eq_true rfl | omega) (by first | exact Nat.le_of_ble_eq_true rfl | omega) ?_
  rintro v' h' z' ⟨rfl, qh, rfl⟩
  rw [qh]
  refine r_lstore_8 iX6_alone_85 rfl ?_
  refine r_aload iX6_alone_87 rfl ?_
  refine r_aload iX6_alone_89 rfl ?_
  refine r_getfield iX6_alone_90 (flX6_19 _ rfl) h_obj rfl ?_
  refine r_getfield iX6_alone_93 (flX6_140 _ rfl) (h_cu.1) rfl ?_
  refine r_callS iX6_alone_96 (cX6_143 _ rfl) (c1_failing hk b hr hr3 _) (by omega) rfl rfl (Nat.le_of_ble_eq_true rfl) (by first | exact Nat.le_of_ble_eq_true rfl | omega) (by first | exact Nat.le_of_ble_eq_true rfl | omega) ?_
  rintro v' h' z' ⟨rfl, qh, rfl⟩
  rw [qh]
  refine r_lstore_10 iX6_alone_99 rfl ?_
  refine r_aload iX6_alone_101 rfl ?_
  refine r_aload iX6_alone_103 rfl ?_
  refine r_getfield iX6_alone_104 (flX6_19 _ rfl) h_obj rfl ?_
  refine r_getfield iX6_alone_107 (flX6_140 _ rfl) (h_cu.1) rfl ?_
  refine r_callS iX6_alone_110 (cX6_143 _ rfl) (c1_failing hk2 b hs hs3 _) (by omega) rfl rfl (Nat.le_of_ble_eq_true rfl) (by first | exact Nat.le_of_ble_eq_true rfl | omega) (by first | exact Nat.le_of_ble_eq_true rfl | omega) ?_
  rintro v' h' z' ⟨rfl, qh, rfl⟩
  rw [qh]
  refine r_lstore_12 iX6_alone_113 rfl ?_
  refine r_lload iX6_alone_115 rfl ?_
  refine r_lload iX6_alone_117 rfl ?_
  refine r_lsub iX6_alone_119 ?_
  rw [lN_sub hF]
  refine r_lload iX6_alone_120 rfl ?_
  refine r_lmul iX6_alone_122 ?_
  refine r_lload iX6_alone_123 rfl ?_
  refine r_lload iX6_alone_125 rfl ?_
  refine r_lsub iX6_alone_127 ?_
  rw [lN_sub hG]
  refine r_lload iX6_alone_128 rfl ?_
  refine r_lmul iX6_alone_130 ?_
  refine r_ladd iX6_alone_131 ?_
  rw [lN_mul, lN_mul, lN_add]
  refine r_lstore_14 iX6_alone_132 rfl ?_
  refine r_lload iX6_alone_134 rfl ?_
  refine r_lload iX6_alone_136 rfl ?_
  refine r_lload iX6_alone_138 rfl ?_
  refine r_lmul iX6_alone_140 ?_
  rw [lN_mul]
  refine r_iload iX6_alone_141 rfl ?_
  refine r_callS iX6_alone_142 (cX6_147 _ rfl) (c6_leastTerms h _ _ w (by omega) (by omega) hb4 _) (by omega) rfl rfl (Nat.le_of_ble_eq_true rfl) (by first | exact Nat.le_of_ble_eq_true rfl | omega) (by first | exact Nat.le_of_ble_eq_true rfl | omega) ?_
  rintro v' h' z' ⟨rfl, qh, rfl⟩
  rw [qh]
  refine r_l2i iX6_alone_145 ?_
  rw [lN_i]
  refine r_iret iX6_alone_146 rfl ?_
  exact ⟨rfl, rfl, rfl, fun _ _ => rfl⟩
