theorem i_no {n : Nat} {x : Int32} (hx : ¬ (0 ≤ x ∧ x < nI n)) : (if 0 ≤ x ∧ x < nI n then (1 : Int32) else 0) = 0 := if_neg hx
theorem c6_thrower_unk {h : Hp} {T : Tx} {n : Nat} {b u : Int32} {t : Nat → Nat → Int32} {sz nx : Nat} {W sl : Nat → Cn} {kp : Nat → Int32} {seed : Int64} (hn : n ≤ 4) (H : cls h T (n, b, u, t) sz nx W sl kp seed) (x w : Int32) (hx : ¬ (0 ≤ x ∧ x < nI n)) : PU MX6_thrower 4 [.ref 2, .int x, .int w] h (.int (-1)) (fun h' => h' = h) := by
  obtain ⟨tr, pt, h_obj, h_tx, h_cu, h_tr, h_ac, h_sl, h_kp, h_pt, h_sh⟩ := id H
  intro z
  refine Cal_of_R (by decide +kernel) (L := [.ref 2, .int x, .int w]) rfl (Nat.le_of_ble_eq_true rfl) ?_
  refine r_aload iX6_thrower_0 rfl ?_
  refine r_getfield iX6_thrower_1 (flX6_19 _ rfl) h_obj rfl ?_
  refine r_iload iX6_thrower_4 rfl ?_
  refine r_callV iX6_thrower_5 (cX6_81 _ rfl) (Fn_con h_cu (c2_knows h 5 hn b u t x) _) (by omega) (h_cu.1) rfl rfl rfl (Nat.le_of_ble_eq_true rfl) (by first | exact Nat.le_of_ble_eq_true rfl | omega) (by first | exact Nat.le_of_ble_eq_true rfl | omega) ?_
  rintro v' h' z' ⟨rfl, qh, rfl⟩
  rw [qh, i_no hx]
  refine r_if_ne iX6_thrower_8 (fun g9 => absurd (rfl) g9) (fun _ => ?_)
  refine r_iconst (v := (-1)) iX6_thrower_11 rfl ?_
  refine r_iret iX6_thrower_12 rfl ?_
  exact ⟨rfl, rfl, rfl, fun _ _ => rfl⟩
theorem c6_thrower_out {h : Hp} {T : Tx} {n : Nat} {b u : Int32} {t : Nat → Nat → Int32} {sz nx : Nat} {W sl : Nat → Cn} {kp : Nat → Int32} {seed : Int64} (hn : n ≤ 4) (H : cls h T (n, b, u, t) sz nx W sl kp seed) {i : Nat} (hi : i < n) (w : Int32) (hw : w < 0 ∨ 8 < w) : PU MX6_thrower 4 [.ref 2, .int (nI i), .int w] h (.int (-2)) (fun h' => h' = h) := by
  obtain ⟨tr, pt, h_obj, h_tx, h_cu, h_tr, h_ac, h_sl, h_kp, h_pt, h_sh⟩ := id H
  intro z
  refine Cal_of_R (by decide +kernel) (L := [.ref 2, .int (nI i), .int w]) rfl (Nat.le_of_ble_eq_true rfl) ?_
  refine r_aload iX6_thrower_0 rfl ?_
  refine r_getfield iX6_thrower_1 (flX6_19 _ rfl) h_obj rfl ?_
  refine r_iload iX6_thrower_4 rfl ?_
  refine r_callV iX6_thrower_5 (cX6_81 _ rfl) (Fn_con h_cu (c2_knows h 5 hn b u t _) _) (by omega) (h_cu.1) rfl rfl rfl (Nat.le_of_ble_eq_true rfl) (by first | exact Nat.le_of_ble_eq_true rfl | omega) (by first | exact Nat.le_of_ble_eq_true rfl | omega) ?_
  rintro v' h' z' ⟨rfl, qh, rfl⟩
  rw [qh, i_ks hn hi]
  rcases hw with hw | hw
  · refine r_if_ne iX6_thrower_8 (fun _ => ?_) (fun g9 => absurd g9 (by decide))
    refine r_iload iX6_thrower_13 rfl ?_
    refine r_if_lt iX6_thrower_14 (fun _ => ?_) (fun g9 => absurd (hw) g9)
    refine r_bipush (v := (-2)) iX6_thrower_23 rfl ?_
    refine r_iret iX6_thrower_25 rfl ?_
    exact ⟨rfl, rfl, rfl, fun _ _ => rfl⟩
  · have hw1 : ¬ w < 0 := fun q => Int32.lt_irrefl (Int32.lt_trans q (Int32.lt_trans (by decide) hw))
    refine r_if_ne iX6_thrower_8 (fun _ => ?_) (fun g9 => absurd g9 (by decide))
    refine r_iload iX6_thrower_13 rfl ?_
    refine r_if_lt iX6_thrower_14 (fun g9 => absurd g9 (hw1)) (fun _ => ?_)
    refine r_iload iX6_thrower_17 rfl ?_
    refine r_bipush (v := 8) iX6_thrower_18 rfl ?_
    refine r_icmp_le iX6_thrower_20 (fun g9 => absurd g9 (Int32.not_le.mpr hw)) (fun _ => ?_)
    refine r_bipush (v := (-2)) iX6_thrower_23 rfl ?_
    refine r_iret iX6_thrower_25 rfl ?_
    exact ⟨rfl, rfl, rfl, fun _ _ => rfl⟩
theorem c6_thrower {h : Hp} {T : Tx} {n : Nat} {b u : Int32} {t : Nat → Nat → Int32} {sz nx : Nat} {W sl : Nat → Cn} {kp : Nat → Int32} {seed : Int64} (hn : n ≤ 4) (H : cls h T (n, b, u, t) sz nx W sl kp seed) {i : Nat} (hi : i < n) {w : Nat} (hw : w < 9) : PU MX6_thrower 4 [.ref 2, .int (nI i), .int (nI w)] h (.int (t i w)) (fun h' => h' = h) := by
  obtain ⟨tr, pt, h_obj, h_tx, h_cu, h_tr, h_ac, h_sl, h_kp, h_pt, h_sh⟩ := id H
  intro z
  refine Cal_of_R (by decide +kernel) (L := [.ref 2, .int (nI i), .int (nI w)]) rfl (Nat.le_of_ble_eq_true rfl) ?_
  refine r_aload iX6_thrower_0 rfl ?_
  refine r_getfield iX6_thrower_1 (flX6_19 _ rfl) h_obj rfl ?_
  refine r_iload iX6_thrower_4 rfl ?_
  refine r_callV iX6_thrower_5 (cX6_81 _ rfl) (Fn_con h_cu (c2_knows h 5 hn b u t _) _) (by omega) (h_cu.1) rfl rfl rfl (Nat.le_of_ble_eq_true rfl) (by first | exact Nat.le_of_ble_eq_true rfl | omega) (by first | exact Nat.le_of_ble_eq_true rfl | omega) ?_
  rintro v' h' z' ⟨rfl, qh, rfl⟩
  rw [qh, i_ks hn hi]
  refine r_if_ne iX6_thrower_8 (fun _ => ?_) (fun g9 => absurd g9 (by decide))
  refine r_iload iX6_thrower_13 rfl ?_
  refine r_if_lt iX6_thrower_14 (fun g9 => absurd g9 (nI_pos (by omega))) (fun _ => ?_)
  refine r_iload iX6_thrower_17 rfl ?_
  refine r_bipush (v := 8) iX6_thrower_18 rfl ?_
  refine r_icmp_le iX6_thrower_20 (fun _ => ?_) (fun g9 => absurd (nI_le (b := 8) (by omega) (by omega)) g9)
  refine r_aload iX6_thrower_26 rfl ?_
  refine r_getfield iX6_thrower_27 (flX6_19 _ rfl) (h_obj) rfl ?_
  refine r_getfield iX6_thrower_30 (flX6_85 _ rfl) (h_cu.1) rfl ?_
  refine r_iload iX6_thrower_33 rfl ?_
  refine r_aaload iX6_thrower_34 rfl (h_cu.2.1) (in4 (by omega)) (thr_ix 5 (by omega)) ?_
  refine r_iload iX6_thrower_35 rfl ?_
  refine r_callV iX6_thrower_36 (cX6_88 _ rfl) (c5_told h (t i) (h_cu.2.2 i (by omega)) w hw _) (by omega) (h_cu.2.2 i (by omega)) rfl rfl rfl (Nat.le_of_ble_eq_true rfl) (by first | exact Nat.le_of_ble_eq_true rfl | omega) (by first | exact Nat.le_of_ble_eq_true rfl | omega) ?_
  rintro v' h' z' ⟨rfl, qh, rfl⟩
  rw [qh]
  refine r_iret iX6_thrower_39 rfl ?_
  exact ⟨rfl, rfl, rfl, fun _ _ => rfl⟩
theorem c6_on {h : Hp} {T : Tx} {n : Nat} {b u : Int32} {t : Nat → Nat → Int32} {sz nx : Nat} {W sl : Nat → Cn} {kp : Nat → Int32} {seed : Int64} (H : cls h T (n, b, u, t) sz nx W sl kp seed) : PU MX6_on 4 [.ref 2] h (.int u) (fun h' => h' = h) := by
  obtain ⟨tr, pt, h_obj, h_tx, h_cu, h_tr, h_ac, h_sl, h_kp, h_pt, h_sh⟩ := id H
  intro z
  refine Cal_of_R (by decide +kernel) (L := [.ref 2]) rfl (Nat.le_of_ble_eq_true rfl) ?_
  refine r_aload iX6_on_0 rfl ?_
  refine r_getfield iX6_on_1 (flX6_19 _ rfl) h_obj rfl ?_
  refine r_getfield iX6_on_4 (flX6_92 _ rfl) (h_cu.1) rfl ?_
  refine r_iret iX6_on_7 rfl ?_
  exact ⟨rfl, rfl, rfl, fun _ _ => rfl⟩
theorem c6_rank_unk {h : Hp} {T : Tx} {n : Nat} {b u : Int32} {t : Nat → Nat → Int32} {sz nx : Nat} {W sl : Nat → Cn} {kp : Nat → Int32} {seed : Int64} (hn : n ≤ 4) (H : cls h T (n, b, u, t) sz nx W sl kp seed) (x : Int32) (hx : ¬ (0 ≤ x ∧ x < nI n)) : PU MX6_rank 4 [.ref 2, .int x] h (.int (-1)) (fun h' => h' = h) := by
  obtain ⟨tr, pt, h_obj, h_tx, h_cu, h_tr, h_ac, h_sl, h_kp, h_pt, h_sh⟩ := id H
  intro z
  refine Cal_of_R (by decide +kernel) (L := [.ref 2, .int x]) rfl (Nat.le_of_ble_eq_true rfl) ?_
  refine r_aload iX6_rank_0 rfl ?_
  refine r_getfield iX6_rank_1 (flX6_19 _ rfl) h_obj rfl ?_
  refine r_iload iX6_rank_4 rfl ?_
  refine r_callV iX6_rank_5 (cX6_81 _ rfl) (Fn_con h_cu (c2_knows h 5 hn b u t x) _) (by omega) (h_cu.1) rfl rfl rfl (Nat.le_of_ble_eq_true rfl) (by first | exact Nat.le_of_ble_eq_true rfl | omega) (by first | exact Nat.le_of_ble_eq_true rfl | omega) ?_
  rintro v' h' z' ⟨rfl, qh, rfl⟩
  rw [qh, i_no hx]
  refine r_if_ne iX6_rank_8 (fun g9 => absurd (rfl) g9) (fun _ => ?_)
  refine r_iconst (v := (-1)) iX6_rank_11 rfl ?_
  refine r_iret iX6_rank_12 rfl ?_
  exact ⟨rfl, rfl, rfl, fun _ _ => rfl⟩
theorem c6_rank {h : Hp} {T : Tx} {n : Nat} {b u : Int32} {t : Nat → Nat → Int32} {sz nx : Nat} {W sl : Nat → Cn} {kp : Nat → Int32} {seed : Int64} (hn : n ≤ 4) (H : cls h T (n, b, u, t) sz nx W sl kp seed) {i : Nat} (hi : i < n) : PU MX6_rank 4 [.ref 2, .int (nI i)] h (.int (nI (cnt (fun j => kBetter (t j) (t i)) n))) (fun h' => h' = h) := by
  obtain ⟨tr, pt, h_obj, h_tx, h_cu, h_tr, h_ac, h_sl, h_kp, h_pt, h_sh⟩ := id H
  intro z
  have P := c2_betterThan h 5 hn b u t (a := 5 + 2 + i) (k := t i) (cOv_thr _ _ _ (by omega))
  rw [h_cu.ov] at P
  refine Cal_of_R (by decide +kernel) (L := [.ref 2, .int (nI i)]) rfl (Nat.le_of_ble_eq_true rfl) ?_
  refine r_aload iX6_rank_0 rfl ?_
  refine r_getfield iX6_rank_1 (flX6_19 _ rfl) h_obj rfl ?_
  refine r_iload iX6_rank_4 rfl ?_
  refine r_callV iX6_rank_5 (cX6_81 _ rfl) (Fn_con h_cu (c2_knows h 5 hn b u t _) _) (by omega) (h_cu.1) rfl rfl rfl (Nat.le_of_ble_eq_true rfl) (by first | exact Nat.le_of_ble_eq_true rfl | omega) (by first | exact Nat.le_of_ble_eq_true rfl | omega) ?_
  rintro v' h' z' ⟨rfl, qh, rfl⟩
  rw [qh, i_ks hn hi]
  refine r_if_ne iX6_rank_8 (fun _ => ?_) (fun g9 => absurd g9 (by decide))
  refine r_aload iX6_rank_13 rfl ?_
  refine r_getfield iX6_rank_14 (flX6_19 _ rfl) h_obj rfl ?_
  refine r_aload iX6_rank_17 rfl ?_
  refine r_getfield iX6_rank_18 (flX6_19 _ rfl) h_obj rfl ?_
  refine r_getfield iX6_rank_21 (flX6_85 _ rfl) (h_cu.1) rfl ?_
  refine r_iload iX6_rank_24 rfl ?_
  refine r_aaload iX6_rank_25 rfl (h_cu.2.1) (in4 (by omega)) (thr_ix 5 (by omega)) ?_
  refine r_callV iX6_rank_26 (cX6_95 _ rfl) (P _) (by omega) (h_cu.1) rfl rfl rfl (Nat.le_of_ble_eq_true rfl) (by first | exact Nat.le_of_ble_eq_true rfl | omega) (by first | exact Nat.le_of_ble_eq_true rfl | omega) ?_
  rintro v' h' z' ⟨rfl, qh, rfl⟩
  rw [qh]
  refine r_iret iX6_rank_29 rfl ?_
  exact ⟨rfl, rfl, rfl, fun _ _ => rfl⟩
theorem c6_odds_unk {h : Hp} {T : Tx} {n : Nat} {b u : Int32} {t : Nat → Nat → Int32} {sz nx : Nat} {W sl : Nat → Cn} {kp : Nat → Int32} {seed : Int64} (hn : n ≤ 4) (H : cls h T (n, b, u, t) sz nx W sl kp seed) (x w : Int32) (hx : ¬ (0 ≤ x ∧ x < nI n)) : PU MX6_odds 4 [.ref 2, .int x, .int w] h (.int (-1)) (fun h' => h' = h) := by
  obtain ⟨tr, pt, h_obj, h_tx, h_cu, h_tr, h_ac, h_sl, h_kp, h_pt, h_sh⟩ := id H
  intro z
  refine Cal_of_R (by decide +kernel) (L := [.ref 2, .int x, .int w]) rfl (Nat.le_of_ble_eq_true rfl) ?_
  refine r_aload iX6_odds_0 rfl ?_
  refine r_getfield iX6_odds_1 (flX6_19 _ rfl) h_obj rfl ?_
  refine r_iload iX6_odds_4 rfl ?_
  refine r_callV iX6_odds_5 (cX6_81 _ rfl) (Fn_con h_cu (c2_knows h 5 hn b u t x) _) (by omega) (h_cu.1) rfl rfl rfl (Nat.le_of_ble_eq_true rfl) (by first | exact Nat.le_of_ble_eq_true rfl | omega) (by first | exact Nat.le_of_ble_eq_true rfl | omega) ?_
  rintro v' h' z' ⟨rfl, qh, rfl⟩
  rw [qh, i_no hx]
  refine r_if_ne iX6_odds_8 (fun g9 => absurd (rfl) g9) (fun _ => ?_)
  refine r_iconst (v := (-1)) iX6_odds_11 rfl ?_
  refine r_iret iX6_odds_12 rfl ?_
  exact ⟨rfl, rfl, rfl, fun _ _ => rfl⟩
theorem c6_odds_out {h : Hp} {T : Tx} {n : Nat} {b u : Int32} {t : Nat → Nat → Int32} {sz nx : Nat} {W sl : Nat → Cn} {kp : Nat → Int32} {seed : Int64} (hn : n ≤ 4) (H : cls h T (n, b, u, t) sz nx W sl kp seed) {i : Nat} (hi : i < n) (w : Int32) (hw : w < 0 ∨ 11 < w) : PU MX6_odds 4 [.ref 2, .int (nI i), .int w] h (.int (-2)) (fun h' => h' = h) := by
  obtain ⟨tr, pt, h_obj, h_tx, h_cu, h_tr, h_ac, h_sl, h_kp, h_pt, h_sh⟩ := id H
  intro z
  refine Cal_of_R (by decide +kernel) (L := [.ref 2, .int (nI i), .int w]) rfl (Nat.le_of_ble_eq_true rfl) ?_
  refine r_aload iX6_odds_0 rfl ?_
  refine r_getfield iX6_odds_1 (flX6_19 _ rfl) h_obj rfl ?_
  refine r_iload iX6_odds_4 rfl ?_
  refine r_callV iX6_odds_5 (cX6_81 _ rfl) (Fn_con h_cu (c2_knows h 5 hn b u t _) _) (by omega) (h_cu.1) rfl rfl rfl (Nat.le_of_ble_eq_true rfl) (by first | exact Nat.le_of_ble_eq_true rfl | omega) (by first | exact Nat.le_of_ble_eq_true rfl | omega) ?_
  rintro v' h' z' ⟨rfl, qh, rfl⟩
  rw [qh, i_ks hn hi]
  rcases hw with hw | hw
  · refine r_if_ne iX6_odds_8 (fun _ => ?_) (fun g9 => absurd g9 (by decide))
    refine r_iload iX6_odds_13 rfl ?_
    refine r_if_lt iX6_odds_14 (fun _ => ?_) (fun g9 => absurd (hw) g9)
    refine r_bipush (v := (-2)) iX6_odds_23 rfl ?_
    refine r_iret iX6_odds_25 rfl ?_
    exact ⟨rfl, rfl, rfl, fun _ _ => rfl⟩
  · have hw1 : ¬ w < 0 := fun q => Int32.lt_irrefl (Int32.lt_trans q (Int32.lt_trans (by decide) hw))
    refine r_if_ne iX6_odds_8 (fun _ => ?_) (fun g9 => absurd g9 (by decide))
    refine r_iload iX6_odds_13 rfl ?_
    refine r_if_lt iX6_odds_14 (fun g9 => absurd g9 (hw1)) (fun _ => ?_)
    refine r_iload iX6_odds_17 rfl ?_
    refine r_bipush (v := 11) iX6_odds_18 rfl ?_
    refine r_icmp_le iX6_odds_20 (fun g9 => absurd g9 (Int32.not_le.mpr hw)) (fun _ => ?_)
    refine r_bipush (v := (-2)) iX6_odds_23 rfl ?_
    refine r_iret iX6_odds_25 rfl ?_
    exact ⟨rfl, rfl, rfl, fun _ _ => rfl⟩
theorem c6_odds {h : Hp} {T : Tx} {n : Nat} {b u : Int32} {t : Nat → Nat → Int32} {sz nx : Nat} {W sl : Nat → Cn} {kp : Nat → Int32} {seed : Int64} (hn : n ≤ 4) (H : cls h T (n, b, u, t) sz nx W sl kp seed) {i : Nat} (hi : i < n) {w : Nat} (hw : w ≤ 11) : PU MX6_odds 4 [.ref 2, .int (nI i), .int (nI w)] h (.int (kOdds (t i) (nI w) 0)) (fun h' => h' = h) := by
  obtain ⟨tr, pt, h_obj, h_tx, h_cu, h_tr, h_ac, h_sl, h_kp, h_pt, h_sh⟩ := id H
  intro z
  refine Cal_of_R (by decide +kernel) (L := [.ref 2, .int (nI i), .int (nI w)]) rfl (Nat.le_of_ble_eq_true rfl) ?_
  refine r_aload iX6_odds_0 rfl ?_
  refine r_getfield iX6_odds_1 (flX6_19 _ rfl) h_obj rfl ?_
  refine r_iload iX6_odds_4 rfl ?_
  refine r_callV iX6_odds_5 (cX6_81 _ rfl) (Fn_con h_cu (c2_knows h 5 hn b u t _) _) (by omega) (h_cu.1) rfl rfl rfl (Nat.le_of_ble_eq_true rfl) (by first | exact Nat.le_of_ble_eq_true rfl | omega) (by first | exact Nat.le_of_ble_eq_true rfl | omega) ?_
  rintro v' h' z' ⟨rfl, qh, rfl⟩
  rw [qh, i_ks hn hi]
  refine r_if_ne iX6_odds_8 (fun _ => ?_) (fun g9 => absurd g9 (by decide))
  refine r_iload iX6_odds_13 rfl ?_
  refine r_if_lt iX6_odds_14 (fun g9 => absurd g9 (nI_pos (by omega))) (fun _ => ?_)
  refine r_iload iX6_odds_17 rfl ?_
  refine r_bipush (v := 11) iX6_odds_18 rfl ?_
  refine r_icmp_le iX6_odds_20 (fun _ => ?_) (fun g9 => absurd (nI_le (b := 11) (by omega) (by omega)) g9)
  refine r_aload iX6_odds_26 rfl ?_
  refine r_getfield iX6_odds_27 (flX6_19 _ rfl) h_obj rfl ?_
  refine r_getfield iX6_odds_30 (flX6_85 _ rfl) (h_cu.1) rfl ?_
  refine r_iload iX6_odds_33 rfl ?_
  refine r_aaload iX6_odds_34 rfl (h_cu.2.1) (in4 (by omega)) (thr_ix 5 (by omega)) ?_
  refine r_iload iX6_odds_35 rfl ?_
  refine r_iconst (v := 0) iX6_odds_36 rfl ?_
  refine r_callV iX6_odds_37 (cX6_99 _ rfl) (c5_oddsAt h (t i) (h_cu.2.2 i (by omega)) _ _ _) (by omega) (h_cu.2.2 i (by omega)) rfl rfl rfl (Nat.le_of_ble_eq_true rfl) (by first | exact Nat.le_of_ble_eq_true rfl | omega) (by first | exact Nat.le_of_ble_eq_true rfl | omega) ?_
  rintro v' h' z' ⟨rfl, qh, rfl⟩
  rw [qh]
  refine r_iret iX6_odds_40 rfl ?_
  exact ⟨rfl, rfl, rfl, fun _ _ => rfl⟩
theorem i_end {n : Nat} : (if 0 ≤ (-9 : Int32) ∧ (-9 : Int32) < nI n then (0 : Int32) else 1) = 1 := if_neg (fun q => absurd q.1 (by decide))
theorem i_go {n i : Nat} (hn : n ≤ 4) (hi : i < n) : (if 0 ≤ nI i ∧ nI i < nI n then (0 : Int32) else 1) = 0 := if_pos ⟨nI_pos' (by omega), nI_lt hi (by omega)⟩
theorem c6_act_no {h : Hp} {T : Tx} {n : Nat} {b : Int32} {t : Nat → Nat → Int32} {sz nx : Nat} {W sl : Nat → Cn} {kp : Nat → Int32} {seed : Int64} (hn : n ≤ 4) (H : cls h T (n, b, -9, t) sz nx W sl kp seed) (w : Int32) : PU MX6_act 4 [.ref 2, .int w] h (.int (-3)) (fun h' => h' = h) := by
  obtain ⟨tr, pt, h_obj, h_tx, h_cu, h_tr, h_ac, h_sl, h_kp, h_pt, h_sh⟩ := id H
  intro z
  refine Cal_of_R (by decide +kernel) (L := [.ref 2, .int w]) rfl (Nat.le_of_ble_eq_true rfl) ?_
  refine r_aload iX6_act_0 rfl ?_
  refine r_getfield iX6_act_1 (flX6_19 _ rfl) h_obj rfl ?_
  refine r_callV iX6_act_4 (cX6_106 _ rfl) (Fn_con h_cu (c2_isEnded h 5 hn b _ t) _) (by omega) (h_cu.1) rfl rfl rfl (Nat.le_of_ble_eq_true rfl) (by first | exact Nat.le_of_ble_eq_true rfl | omega) (by first | exact Nat.le_of_ble_eq_true rfl | omega) ?_
  rintro v' h' z' ⟨rfl, qh, rfl⟩
  rw [qh, i_end]
  refine r_if_eq iX6_act_7 (fun g9 => absurd g9 (by decide)) (fun _ => ?_)
  refine r_bipush (v := (-3)) iX6_act_10 rfl ?_
  refine r_iret iX6_act_12 rfl ?_
  exact ⟨rfl, rfl, rfl, fun _ _ => rfl⟩
theorem goOnC_n (n : Nat) (b : Int32) (i : Nat) (t : Nat → Nat → Int32) : (goOnC n b i t).1 = n := by unfold goOnC; split <;> rfl
theorem c6_act {h : Hp} {T : Tx} {n i : Nat} {b : Int32} {t : Nat → Nat → Int32} {sz nx : Nat} {W sl : Nat → Cn} {kp : Nat → Int32} {seed : Int64} (hn : n ≤ 4) (hi : i < n) (hsz : sz ≤ 16) (hnx : nx < 16) (H : cls h T (n, b, nI i, t) sz nx W sl kp seed) {w : Nat} (hw : w < 3) : PU MX6_act 4 [.ref 2, .int (nI w)] h (.int (actC n b i t w).2.2.1) (fun h' => cls h' T (actC n b i t w) (sz1 sz) (nx1 nx) (upW W nx (copyC (n, b, nI i, t) (W nx).2.2.2)) sl kp seed) := by
  obtain ⟨tr, pt, h_obj, h_tx, h_cu, h_tr, h_ac, h_sl, h_kp, h_pt, h_sh⟩ := id H
  intro z
  have P := c0_remember h 17 5 (by omega) hsz hnx (K := (n, b, nI i, t)) hn h_ac h_cu (by omega)
  have H1 : cls (remH h 17 sz nx W (n, b, nI i, t)) T (n, b, nI i, t) (sz1 sz) (nx1 nx) (upW W nx (copyC (n, b, nI i, t) (W nx).2.2.2)) sl kp seed := H.ac (fun a ha => remH_out hnx (by omega)) (remH_at _ hnx h_ac)
  have o1 : ∀ a, (a < 2 ∨ 152 ≤ a) → remH h 17 sz nx W (n, b, nI i, t) a = h a := fun a ha => remH_out hnx (by omega)
  generalize remH h 17 sz nx W (n, b, nI i, t) = h1 at P H1 o1
  obtain ⟨tr1, pt1, g_obj, g_tx, g_cu, g_tr, g_ac, g_sl, g_kp, g_pt, g_sh⟩ := id H1
  have P2 := c2_act h1 5 (by omega) hn hi hw b t
  rw [g_cu.ov] at P2
  have H2 : cls (cOv h1 5 (actC n b i t w)) T (actC n b i t w) (sz1 sz) (nx1 nx) (upW W nx (copyC (n, b, nI i, t) (W nx).2.2.2)) sl kp seed := H1.cu (fun a ha => cOv_out _ _ _ (by omega)) (conAt_cOv _ _ _)
  have o2 : ∀ a, (a < 2 ∨ 152 ≤ a) → cOv h1 5 (actC n b i t w) a = h a := fun a ha => (cOv_out _ _ _ (by omega)).trans (o1 a ha)
  generalize cOv h1 5 (actC n b i t w) = h2 at P2 H2 o2
  obtain ⟨tr2, pt2, k_obj, k_tx, k_cu, k_tr, k_ac, k_sl, k_kp, k_pt, k_sh⟩ := id H2
  refine Cal_of_R (by decide +kernel) (L := [.ref 2, .int (nI w)]) rfl (Nat.le_of_ble_eq_true rfl) ?_
  refine r_aload iX6_act_0 rfl ?_
  refine r_getfield iX6_act_1 (flX6_19 _ rfl) h_obj rfl ?_
  refine r_callV iX6_act_4 (cX6_106 _ rfl) (Fn_con h_cu (c2_isEnded h 5 hn b _ t) _) (by omega) (h_cu.1) rfl rfl rfl (Nat.le_of_ble_eq_true rfl) (by first | exact Nat.le_of_ble_eq_true rfl | omega) (by first | exact Nat.le_of_ble_eq_true rfl | omega) ?_
  rintro v' h' z' ⟨rfl, qh, rfl⟩
  rw [qh, i_go hn hi]
  refine r_if_eq iX6_act_7 (fun _ => ?_) (fun g9 => absurd (rfl) g9)
  refine r_aload iX6_act_13 rfl ?_
  refine r_getfield iX6_act_14 (flX6_29 _ rfl) h_obj rfl ?_
  refine r_aload iX6_act_17 rfl ?_
  refine r_getfield iX6_act_18 (flX6_19 _ rfl) h_obj rfl ?_
  refine r_callV iX6_act_21 (cX6_110 _ rfl) (P _) (by omega) (h_ac.1) rfl rfl rfl (Nat.le_of_ble_eq_true rfl) (by first | exact Nat.le_of_ble_eq_true rfl | omega) (by first | exact Nat.le_of_ble_eq_true rfl | omega) ?_
  rintro v' h' z' ⟨rfl, qh, rfl⟩
  rw [qh]
  refine r_aload iX6_act_24 rfl ?_
  refine r_getfield iX6_act_25 (flX6_19 _ rfl) (g_obj) rfl ?_
  refine r_iload iX6_act_28 rfl ?_
  refine r_callV iX6_act_29 (cX6_114 _ rfl) (P2 _) (by omega) (g_cu.1) rfl rfl rfl (Nat.le_of_ble_eq_true rfl) (by first | exact Nat.le_of_ble_eq_true rfl | omega) (by first | exact Nat.le_of_ble_eq_true rfl | omega) ?_
  rintro v' h' z' ⟨rfl, qh, rfl⟩
  rw [qh]
  refine r_aload iX6_act_32 rfl ?_
  refine r_getfield iX6_act_33 (flX6_19 _ rfl) (k_obj) rfl ?_
  refine r_getfield iX6_act_36 (flX6_92 _ rfl) (k_cu.1) rfl ?_
  refine r_iret iX6_act_39 rfl ?_
  exact ⟨rfl, rfl, H2, o2⟩
theorem c6_toss {h : Hp} {x : Int32} {r : Value} {S : Hp → Prop} (hA : PU MX6_act 4 [.ref 2, .int (if x = 0 then nI 0 else nI 1)] h r S) (h_obj : ∃ fs, h 2 = some (.inr (5, fs))) (hr : ∃ q, r = .int q) : PU MX6_toss 5 [.ref 2, .int x] h r S := by
  obtain ⟨fs, h_obj⟩ := h_obj
  obtain ⟨q, rfl⟩ := hr
  intro z
  refine Cal_of_R (by decide +kernel) (L := [.ref 2, .int x]) rfl (Nat.le_of_ble_eq_true rfl) ?_
  refine r_aload iX6_toss_0 rfl ?_
  refine r_iload iX6_toss_1 rfl ?_
  refine r_if_eq iX6_toss_2 (fun g => ?_) (fun g => ?_)
  · rw [if_pos g] at hA
    refine r_iconst (v := 0) iX6_toss_9 rfl ?_
    refine r_callV iX6_toss_10 (cX6_103 _ rfl) (hA _) (by omega) (h_obj) rfl rfl rfl (Nat.le_of_ble_eq_true rfl) (by first | exact Nat.le_of_ble_eq_true rfl | omega) (by first | exact Nat.le_of_ble_eq_true rfl | omega) ?_
    rintro v' h' z' ⟨rfl, rfl, hS, ho⟩
    refine r_iret iX6_toss_13 rfl ?_
    exact ⟨rfl, rfl, hS, ho⟩
  · rw [if_neg g] at hA
    refine r_iconst (v := 1) iX6_toss_5 rfl ?_
    refine r_goto iX6_toss_6 ?_
    refine r_callV iX6_toss_10 (cX6_103 _ rfl) (hA _) (by omega) (h_obj) rfl rfl rfl (Nat.le_of_ble_eq_true rfl) (by first | exact Nat.le_of_ble_eq_true rfl | omega) (by first | exact Nat.le_of_ble_eq_true rfl | omega) ?_
    rintro v' h' z' ⟨rfl, rfl, hS, ho⟩
    refine r_iret iX6_toss_13 rfl ?_
    exact ⟨rfl, rfl, hS, ho⟩
theorem c6_spare {h : Hp} {r : Value} {S : Hp → Prop} (hA : PU MX6_act 4 [.ref 2, .int (nI 2)] h r S) (h_obj : ∃ fs, h 2 = some (.inr (5, fs))) (hr : ∃ q, r = .int q) : PU MX6_spare 5 [.ref 2] h r S := by
  obtain ⟨fs, h_obj⟩ := h_obj
  obtain ⟨q, rfl⟩ := hr
  intro z
  refine Cal_of_R (by decide +kernel) (L := [.ref 2]) rfl (Nat.le_of_ble_eq_true rfl) ?_
  refine r_aload iX6_spare_0 rfl ?_
  refine r_iconst (v := 2) iX6_spare_1 rfl ?_
  refine r_callV iX6_spare_2 (cX6_103 _ rfl) (hA _) (by omega) (h_obj) rfl rfl rfl (Nat.le_of_ble_eq_true rfl) (by first | exact Nat.le_of_ble_eq_true rfl | omega) (by first | exact Nat.le_of_ble_eq_true rfl | omega) ?_
  rintro v' h' z' ⟨rfl, rfl, hS, ho⟩
  refine r_iret iX6_spare_5 rfl ?_
  exact ⟨rfl, rfl, hS, ho⟩
theorem c6_undo_no {h : Hp} {T : Tx} {K : Cn} {nx : Nat} {W sl : Nat → Cn} {kp : Nat → Int32} {seed : Int64} (H : cls h T K 0 nx W sl kp seed) : PU MX6_undo 4 [.ref 2] h (.int (-3)) (fun h' => h' = h) := by
  obtain ⟨tr, pt, h_obj, h_tx, h_cu, h_tr, h_ac, h_sl, h_kp, h_pt, h_sh⟩ := id H
  intro z
  refine Cal_of_R (by decide +kernel) (L := [.ref 2]) rfl (Nat.le_of_ble_eq_true rfl) ?_
  refine r_aload iX6_undo_0 rfl ?_
  refine r_getfield iX6_undo_1 (flX6_29 _ rfl) h_obj rfl ?_
  refine r_getfield iX6_undo_4 (flX6_117 _ rfl) (h_ac.1) rfl ?_
  refine r_if_ne iX6_undo_7 (fun g9 => absurd (rfl) g9) (fun _ => ?_)
  refine r_bipush (v := (-3)) iX6_undo_10 rfl ?_
  refine r_iret iX6_undo_12 rfl ?_
  exact ⟨rfl, rfl, rfl, fun _ _ => rfl⟩
theorem takH_at {h : Hp} {a c sz nx : Nat} {W : Nat → Cn} {K : Cn} (hnx : nx < 16) (H : aAt h a sz nx W) (hd : c + 6 ≤ a ∨ a + 98 ≤ c) : aAt (takH h a c sz nx W K) a (sz - 1) (nxB nx) W := by
  unfold takH
  refine ⟨hset_eq _ _ _, ?_, fun j hj => ?_⟩
  · rw [hset_ne _ _ (by omega), cOv_out _ _ _ (by omega)]; exact H.2.1
  · exact ((H.2.2 j hj).out _ (by omega)).kept fun x h1 h2 => hset_ne _ _ (by omega)
theorem takH_con {h : Hp} {a c sz nx : Nat} {W : Nat → Cn} {K : Cn} (hd : c + 6 ≤ a ∨ a + 98 ≤ c) : conAt (takH h a c sz nx W K) c (copyC (W (nxB nx)) K.2.2.2) := by
  unfold takH
  exact (conAt_cOv _ _ _).kept fun x h1 h2 => hset_ne _ _ (by omega)
theorem takH_out {h : Hp} {a c sz nx : Nat} {W : Nat → Cn} {K : Cn} {x : Nat} (hx : x ≠ a) (hc : x < c ∨ c + 6 ≤ x) : takH h a c sz nx W K x = h x := by
  unfold takH
  rw [hset_ne _ _ hx, cOv_out _ _ _ hc]
theorem c6_undo {h : Hp} {T : Tx} {K : Cn} {sz nx : Nat} {W sl : Nat → Cn} {kp : Nat → Int32} {seed : Int64} (hs0 : 0 < sz) (hsz : sz ≤ 16) (hnx : nx < 16) (hn : (W (nxB nx)).1 ≤ 4) (H : cls h T K sz nx W sl kp seed) : PU MX6_undo 4 [.ref 2] h (.int (nI (sz - 1))) (fun h' => cls h' T (copyC (W (nxB nx)) K.2.2.2) (sz - 1) (nxB nx) W sl kp seed) := by
  obtain ⟨tr, pt, h_obj, h_tx, h_cu, h_tr, h_ac, h_sl, h_kp, h_pt, h_sh⟩ := id H
  intro z
  have P := c0_takeBack h 17 5 (by omega) (by omega) hs0 hsz hnx hn h_ac h_cu (by omega)
  have o9 : ∀ x, x ≠ 17 → (x < 5 ∨ 11 ≤ x) → takH h 17 5 sz nx W K x = h x := fun x h1 h2 => takH_out h1 (by omega)
  have H2 : cls (takH h 17 5 sz nx W K) T (copyC (W (nxB nx)) K.2.2.2) (sz - 1) (nxB nx) W sl kp seed := by
    refine ⟨tr, pt, by rw [o9 2 (by omega) (by omega)]; exact h_obj, h_tx.kept fun a q1 q2 => o9 a (by omega) (by omega), takH_con (by omega), h_tr.kept fun a q1 q2 => o9 a (by omega) (by omega), takH_at hnx h_ac (by omega), h_sl.kept fun a q1 q2 => o9 a (by omega) (by omega), h_kp.kept fun a q1 q2 => o9 a (by omega) (by omega), h_pt.kept fun a q1 q2 => o9 a (by omega) (by omega), h_sh.kept fun a q1 q2 => o9 a (by omega) (by omega)⟩
  have o2 : ∀ a, (a < 2 ∨ 152 ≤ a) → takH h 17 5 sz nx W K a = h a := fun a ha => o9 a (by omega) (by omega)
  generalize takH h 17 5 sz nx W K = h2 at P H2 o2
  obtain ⟨tr2, pt2, k_obj, k_tx, k_cu, k_tr, k_ac, k_sl, k_kp, k_pt, k_sh⟩ := id H2
  refine Cal_of_R (by decide +kernel) (L := [.ref 2]) rfl (Nat.le_of_ble_eq_true rfl) ?_
  refine r_aload iX6_undo_0 rfl ?_
  refine r_getfield iX6_undo_1 (flX6_29 _ rfl) h_obj rfl ?_
  refine r_getfield iX6_undo_4 (flX6_117 _ rfl) (h_ac.1) rfl ?_
  refine r_if_ne iX6_undo_7 (fun _ => ?_) (fun g9 => absurd g9 (nI_ne0 hs0 (by omega)))
  refine r_aload iX6_undo_13 rfl ?_
  refine r_getfield iX6_undo_14 (flX6_29 _ rfl) h_obj rfl ?_
  refine r_aload iX6_undo_17 rfl ?_
  refine r_getfield iX6_undo_18 (flX6_19 _ rfl) h_obj rfl ?_
  refine r_callV iX6_undo_21 (cX6_118 _ rfl) (P _) (by omega) (h_ac.1) rfl rfl rfl (Nat.le_of_ble_eq_true rfl) (by first | exact Nat.le_of_ble_eq_true rfl | omega) (by first | exact Nat.le_of_ble_eq_true rfl | omega) ?_
  rintro v' h' z' ⟨rfl, qh, rfl⟩
  rw [qh]
  refine r_aload iX6_undo_24 rfl ?_
  refine r_getfield iX6_undo_25 (flX6_29 _ rfl) (k_obj) rfl ?_
  refine r_getfield iX6_undo_28 (flX6_117 _ rfl) (k_ac.1) rfl ?_
  refine r_iret iX6_undo_31 rfl ?_
  exact ⟨rfl, rfl, H2, o2⟩
theorem c6_seed {h : Hp} {T : Tx} {K : Cn} {sz nx : Nat} {W sl : Nat → Cn} {kp : Nat → Int32} {seed : Int64} (H : cls h T K sz nx W sl kp seed) (v : Int64) : PU MX6_seed 4 [.ref 2, .long v] h (.long seed) (fun h' => cls h' T K sz nx W sl kp v) := by
  obtain ⟨tr, pt, h_obj, h_tx, h_cu, h_tr, h_ac, h_sl, h_kp, h_pt, h_sh⟩ := id H
  intro z
  refine Cal_of_R (by decide +kernel) (L := [.ref 2, .long v, .null, .null, .null]) rfl (Nat.le_of_ble_eq_true rfl) ?_
  refine r_aload iX6_seed_0 rfl ?_
  refine r_getfield iX6_seed_1 (flX6_55 _ rfl) h_obj rfl ?_
  refine r_lstore_3 iX6_seed_4 rfl ?_
  refine r_aload iX6_seed_5 rfl ?_
  refine r_lload iX6_seed_6 rfl ?_
  refine r_putfield iX6_seed_7 (fpX6_55 _ rfl) (by omega) (h_obj) (Nat.le_of_ble_eq_true rfl) ⟨rfl, rfl⟩ ?_
  refine r_lload iX6_seed_10 rfl ?_
  refine r_lret iX6_seed_11 rfl ?_
  exact ⟨rfl, rfl, H.obj (fun a ha => hset_ne _ _ (by omega)) (hset_eq _ _ _), fun a ha => hset_ne _ _ (by omega)⟩
