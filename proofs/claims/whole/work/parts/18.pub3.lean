theorem x_no2 {s : Int32} (hs : s < 0 ∨ 1 < s) (h0 : ¬ s < 0) : ¬ s < 2 := fun q => by
  rcases hs with g | g
  · exact h0 g
  · obtain ⟨j, hj, rfl⟩ := nI_of h0
    have h1 := (nI_ltI (a := 1) (by omega) hj).mp g
    have h2 := (nI_ltI (b := 2) hj (by omega)).mp q
    omega
theorem c6_keep_no {h : Hp} {T : Tx} {K : Cn} {sz nx : Nat} {W sl : Nat → Cn} {kp : Nat → Int32} {seed : Int64} (H : cls h T K sz nx W sl kp seed) (s : Int32) (hs : s < 0 ∨ 1 < s) : PU MX6_keep 4 [.ref 2, .int s] h (.int (-1)) (fun h' => h' = h) := by
  intro z
  refine Cal_of_R (by decide +kernel) (L := [.ref 2, .int s]) rfl (Nat.le_of_ble_eq_true rfl) ?_
  by_cases h0 : s < 0
  · refine r_iload iX6_keep_0 rfl ?_
    refine r_if_lt iX6_keep_1 (fun _ => ?_) (fun g9 => absurd (h0) g9)
    refine r_iconst (v := (-1)) iX6_keep_9 rfl ?_
    refine r_iret iX6_keep_10 rfl ?_
    exact ⟨rfl, rfl, rfl, fun _ _ => rfl⟩
  · refine r_iload iX6_keep_0 rfl ?_
    refine r_if_lt iX6_keep_1 (fun g9 => absurd g9 (h0)) (fun _ => ?_)
    refine r_iload iX6_keep_4 rfl ?_
    refine r_iconst (v := 2) iX6_keep_5 rfl ?_
    refine r_icmp_lt iX6_keep_6 (fun g9 => absurd g9 (x_no2 hs h0)) (fun _ => ?_)
    refine r_iconst (v := (-1)) iX6_keep_9 rfl ?_
    refine r_iret iX6_keep_10 rfl ?_
    exact ⟨rfl, rfl, rfl, fun _ _ => rfl⟩
theorem sl_ix {i : Nat} (hi : i < 2) : (fun j : Nat => Value.ref (116 + 6 * j)) (nI i).toNatClampNeg = .ref (116 + 6 * i) := by
  show Value.ref (116 + 6 * (nI i).toNatClampNeg) = _
  rw [nI_clamp (by omega)]
theorem c6_keep {h : Hp} {T : Tx} {n : Nat} {b u : Int32} {t : Nat → Nat → Int32} {sz nx : Nat} {W sl : Nat → Cn} {kp : Nat → Int32} {seed : Int64} (hn : n ≤ 4) (H : cls h T (n, b, u, t) sz nx W sl kp seed) {j : Nat} (hj : j < 2) : PU MX6_keep 4 [.ref 2, .int (nI j)] h (.int b) (fun h' => cls h' T (n, b, u, t) sz nx W (upW sl j (copyC (n, b, u, t) (sl j).2.2.2)) (upd kp j 1) seed) := by
  obtain ⟨tr, pt, h_obj, h_tx, h_cu, h_tr, h_ac, h_sl, h_kp, h_pt, h_sh⟩ := id H
  intro z
  have P := Pr_con (h_sl.2 j hj) (c2_copyFrom h (116 + 6 * j) 5 (by omega) (sl j) hn b u t (by omega) h_cu)
  have H1 : cls (cOv h (116 + 6 * j) (copyC (n, b, u, t) (sl j).2.2.2)) T (n, b, u, t) sz nx W (upW sl j (copyC (n, b, u, t) (sl j).2.2.2)) kp seed := H.sl (fun a ha => cOv_out _ _ _ (by omega)) ⟨by rw [cOv_out _ _ _ (by omega)]; exact h_sl.1, fun i hi => by
    by_cases g : i = j
    · subst g; rw [upW, if_pos rfl]; exact conAt_cOv _ _ _
    · rw [upW, if_neg g]; exact (h_sl.2 i hi).out _ (by omega)⟩
  have o1 : ∀ a, (a < 2 ∨ 152 ≤ a) → cOv h (116 + 6 * j) (copyC (n, b, u, t) (sl j).2.2.2) a = h a := fun a ha => cOv_out _ _ _ (by omega)
  have e9 : cOv h (116 + 6 * j) (n, b, u, mapT (fun j _ => t j) (sl j).2.2.2 n) = cOv h (116 + 6 * j) (copyC (n, b, u, t) (sl j).2.2.2) := rfl
  rw [e9] at P
  generalize cOv h (116 + 6 * j) (copyC (n, b, u, t) (sl j).2.2.2) = h1 at P H1 o1
  obtain ⟨tr1, pt1, g_obj, g_tx, g_cu, g_tr, g_ac, g_sl, g_kp, g_pt, g_sh⟩ := id H1
  refine Cal_of_R (by decide +kernel) (L := [.ref 2, .int (nI j)]) rfl (Nat.le_of_ble_eq_true rfl) ?_
  refine r_iload iX6_keep_0 rfl ?_
  refine r_if_lt iX6_keep_1 (fun g9 => absurd g9 (nI_pos (by omega))) (fun _ => ?_)
  refine r_iload iX6_keep_4 rfl ?_
  refine r_iconst (v := 2) iX6_keep_5 rfl ?_
  refine r_icmp_lt iX6_keep_6 (fun _ => ?_) (fun g9 => absurd (nI_lt (b := 2) hj (by omega)) g9)
  refine r_aload iX6_keep_11 rfl ?_
  refine r_getfield iX6_keep_12 (flX6_33 _ rfl) h_obj rfl ?_
  refine r_iload iX6_keep_15 rfl ?_
  refine r_aaload iX6_keep_16 rfl (h_sl.1) (vp_in_nI hj (by decide)) (sl_ix hj) ?_
  refine r_aload iX6_keep_17 rfl ?_
  refine r_getfield iX6_keep_18 (flX6_19 _ rfl) h_obj rfl ?_
  refine r_callV iX6_keep_21 (cX6_125 _ rfl) (P _) (by omega) ((h_sl.2 j hj).1) rfl rfl rfl (Nat.le_of_ble_eq_true rfl) (by first | exact Nat.le_of_ble_eq_true rfl | omega) (by first | exact Nat.le_of_ble_eq_true rfl | omega) ?_
  rintro v' h' z' ⟨rfl, qh, rfl⟩
  rw [qh]
  refine r_aload iX6_keep_24 rfl ?_
  refine r_getfield iX6_keep_25 (flX6_37 _ rfl) (g_obj) rfl ?_
  refine r_iload iX6_keep_28 rfl ?_
  refine r_iconst (v := 1) iX6_keep_29 rfl ?_
  refine r_bastore iX6_keep_30 (by omega) (g_kp) (vp_in_nI hj (by decide)) (Or.inr rfl) ?_
  rw [updV_int, nI_clamp (by omega)]
  have H2 : cls (hset h1 128 (.inl (.boolean, 2, fun i => .int (upd kp j 1 i)))) T (n, b, u, t) sz nx W (upW sl j (copyC (n, b, u, t) (sl j).2.2.2)) (upd kp j 1) seed := H1.kp (fun a ha => hset_ne _ _ (by omega)) (hset_eq _ _ _)
  have o2 : ∀ a, (a < 2 ∨ 152 ≤ a) → hset h1 128 (.inl (.boolean, 2, fun i => .int (upd kp j 1 i))) a = h a := fun a ha => (hset_ne _ _ (by omega)).trans (o1 a ha)
  generalize hset h1 128 (.inl (.boolean, 2, fun i => .int (upd kp j 1 i))) = h2 at H2 o2
  obtain ⟨tr2, pt2, k_obj, k_tx, k_cu, k_tr, k_ac, k_sl, k_kp, k_pt, k_sh⟩ := id H2
  refine r_aload iX6_keep_31 rfl ?_
  refine r_getfield iX6_keep_32 (flX6_19 _ rfl) (k_obj) rfl ?_
  refine r_getfield iX6_keep_35 (flX6_140 _ rfl) (k_cu.1) rfl ?_
  refine r_iret iX6_keep_38 rfl ?_
  exact ⟨rfl, rfl, H2, o2⟩
theorem c6_again_unk {h : Hp} {T : Tx} {K : Cn} {sz nx : Nat} {W sl : Nat → Cn} {kp : Nat → Int32} {seed : Int64} (H : cls h T K sz nx W sl kp seed) (s : Int32) (hs : s < 0 ∨ 1 < s) : PU MX6_again 4 [.ref 2, .int s] h (.int (-1)) (fun h' => h' = h) := by
  intro z
  refine Cal_of_R (by decide +kernel) (L := [.ref 2, .int s]) rfl (Nat.le_of_ble_eq_true rfl) ?_
  by_cases h0 : s < 0
  · refine r_iload iX6_again_0 rfl ?_
    refine r_if_lt iX6_again_1 (fun _ => ?_) (fun g9 => absurd (h0) g9)
    refine r_iconst (v := (-1)) iX6_again_9 rfl ?_
    refine r_iret iX6_again_10 rfl ?_
    exact ⟨rfl, rfl, rfl, fun _ _ => rfl⟩
  · refine r_iload iX6_again_0 rfl ?_
    refine r_if_lt iX6_again_1 (fun g9 => absurd g9 (h0)) (fun _ => ?_)
    refine r_iload iX6_again_4 rfl ?_
    refine r_iconst (v := 2) iX6_again_5 rfl ?_
    refine r_icmp_lt iX6_again_6 (fun g9 => absurd g9 (x_no2 hs h0)) (fun _ => ?_)
    refine r_iconst (v := (-1)) iX6_again_9 rfl ?_
    refine r_iret iX6_again_10 rfl ?_
    exact ⟨rfl, rfl, rfl, fun _ _ => rfl⟩
theorem c6_again_no {h : Hp} {T : Tx} {K : Cn} {sz nx : Nat} {W sl : Nat → Cn} {kp : Nat → Int32} {seed : Int64} (H : cls h T K sz nx W sl kp seed) {j : Nat} (hj : j < 2) (hk : kp j = 0) : PU MX6_again 4 [.ref 2, .int (nI j)] h (.int (-3)) (fun h' => h' = h) := by
  obtain ⟨tr, pt, h_obj, h_tx, h_cu, h_tr, h_ac, h_sl, h_kp, h_pt, h_sh⟩ := id H
  intro z
  refine Cal_of_R (by decide +kernel) (L := [.ref 2, .int (nI j)]) rfl (Nat.le_of_ble_eq_true rfl) ?_
  refine r_iload iX6_again_0 rfl ?_
  refine r_if_lt iX6_again_1 (fun g9 => absurd g9 (nI_pos (by omega))) (fun _ => ?_)
  refine r_iload iX6_again_4 rfl ?_
  refine r_iconst (v := 2) iX6_again_5 rfl ?_
  refine r_icmp_lt iX6_again_6 (fun _ => ?_) (fun g9 => absurd (nI_lt (b := 2) hj (by omega)) g9)
  refine r_aload iX6_again_11 rfl ?_
  refine r_getfield iX6_again_12 (flX6_37 _ rfl) h_obj rfl ?_
  refine r_iload iX6_again_15 rfl ?_
  refine r_baload iX6_again_16 (h_kp) (vp_in_nI hj (by decide)) (nI_at (by omega)) ?_
  refine r_if_ne iX6_again_17 (fun g9 => absurd (hk) g9) (fun _ => ?_)
  refine r_bipush (v := (-3)) iX6_again_20 rfl ?_
  refine r_iret iX6_again_22 rfl ?_
  exact ⟨rfl, rfl, rfl, fun _ _ => rfl⟩
theorem c6_again {h : Hp} {T : Tx} {K : Cn} {sz nx : Nat} {W sl : Nat → Cn} {kp : Nat → Int32} {seed : Int64} (H : cls h T K sz nx W sl kp seed) {j : Nat} (hj : j < 2) (hk : ¬ kp j = 0) (hn : (sl j).1 ≤ 4) : PU MX6_again 4 [.ref 2, .int (nI j)] h (.int (sl j).2.1) (fun h' => cls h' T (copyC (sl j) K.2.2.2) 0 0 W sl kp seed) := by
  obtain ⟨tr, pt, h_obj, h_tx, h_cu, h_tr, h_ac, h_sl, h_kp, h_pt, h_sh⟩ := id H
  intro z
  have P := Pr_con h_cu (c2_copyFrom h 5 (116 + 6 * j) (by omega) K hn (sl j).2.1 (sl j).2.2.1 (sl j).2.2.2 (by omega) (h_sl.2 j hj))
  have H1 : cls (cOv h 5 (copyC (sl j) K.2.2.2)) T (copyC (sl j) K.2.2.2) sz nx W sl kp seed := H.cu (fun a ha => cOv_out _ _ _ (by omega)) (conAt_cOv _ _ _)
  have o1 : ∀ a, (a < 2 ∨ 152 ≤ a) → cOv h 5 (copyC (sl j) K.2.2.2) a = h a := fun a ha => cOv_out _ _ _ (by omega)
  have e9 : cOv h 5 ((sl j).1, (sl j).2.1, (sl j).2.2.1, mapT (fun i _ => (sl j).2.2.2 i) K.2.2.2 (sl j).1) = cOv h 5 (copyC (sl j) K.2.2.2) := rfl
  rw [e9] at P
  generalize cOv h 5 (copyC (sl j) K.2.2.2) = h1 at P H1 o1
  obtain ⟨tr1, pt1, g_obj, g_tx, g_cu, g_tr, g_ac, g_sl, g_kp, g_pt, g_sh⟩ := id H1
  have P2 := c0_forget h1 (a := 17) (by omega) 18 (nI sz) (nI nx)
  rw [hset_self g_ac.1] at P2
  have H2 : cls (hset h1 17 (.inr (0, [.ref 18, .int 0, .int 0]))) T (copyC (sl j) K.2.2.2) 0 0 W sl kp seed := H1.ac (fun a ha => hset_ne _ _ (by omega)) ⟨hset_eq _ _ _, by rw [hset_ne _ _ (by omega)]; exact g_ac.2.1, fun j hj => (g_ac.2.2 j hj).kept fun x q1 q2 => hset_ne _ _ (by omega)⟩
  have o2 : ∀ a, (a < 2 ∨ 152 ≤ a) → hset h1 17 (.inr (0, [.ref 18, .int 0, .int 0])) a = h a := fun a ha => (hset_ne _ _ (by omega)).trans (o1 a ha)
  generalize hset h1 17 (.inr (0, [.ref 18, .int 0, .int 0])) = h2 at P2 H2 o2
  obtain ⟨tr2, pt2, k_obj, k_tx, k_cu, k_tr, k_ac, k_sl, k_kp, k_pt, k_sh⟩ := id H2
  refine Cal_of_R (by decide +kernel) (L := [.ref 2, .int (nI j)]) rfl (Nat.le_of_ble_eq_true rfl) ?_
  refine r_iload iX6_again_0 rfl ?_
  refine r_if_lt iX6_again_1 (fun g9 => absurd g9 (nI_pos (by omega))) (fun _ => ?_)
  refine r_iload iX6_again_4 rfl ?_
  refine r_iconst (v := 2) iX6_again_5 rfl ?_
  refine r_icmp_lt iX6_again_6 (fun _ => ?_) (fun g9 => absurd (nI_lt (b := 2) hj (by omega)) g9)
  refine r_aload iX6_again_11 rfl ?_
  refine r_getfield iX6_again_12 (flX6_37 _ rfl) h_obj rfl ?_
  refine r_iload iX6_again_15 rfl ?_
  refine r_baload iX6_again_16 (h_kp) (vp_in_nI hj (by decide)) (nI_at (by omega)) ?_
  refine r_if_ne iX6_again_17 (fun _ => ?_) (fun g9 => absurd g9 (hk))
  refine r_aload iX6_again_23 rfl ?_
  refine r_getfield iX6_again_24 (flX6_19 _ rfl) h_obj rfl ?_
  refine r_aload iX6_again_27 rfl ?_
  refine r_getfield iX6_again_28 (flX6_33 _ rfl) h_obj rfl ?_
  refine r_iload iX6_again_31 rfl ?_
  refine r_aaload iX6_again_32 rfl (h_sl.1) (vp_in_nI hj (by decide)) (sl_ix hj) ?_
  refine r_callV iX6_again_33 (cX6_125 _ rfl) (P _) (by omega) (h_cu.1) rfl rfl rfl (Nat.le_of_ble_eq_true rfl) (by first | exact Nat.le_of_ble_eq_true rfl | omega) (by first | exact Nat.le_of_ble_eq_true rfl | omega) ?_
  rintro v' h' z' ⟨rfl, qh, rfl⟩
  rw [qh]
  refine r_aload iX6_again_36 rfl ?_
  refine r_getfield iX6_again_37 (flX6_29 _ rfl) (g_obj) rfl ?_
  refine r_callV iX6_again_40 (cX6_75 _ rfl) (P2 _) (by omega) (g_ac.1) rfl rfl rfl (Nat.le_of_ble_eq_true rfl) (by first | exact Nat.le_of_ble_eq_true rfl | omega) (by first | exact Nat.le_of_ble_eq_true rfl | omega) ?_
  rintro v' h' z' ⟨rfl, qh, rfl⟩
  rw [qh]
  refine r_aload iX6_again_43 rfl ?_
  refine r_getfield iX6_again_44 (flX6_19 _ rfl) (k_obj) rfl ?_
  refine r_getfield iX6_again_47 (flX6_140 _ rfl) (k_cu.1) rfl ?_
  refine r_iret iX6_again_50 rfl ?_
  exact ⟨rfl, rfl, H2, o2⟩
theorem c6_count_out {h : Hp} (x : Int32) (hx : x < 0 ∨ 8 < x) : PU MX6_count 4 [.ref 2, .int x] h (.int (-2)) (fun h' => h' = h) := by
  intro z
  refine Cal_of_R (by decide +kernel) (L := [.ref 2, .int x]) rfl (Nat.le_of_ble_eq_true rfl) ?_
  rcases hx with hw | hw
  · refine r_iload iX6_count_0 rfl ?_
    refine r_if_lt iX6_count_1 (fun _ => ?_) (fun g9 => absurd (hw) g9)
    refine r_bipush (v := (-2)) iX6_count_10 rfl ?_
    refine r_iret iX6_count_12 rfl ?_
    exact ⟨rfl, rfl, rfl, fun _ _ => rfl⟩
  · have hw1 : ¬ x < 0 := fun q => Int32.lt_irrefl (Int32.lt_trans q (Int32.lt_trans (by decide) hw))
    refine r_iload iX6_count_0 rfl ?_
    refine r_if_lt iX6_count_1 (fun g9 => absurd g9 (hw1)) (fun _ => ?_)
    refine r_iload iX6_count_4 rfl ?_
    refine r_bipush (v := 8) iX6_count_5 rfl ?_
    refine r_icmp_le iX6_count_7 (fun g9 => absurd g9 (Int32.not_le.mpr hw)) (fun _ => ?_)
    refine r_bipush (v := (-2)) iX6_count_10 rfl ?_
    refine r_iret iX6_count_12 rfl ?_
    exact ⟨rfl, rfl, rfl, fun _ _ => rfl⟩
def cntC (l : Nat) (n : Nat) (b u : Int32) (t : Nat → Nat → Int32) (sz : Nat) (w : Nat) : Int32 := match w with
  | 0 => nI l
  | 1 => nI n
  | 2 => b
  | 3 => bitsI (notOutP t) n
  | 4 => bitsI (fun j => decide (t j 7 = 1)) n
  | 5 => bitsI (fun j => decide (t j 7 = 2)) n
  | 6 => nI sz
  | 7 => if 0 ≤ u ∧ u < nI n then 0 else 1
  | _ => bitsI (leadP n t) n
theorem c6_count {h : Hp} {l : Nat} {B : Nat → Int32} {n : Nat} {b u : Int32} {t : Nat → Nat → Int32} {sz nx : Nat} {W sl : Nat → Cn} {kp : Nat → Int32} {seed : Int64} (hn : n ≤ 4) (H : cls h (l, B) (n, b, u, t) sz nx W sl kp seed) {w : Nat} (hw : w < 9) : PU MX6_count 4 [.ref 2, .int (nI w)] h (.int (cntC l n b u t sz w)) (fun h' => h' = h) := by
  obtain ⟨tr, pt, h_obj, h_tx, h_cu, h_tr, h_ac, h_sl, h_kp, h_pt, h_sh⟩ := id H
  intro z
  refine Cal_of_R (by decide +kernel) (L := [.ref 2, .int (nI w)]) rfl (Nat.le_of_ble_eq_true rfl) ?_
  refine r_iload iX6_count_0 rfl ?_
  refine r_if_lt iX6_count_1 (fun g9 => absurd g9 (nI_pos (by omega))) (fun _ => ?_)
  refine r_iload iX6_count_4 rfl ?_
  refine r_bipush (v := 8) iX6_count_5 rfl ?_
  refine r_icmp_le iX6_count_7 (fun _ => ?_) (fun g9 => absurd (nI_le (b := 8) (by omega) (by omega)) g9)
  refine r_iload iX6_count_13 rfl ?_
  match w, hw with
  | 0, _ =>
    refine r_tabIn (tgt := 60) iX6_count_14 (by decide) (by decide) rfl rfl ?_
    refine r_aload iX6_count_60 rfl ?_
    refine r_getfield iX6_count_61 (flX6_12 _ rfl) h_obj rfl ?_
    refine r_getfield iX6_count_64 (flX6_59 _ rfl) (h_tx.1) rfl ?_
    refine r_iret iX6_count_67 rfl ?_
    exact ⟨rfl, rfl, rfl, fun _ _ => rfl⟩
  | 1, _ =>
    refine r_tabIn (tgt := 68) iX6_count_14 (by decide) (by decide) rfl rfl ?_
    refine r_aload iX6_count_68 rfl ?_
    refine r_getfield iX6_count_69 (flX6_19 _ rfl) h_obj rfl ?_
    refine r_getfield iX6_count_72 (flX6_78 _ rfl) (h_cu.1) rfl ?_
    refine r_iret iX6_count_75 rfl ?_
    exact ⟨rfl, rfl, rfl, fun _ _ => rfl⟩
  | 2, _ =>
    refine r_tabIn (tgt := 76) iX6_count_14 (by decide) (by decide) rfl rfl ?_
    refine r_aload iX6_count_76 rfl ?_
    refine r_getfield iX6_count_77 (flX6_19 _ rfl) h_obj rfl ?_
    refine r_getfield iX6_count_80 (flX6_140 _ rfl) (h_cu.1) rfl ?_
    refine r_iret iX6_count_83 rfl ?_
    exact ⟨rfl, rfl, rfl, fun _ _ => rfl⟩
  | 3, _ =>
    refine r_tabIn (tgt := 84) iX6_count_14 (by decide) (by decide) rfl rfl ?_
    refine r_aload iX6_count_84 rfl ?_
    refine r_getfield iX6_count_85 (flX6_19 _ rfl) h_obj rfl ?_
    refine r_callV iX6_count_88 (cX6_194 _ rfl) (Fn_con h_cu (c2_notOut h 5 hn b u t) _) (by omega) (h_cu.1) rfl rfl rfl (Nat.le_of_ble_eq_true rfl) (by first | exact Nat.le_of_ble_eq_true rfl | omega) (by first | exact Nat.le_of_ble_eq_true rfl | omega) ?_
    rintro v' h' z' ⟨rfl, qh, rfl⟩
    rw [qh]
    refine r_iret iX6_count_91 rfl ?_
    exact ⟨rfl, rfl, rfl, fun _ _ => rfl⟩
  | 4, _ =>
    refine r_tabIn (tgt := 92) iX6_count_14 (by decide) (by decide) rfl rfl ?_
    refine r_aload iX6_count_92 rfl ?_
    refine r_getfield iX6_count_93 (flX6_19 _ rfl) h_obj rfl ?_
    refine r_iconst (v := 1) iX6_count_96 rfl ?_
    refine r_callV iX6_count_97 (cX6_197 _ rfl) (Fn_con h_cu (c2_who h 5 hn b u t 1) _) (by omega) (h_cu.1) rfl rfl rfl (Nat.le_of_ble_eq_true rfl) (by first | exact Nat.le_of_ble_eq_true rfl | omega) (by first | exact Nat.le_of_ble_eq_true rfl | omega) ?_
    rintro v' h' z' ⟨rfl, qh, rfl⟩
    rw [qh]
    refine r_iret iX6_count_100 rfl ?_
    exact ⟨rfl, rfl, rfl, fun _ _ => rfl⟩
  | 5, _ =>
    refine r_tabIn (tgt := 101) iX6_count_14 (by decide) (by decide) rfl rfl ?_
    refine r_aload iX6_count_101 rfl ?_
    refine r_getfield iX6_count_102 (flX6_19 _ rfl) h_obj rfl ?_
    refine r_iconst (v := 2) iX6_count_105 rfl ?_
    refine r_callV iX6_count_106 (cX6_197 _ rfl) (Fn_con h_cu (c2_who h 5 hn b u t 2) _) (by omega) (h_cu.1) rfl rfl rfl (Nat.le_of_ble_eq_true rfl) (by first | exact Nat.le_of_ble_eq_true rfl | omega) (by first | exact Nat.le_of_ble_eq_true rfl | omega) ?_
    rintro v' h' z' ⟨rfl, qh, rfl⟩
    rw [qh]
    refine r_iret iX6_count_109 rfl ?_
    exact ⟨rfl, rfl, rfl, fun _ _ => rfl⟩
  | 6, _ =>
    refine r_tabIn (tgt := 110) iX6_count_14 (by decide) (by decide) rfl rfl ?_
    refine r_aload iX6_count_110 rfl ?_
    refine r_getfield iX6_count_111 (flX6_29 _ rfl) h_obj rfl ?_
    refine r_getfield iX6_count_114 (flX6_117 _ rfl) (h_ac.1) rfl ?_
    refine r_iret iX6_count_117 rfl ?_
    exact ⟨rfl, rfl, rfl, fun _ _ => rfl⟩
  | 7, _ =>
    refine r_tabIn (tgt := 118) iX6_count_14 (by decide) (by decide) rfl rfl ?_
    refine r_aload iX6_count_118 rfl ?_
    refine r_getfield iX6_count_119 (flX6_19 _ rfl) h_obj rfl ?_
    refine r_callV iX6_count_122 (cX6_106 _ rfl) (Fn_con h_cu (c2_isEnded h 5 hn b u t) _) (by omega) (h_cu.1) rfl rfl rfl (Nat.le_of_ble_eq_true rfl) (by first | exact Nat.le_of_ble_eq_true rfl | omega) (by first | exact Nat.le_of_ble_eq_true rfl | omega) ?_
    rintro v' h' z' ⟨rfl, qh, rfl⟩
    rw [qh]
    by_cases g : 0 ≤ u ∧ u < nI n
    · rw [if_pos g]
      refine r_if_eq iX6_count_125 (fun _ => ?_) (fun g9 => absurd (rfl) g9)
      refine r_iconst (v := 0) iX6_count_132 rfl ?_
      refine r_iret iX6_count_133 rfl ?_
      exact ⟨by show _ = some (Value.int (if 0 ≤ u ∧ u < nI n then 0 else 1)); rw [if_pos g], rfl, rfl, fun _ _ => rfl⟩
    · rw [if_neg g]
      refine r_if_eq iX6_count_125 (fun g9 => absurd g9 (by decide)) (fun _ => ?_)
      refine r_iconst (v := 1) iX6_count_128 rfl ?_
      refine r_goto iX6_count_129 ?_
      refine r_iret iX6_count_133 rfl ?_
      exact ⟨by show _ = some (Value.int (if 0 ≤ u ∧ u < nI n then 0 else 1)); rw [if_neg g], rfl, rfl, fun _ _ => rfl⟩
  | 8, _ =>
    refine r_tabOut (tgt := 134) iX6_count_14 (by decide) rfl ?_
    refine r_aload iX6_count_134 rfl ?_
    refine r_getfield iX6_count_135 (flX6_19 _ rfl) h_obj rfl ?_
    refine r_callV iX6_count_138 (cX6_191 _ rfl) (Fn_con h_cu (c2_leaders h 5 hn b u t) _) (by omega) (h_cu.1) rfl rfl rfl (Nat.le_of_ble_eq_true rfl) (by first | exact Nat.le_of_ble_eq_true rfl | omega) (by first | exact Nat.le_of_ble_eq_true rfl | omega) ?_
    rintro v' h' z' ⟨rfl, qh, rfl⟩
    rw [qh]
    refine r_iret iX6_count_141 rfl ?_
    exact ⟨rfl, rfl, rfl, fun _ _ => rfl⟩
theorem c6_figureOf (h : Hp) (R9 j : Nat) (hR : R9 < 2 ^ 31) (hj : j < 16) : Fn MX6_figureOf 0 [.int (nI R9), .int (nI j)] h (some (.int (nI (R9 / 10 ^ j % 10)))) := by
  intro z
  refine Cal_of_R (by decide +kernel) (L := [.int (nI R9), .int (nI j), .null, .null]) rfl (Nat.le_of_ble_eq_true rfl) ?_
  have loop : ∀ (i p : Nat), p + i = j → R MX6_figureOf 0 0 0 (fun v h' z' => v = some (.int (nI (R9 / 10 ^ j % 10))) ∧ h' = h ∧ z' = z) 4 [.int (nI R9), .int (nI j), .int (nI (R9 / 10 ^ p)), .int (nI p)] [] h z 0 0 := by
    intro i
    induction i with
    | zero =>
      intro p hp
      obtain rfl : p = j := by omega
      have hb : R9 / 10 ^ p < 2 ^ 31 := Nat.lt_of_le_of_lt (Nat.div_le_self _ _) hR
      have e : nI (R9 / 10 ^ p) - nI (R9 / 10 ^ p) / 10 * 10 = nI (R9 / 10 ^ p % 10) := pk_rem (d := 10) hb (by omega) (by omega)
      refine r_iload iX6_figureOf_4 rfl ?_
      refine r_iload iX6_figureOf_5 rfl ?_
      refine r_icmp_ge iX6_figureOf_6 (fun _ => ?_) (fun g9 => absurd (nI_le (by omega) (by omega)) g9)
      refine r_iload iX6_figureOf_20 rfl ?_
      refine r_bipush (v := 10) iX6_figureOf_21 rfl ?_
      refine r_irem iX6_figureOf_23 (by decide) ?_
      rw [e]
      refine r_iret iX6_figureOf_24 rfl ?_
      exact ⟨rfl, rfl, rfl⟩
    | succ i ih =>
      intro p hp
      have hb : R9 / 10 ^ p < 2 ^ 31 := Nat.lt_of_le_of_lt (Nat.div_le_self _ _) hR
      have e : nI (R9 / 10 ^ p) / 10 = nI (R9 / 10 ^ (p + 1)) := by
        rw [show nI (R9 / 10 ^ p) / 10 = nI (R9 / 10 ^ p / 10) from pk_div (d := 10) hb (by omega) (by omega), Nat.div_div_eq_div_mul, Nat.pow_succ]
      refine r_iload iX6_figureOf_4 rfl ?_
      refine r_iload iX6_figureOf_5 rfl ?_
      refine r_icmp_ge iX6_figureOf_6 (fun g9 => absurd g9 (nI_ge (by omega) (by omega))) (fun _ => ?_)
      refine r_iload iX6_figureOf_9 rfl ?_
      refine r_bipush (v := 10) iX6_figureOf_10 rfl ?_
      refine r_idiv iX6_figureOf_12 (by decide) ?_
      rw [e]
      refine r_istore_2 iX6_figureOf_13 rfl ?_
      refine r_iinc_3 iX6_figureOf_14 (by first | exact nI_inc _ | rfl) rfl ?_
      refine r_goto iX6_figureOf_17 ?_
      exact ih (p + 1) (by omega)
  refine r_iload iX6_figureOf_0 rfl ?_
  refine r_istore_2 iX6_figureOf_1 rfl ?_
  refine r_iconst (v := 0) iX6_figureOf_2 rfl ?_
  refine r_istore_3 iX6_figureOf_3 rfl ?_
  have := loop j 0 (by omega)
  rw [Nat.pow_zero, Nat.div_one] at this
  exact this
