/-! the class's public methods but those that look ahead -/
theorem nI_of1 {x : Int32} {lo hi : Nat} (h1 : ¬ x < nI lo) (h2 : x ≤ nI hi) (hh : hi < 2 ^ 31) (hl : lo < 2 ^ 31) : ∃ m, lo ≤ m ∧ m ≤ hi ∧ x = nI m := by
  obtain ⟨j, hj, rfl⟩ := nI_of (x := x) (fun q => h1 (Int32.lt_of_lt_of_le q (nI_pos' hl)))
  exact ⟨j, Nat.not_lt.mp fun q => h1 ((nI_ltI hj hl).mpr q), (nI_leI hj hh).mp h2, rfl⟩
theorem c6_write_no {h : Hp} {T : Tx} {K : Cn} {sz nx : Nat} {W sl : Nat → Cn} {kp : Nat → Int32} {seed : Int64} (H : cls h T K sz nx W sl kp seed) (n : Int32) (v : Int64) (hn : n < 1 ∨ 8 < n) : PU MX6_write 4 [.ref 2, .int n, .long v] h (.int (-2)) (fun h' => h' = h) := by
  intro z
  refine Cal_of_R (by decide +kernel) (L := [.ref 2, .int n, .long v, .null]) rfl (Nat.le_of_ble_eq_true rfl) ?_
  rcases hn with hn | hn
  · refine r_iload iX6_write_0 rfl ?_
    refine r_iconst (v := 1) iX6_write_1 rfl ?_
    refine r_icmp_lt iX6_write_2 (fun _ => ?_) (fun g9 => absurd (hn) g9)
    refine r_bipush (v := (-2)) iX6_write_11 rfl ?_
    refine r_iret iX6_write_13 rfl ?_
    exact ⟨rfl, rfl, rfl, fun _ _ => rfl⟩
  · have hn1 : ¬ n < 1 := fun q => Int32.lt_irrefl (Int32.lt_trans q (Int32.lt_trans (by decide) hn))
    refine r_iload iX6_write_0 rfl ?_
    refine r_iconst (v := 1) iX6_write_1 rfl ?_
    refine r_icmp_lt iX6_write_2 (fun g9 => absurd g9 (hn1)) (fun _ => ?_)
    refine r_iload iX6_write_5 rfl ?_
    refine r_bipush (v := 8) iX6_write_6 rfl ?_
    refine r_icmp_le iX6_write_8 (fun g9 => absurd g9 (Int32.not_le.mpr hn)) (fun _ => ?_)
    refine r_bipush (v := (-2)) iX6_write_11 rfl ?_
    refine r_iret iX6_write_13 rfl ?_
    exact ⟨rfl, rfl, rfl, fun _ _ => rfl⟩
theorem c6_write_full {h : Hp} {l : Nat} {B : Nat → Int32} {K : Cn} {sz nx : Nat} {W sl : Nat → Cn} {kp : Nat → Int32} {seed : Int64} (H : cls h (l, B) K sz nx W sl kp seed) (hl : l ≤ 16) (n : Nat) (v : Int64) (h1 : 1 ≤ n) (h8 : n ≤ 8) (hf : 16 < l + n) : PU MX6_write 4 [.ref 2, .int (nI n), .long v] h (.int (-4)) (fun h' => h' = h) := by
  obtain ⟨tr, pt, h_obj, h_tx, h_cu, h_tr, h_ac, h_sl, h_kp, h_pt, h_sh⟩ := id H
  intro z
  refine Cal_of_R (by decide +kernel) (L := [.ref 2, .int (nI n), .long v, .null]) rfl (Nat.le_of_ble_eq_true rfl) ?_
  refine r_iload iX6_write_0 rfl ?_
  refine r_iconst (v := 1) iX6_write_1 rfl ?_
  refine r_icmp_lt iX6_write_2 (fun g9 => absurd g9 (nI_nlt (b := 1) h1 (by omega))) (fun _ => ?_)
  refine r_iload iX6_write_5 rfl ?_
  refine r_bipush (v := 8) iX6_write_6 rfl ?_
  refine r_icmp_le iX6_write_8 (fun _ => ?_) (fun g9 => absurd (nI_le (b := 8) h8 (by omega)) g9)
  refine r_aload iX6_write_14 rfl ?_
  refine r_getfield iX6_write_15 (flX6_12 _ rfl) h_obj rfl ?_
  refine r_getfield iX6_write_18 (flX6_59 _ rfl) h_tx.1 rfl ?_
  refine r_iload iX6_write_21 rfl ?_
  refine r_iadd iX6_write_22 ?_
  rw [nI_add]
  refine r_bipush (v := 16) iX6_write_23 rfl ?_
  refine r_icmp_le iX6_write_25 (fun g9 => absurd g9 (nI_ge (a := 16) hf (by omega))) (fun _ => ?_)
  refine r_bipush (v := (-4)) iX6_write_28 rfl ?_
  refine r_iret iX6_write_30 rfl ?_
  exact ⟨rfl, rfl, rfl, fun _ _ => rfl⟩
theorem app_len (v : Int64) : ∀ (n : Nat) (T : Tx), (app v n T).1 = T.1 + n
  | 0, T => rfl
  | n + 1, T => by rw [app, app_len v n]; show T.1 + 1 + n = _; omega
theorem c6_write_ok {h : Hp} {l : Nat} {B : Nat → Int32} {K : Cn} {sz nx : Nat} {W sl : Nat → Cn} {kp : Nat → Int32} {seed : Int64} (H : cls h (l, B) K sz nx W sl kp seed) (n : Nat) (v : Int64) (h1 : 1 ≤ n) (h8 : n ≤ 8) (hf : l + n ≤ 16) : PU MX6_write 4 [.ref 2, .int (nI n), .long v] h (.int (nI (l + n))) (fun h' => cls h' (app v n (l, B)) K sz nx W sl kp seed) := by
  obtain ⟨tr, pt, h_obj, h_tx, h_cu, h_tr, h_ac, h_sl, h_kp, h_pt, h_sh⟩ := id H
  intro z
  have e0 : ∀ T, tOv h 3 T 2 = some (.inr (5, [.ref 3, .ref 5, .ref 11, .ref 17, .ref 115, .ref 128, .ref 129, .ref 143, .long seed])) := fun T => (tOv_out h 3 T (by omega)).trans h_obj
  have P := c4_append h 3 (by omega) l B n h8 hf v
  rw [h_tx.ov] at P
  refine Cal_of_R (by decide +kernel) (L := [.ref 2, .int (nI n), .long v, .null]) rfl (Nat.le_of_ble_eq_true rfl) ?_
  refine r_iload iX6_write_0 rfl ?_
  refine r_iconst (v := 1) iX6_write_1 rfl ?_
  refine r_icmp_lt iX6_write_2 (fun g9 => absurd g9 (nI_nlt (b := 1) h1 (by omega))) (fun _ => ?_)
  refine r_iload iX6_write_5 rfl ?_
  refine r_bipush (v := 8) iX6_write_6 rfl ?_
  refine r_icmp_le iX6_write_8 (fun _ => ?_) (fun g9 => absurd (nI_le (b := 8) h8 (by omega)) g9)
  refine r_aload iX6_write_14 rfl ?_
  refine r_getfield iX6_write_15 (flX6_12 _ rfl) h_obj rfl ?_
  refine r_getfield iX6_write_18 (flX6_59 _ rfl) h_tx.1 rfl ?_
  refine r_iload iX6_write_21 rfl ?_
  refine r_iadd iX6_write_22 ?_
  rw [nI_add]
  refine r_bipush (v := 16) iX6_write_23 rfl ?_
  refine r_icmp_le iX6_write_25 (fun _ => ?_) (fun g9 => absurd (nI_le (b := 16) hf (by omega)) g9)
  refine r_aload iX6_write_31 rfl ?_
  refine r_getfield iX6_write_32 (flX6_12 _ rfl) h_obj rfl ?_
  refine r_iload iX6_write_35 rfl ?_
  refine r_lload iX6_write_36 rfl ?_
  refine r_callV iX6_write_37 (cX6_63 _ rfl) (P _) (by omega) (h_tx.1) rfl rfl rfl (Nat.le_of_ble_eq_true rfl) (by first | exact Nat.le_of_ble_eq_true rfl | omega) (by first | exact Nat.le_of_ble_eq_true rfl | omega) ?_
  rintro v' h' z' ⟨rfl, rfl, rfl⟩
  refine r_aload iX6_write_40 rfl ?_
  refine r_getfield iX6_write_41 (flX6_12 _ rfl) (e0 _) rfl ?_
  refine r_getfield iX6_write_44 (flX6_59 _ rfl) (tOv_obj _ _ _) rfl ?_
  refine r_iret iX6_write_47 rfl ?_
  exact ⟨by rw [app_len], rfl, H.tx (fun a ha => tOv_out _ _ _ (by omega)) (tAt_ov _ _ _), fun a ha => tOv_out _ _ _ (by omega)⟩
theorem c6_wipe {h : Hp} {l : Nat} {B : Nat → Int32} {K : Cn} {sz nx : Nat} {W sl : Nat → Cn} {kp : Nat → Int32} {seed : Int64} (H : cls h (l, B) K sz nx W sl kp seed) : PU MX6_wipe 4 [.ref 2] h (.int (nI l)) (fun h' => cls h' (0, B) K sz nx W sl kp seed) := by
  obtain ⟨tr, pt, h_obj, h_tx, h_cu, h_tr, h_ac, h_sl, h_kp, h_pt, h_sh⟩ := id H
  intro z
  refine Cal_of_R (by decide +kernel) (L := [.ref 2, .null]) rfl (Nat.le_of_ble_eq_true rfl) ?_
  refine r_aload iX6_wipe_0 rfl ?_
  refine r_getfield iX6_wipe_1 (flX6_12 _ rfl) h_obj rfl ?_
  refine r_getfield iX6_wipe_4 (flX6_59 _ rfl) h_tx.1 rfl ?_
  refine r_istore_1 iX6_wipe_7 rfl ?_
  refine r_aload iX6_wipe_8 rfl ?_
  refine r_getfield iX6_wipe_9 (flX6_12 _ rfl) h_obj rfl ?_
  refine r_iconst (v := 0) iX6_wipe_12 rfl ?_
  refine R_heap h_tx.ov.symm ?_
  refine r_tlength (l' := 0) iX6_wipe_13 (fpX6_59 _ rfl) (by omega) ?_
  refine r_iload iX6_wipe_16 rfl ?_
  refine r_iret iX6_wipe_17 rfl ?_
  exact ⟨rfl, rfl, H.tx (fun a ha => tOv_out _ _ _ (by omega)) (tAt_ov _ _ _), fun a ha => tOv_out _ _ _ (by omega)⟩
theorem c6_fault {h : Hp} {l : Nat} {B : Nat → Int32} {K : Cn} {sz nx : Nat} {W sl : Nat → Cn} {kp : Nat → Int32} {seed : Int64} (H : cls h (l, B) K sz nx W sl kp seed) (hl : l ≤ 16) : PU MX6_fault 4 [.ref 2] h (.int (flt l B)) (fun h' => h' = h) := by
  obtain ⟨tr, pt, h_obj, h_tx, h_cu, h_tr, h_ac, h_sl, h_kp, h_pt, h_sh⟩ := id H
  intro z
  refine Cal_of_R (by decide +kernel) (L := [.ref 2]) rfl (Nat.le_of_ble_eq_true rfl) ?_
  refine r_aload iX6_fault_0 rfl ?_
  refine r_getfield iX6_fault_1 (flX6_12 _ rfl) h_obj rfl ?_
  refine r_callV iX6_fault_4 (cX6_67 _ rfl) (Fn_t h_tx (c4_firstFault h 3 l hl B) _) (by omega) (h_tx.1) rfl rfl rfl (Nat.le_of_ble_eq_true rfl) (by first | exact Nat.le_of_ble_eq_true rfl | omega) (by first | exact Nat.le_of_ble_eq_true rfl | omega) ?_
  rintro v' h' z' ⟨rfl, qh, rfl⟩
  rw [qh]
  refine r_iret iX6_fault_7 rfl ?_
  exact ⟨rfl, rfl, rfl, fun _ _ => rfl⟩
theorem c6_field_no {h : Hp} {l : Nat} {B : Nat → Int32} {K : Cn} {sz nx : Nat} {W sl : Nat → Cn} {kp : Nat → Int32} {seed : Int64} (H : cls h (l, B) K sz nx W sl kp seed) (hl : l ≤ 16) (hf : flt l B ≠ -9) : PU MX6_field 4 [.ref 2] h (.int (-3)) (fun h' => h' = h) := by
  obtain ⟨tr, pt, h_obj, h_tx, h_cu, h_tr, h_ac, h_sl, h_kp, h_pt, h_sh⟩ := id H
  intro z
  refine Cal_of_R (by decide +kernel) (L := [.ref 2, .null]) rfl (Nat.le_of_ble_eq_true rfl) ?_
  refine r_aload iX6_field_0 rfl ?_
  refine r_getfield iX6_field_1 (flX6_12 _ rfl) h_obj rfl ?_
  refine r_callV iX6_field_4 (cX6_67 _ rfl) (Fn_t h_tx (c4_firstFault h 3 l hl B) _) (by omega) (h_tx.1) rfl rfl rfl (Nat.le_of_ble_eq_true rfl) (by first | exact Nat.le_of_ble_eq_true rfl | omega) (by first | exact Nat.le_of_ble_eq_true rfl | omega) ?_
  rintro v' h' z' ⟨rfl, qh, rfl⟩
  rw [qh]
  refine r_bipush (v := (-9)) iX6_field_7 rfl ?_
  refine r_icmp_eq iX6_field_9 (fun g9 => absurd g9 (hf)) (fun _ => ?_)
  refine r_bipush (v := (-3)) iX6_field_12 rfl ?_
  refine r_iret iX6_field_14 rfl ?_
  exact ⟨rfl, rfl, rfl, fun _ _ => rfl⟩
theorem c6_field {h : Hp} {n : Nat} {B : Nat → Int32} {K : Cn} {sz nx : Nat} {W sl : Nat → Cn} {kp : Nat → Int32} {seed : Int64} (hn : n ≤ 4) (H : cls h (3 * n + 2, B) K sz nx W sl kp seed) (hf : flt (3 * n + 2) B = -9) : PU MX6_field 4 [.ref 2] h (.int (nI n)) (fun h' => cls h' (3 * n + 2, B) (startC B n K.2.2.2) 0 0 W sl (upd (upd kp 0 0) 1 0) seed) := by
  obtain ⟨tr, pt, h_obj, h_tx, h_cu, h_tr, h_ac, h_sl, h_kp, h_pt, h_sh⟩ := id H
  intro z
  have P := c2_startFrom h 5 3 (by omega) hn K B (by omega) h_tx
  rw [h_cu.ov] at P
  have H1 : cls (cOv h 5 (startC B n K.2.2.2)) (3 * n + 2, B) (startC B n K.2.2.2) sz nx W sl kp seed := H.cu (fun a ha => cOv_out _ _ _ (by omega)) (conAt_cOv _ _ _)
  have o1 : ∀ a, (a < 2 ∨ 152 ≤ a) → cOv h 5 (startC B n K.2.2.2) a = h a := fun a ha => cOv_out _ _ _ (by omega)
  generalize hh1 : cOv h 5 (startC B n K.2.2.2) = h1 at P H1 o1
  obtain ⟨tr1, pt1, g_obj, g_tx, g_cu, g_tr, g_ac, g_sl, g_kp, g_pt, g_sh⟩ := id H1
  have P2 := c0_forget h1 (a := 17) (by omega) 18 (nI sz) (nI nx)
  rw [hset_self g_ac.1] at P2
  have H2 : cls (hset h1 17 (.inr (0, [.ref 18, .int 0, .int 0]))) (3 * n + 2, B) (startC B n K.2.2.2) 0 0 W sl kp seed := H1.ac (fun a ha => hset_ne _ _ (by omega)) ⟨hset_eq _ _ _, by rw [hset_ne _ _ (by omega)]; exact g_ac.2.1, fun j hj => (g_ac.2.2 j hj).kept fun x q1 q2 => hset_ne _ _ (by omega)⟩
  have o2 : ∀ a, (a < 2 ∨ 152 ≤ a) → hset h1 17 (.inr (0, [.ref 18, .int 0, .int 0])) a = h a := fun a ha => (hset_ne _ _ (by omega)).trans (o1 a ha)
  generalize hh2 : hset h1 17 (.inr (0, [.ref 18, .int 0, .int 0])) = h2 at P2 H2 o2
  obtain ⟨tr2, pt2, k_obj, k_tx, k_cu, k_tr, k_ac, k_sl, k_kp, k_pt, k_sh⟩ := id H2
  refine Cal_of_R (by decide +kernel) (L := [.ref 2, .null]) rfl (Nat.le_of_ble_eq_true rfl) ?_
  refine r_aload iX6_field_0 rfl ?_
  refine r_getfield iX6_field_1 (flX6_12 _ rfl) h_obj rfl ?_
  refine r_callV iX6_field_4 (cX6_67 _ rfl) (Fn_t h_tx (c4_firstFault h 3 _ (by omega) B) _) (by omega) (h_tx.1) rfl rfl rfl (Nat.le_of_ble_eq_true rfl) (by first | exact Nat.le_of_ble_eq_true rfl | omega) (by first | exact Nat.le_of_ble_eq_true rfl | omega) ?_
  rintro v' h' z' ⟨rfl, qh, rfl⟩
  rw [qh]
  refine r_bipush (v := (-9)) iX6_field_7 rfl ?_
  refine r_icmp_eq iX6_field_9 (fun _ => ?_) (fun g9 => absurd (hf) g9)
  refine r_aload iX6_field_15 rfl ?_
  refine r_getfield iX6_field_16 (flX6_19 _ rfl) h_obj rfl ?_
  refine r_aload iX6_field_19 rfl ?_
  refine r_getfield iX6_field_20 (flX6_12 _ rfl) h_obj rfl ?_
  refine r_callV iX6_field_23 (cX6_71 _ rfl) (P _) (by omega) (h_cu.1) rfl rfl rfl (Nat.le_of_ble_eq_true rfl) (by first | exact Nat.le_of_ble_eq_true rfl | omega) (by first | exact Nat.le_of_ble_eq_true rfl | omega) ?_
  rintro v' h' z' ⟨rfl, qh, rfl⟩
  rw [qh]
  refine r_aload iX6_field_26 rfl ?_
  refine r_getfield iX6_field_27 (flX6_29 _ rfl) (g_obj) rfl ?_
  refine r_callV iX6_field_30 (cX6_75 _ rfl) (P2 _) (by omega) (g_ac.1) rfl rfl rfl (Nat.le_of_ble_eq_true rfl) (by first | exact Nat.le_of_ble_eq_true rfl | omega) (by first | exact Nat.le_of_ble_eq_true rfl | omega) ?_
  rintro v' h' z' ⟨rfl, qh, rfl⟩
  rw [qh]
  have st : ∀ (hh : Hp) (kk : Nat → Int32) (j : Nat), j < 2 → cls hh (3 * n + 2, B) (startC B n K.2.2.2) 0 0 W sl kk seed → (∀ a, (a < 2 ∨ 152 ≤ a) → hh a = h a) → ∀ z, (∀ hh2 : Hp, cls hh2 (3 * n + 2, B) (startC B n K.2.2.2) 0 0 W sl (upd kk j 0) seed → (∀ a, (a < 2 ∨ 152 ≤ a) → hh2 a = h a) → R MX6_field 4 0 0 (fun v h' z' => v = some (.int (nI n)) ∧ z' = z ∧ (cls h' (3 * n + 2, B) (startC B n K.2.2.2) 0 0 W sl (upd (upd kp 0 0) 1 0) seed) ∧ ∀ a, (a < 2 ∨ 152 ≤ a) → h' a = h a) 35 [.ref 2, .int (nI (j + 1))] [] hh2 z 0 0) → R MX6_field 4 0 0 (fun v h' z' => v = some (.int (nI n)) ∧ z' = z ∧ (cls h' (3 * n + 2, B) (startC B n K.2.2.2) 0 0 W sl (upd (upd kp 0 0) 1 0) seed) ∧ ∀ a, (a < 2 ∨ 152 ≤ a) → h' a = h a) 35 [.ref 2, .int (nI j)] [] hh z 0 0 := by
    intro hh kk j hj HH ho z K9
    obtain ⟨tr3, pt3, l_obj, l_tx, l_cu, l_tr, l_ac, l_sl, l_kp, l_pt, l_sh⟩ := id HH
    refine r_iload iX6_field_35 rfl ?_
    refine r_iconst (v := 2) iX6_field_36 rfl ?_
    refine r_icmp_ge iX6_field_37 (fun g9 => absurd g9 (nI_ge (b := 2) hj (by omega))) (fun _ => ?_)
    refine r_aload iX6_field_40 rfl ?_
    refine r_getfield iX6_field_41 (flX6_37 _ rfl) (l_obj) rfl ?_
    refine r_iload iX6_field_44 rfl ?_
    refine r_iconst (v := 0) iX6_field_45 rfl ?_
    refine r_bastore iX6_field_46 (by omega) (l_kp) (vp_in_nI hj (by decide)) (Or.inl rfl) ?_
    rw [updV_int, nI_clamp (by omega)]
    refine r_iinc_1 iX6_field_47 (by first | exact nI_inc _ | rfl) rfl ?_
    refine r_goto iX6_field_50 ?_
    exact K9 _ (HH.kp (fun a ha => hset_ne _ _ (by omega)) (hset_eq _ _ _)) (fun a ha => (hset_ne _ _ (by omega)).trans (ho a ha))
  refine r_iconst (v := 0) iX6_field_33 rfl ?_
  refine r_istore_1 iX6_field_34 rfl ?_
  refine st _ kp 0 (by omega) H2 o2 _ fun h3 H3 o3 => st _ _ 1 (by omega) H3 o3 _ fun h4 H4 o4 => ?_
  obtain ⟨tr3, pt3, l_obj, l_tx, l_cu, l_tr, l_ac, l_sl, l_kp, l_pt, l_sh⟩ := id H4
  refine r_iload iX6_field_35 rfl ?_
  refine r_iconst (v := 2) iX6_field_36 rfl ?_
  refine r_icmp_ge iX6_field_37 (fun _ => ?_) (fun g9 => absurd (nI_le (a := 2) (b := 1 + 1) (by omega) (by omega)) g9)
  refine r_aload iX6_field_53 rfl ?_
  refine r_getfield iX6_field_54 (flX6_19 _ rfl) (l_obj) rfl ?_
  refine r_getfield iX6_field_57 (flX6_78 _ rfl) (l_cu.1) rfl ?_
  refine r_iret iX6_field_60 rfl ?_
  exact ⟨rfl, rfl, H4, o4⟩
