theorem gridAt_mk (h : Hp) (z : Nat) : gridAt (mkGrid h z 3 19) z (fun _ _ => 0) := ⟨if_pos rfl, fun j hj => ⟨_, by unfold mkGrid; rw [if_neg (by omega), if_pos (by omega)], fun _ _ => rfl⟩⟩
theorem mkGrid_out (h : Hp) (z : Nat) {a : Nat} (ha : a < z ∨ z + 4 ≤ a) : mkGrid h z 3 19 a = h a := by unfold mkGrid; rw [if_neg (by omega), if_neg (by omega)]
theorem c3_init (h : Hp) : Cal MX3_init 2 8 120 [.ref 143] (hset h 143 (.inr (2, [.null, .null]))) 144 (fun v h' z' => v = none ∧ z' = 152 ∧ shAt h' ∧ ∀ a, (a < 143 ∨ 152 ≤ a) → h' a = h a) := by
  refine Cal_of_R (by decide +kernel) (L := [.ref 143]) rfl (Nat.le_of_ble_eq_true rfl) ?_
  refine r_aload iX3_init_0 rfl ?_
  refine r_objinit iX3_init_1 objw_X3 (by decide) (Nat.le_of_ble_eq_true rfl) ?_
  refine r_aload iX3_init_4 rfl ?_
  refine r_iconst (v := 3) iX3_init_5 rfl ?_
  refine r_bipush (v := 19) iX3_init_6 rfl ?_
  refine r_multi (N' := 3) (K' := 19) iX3_init_8 gridw rfl rfl (by omega) (by omega) (Nat.le_of_ble_eq_true rfl) (Nat.le_of_ble_eq_true rfl) ?_
  refine r_putfield iX3_init_12 (fpX3_11 _ rfl rfl) (by omega) ((mkGrid_out _ _ (by omega)).trans (hset_eq _ _ _)) (Nat.le_of_ble_eq_true rfl) ⟨rfl, rfl⟩ ?_
  refine r_aload iX3_init_15 rfl ?_
  refine r_iconst (v := 3) iX3_init_16 rfl ?_
  refine r_bipush (v := 19) iX3_init_17 rfl ?_
  refine r_multi (N' := 3) (K' := 19) iX3_init_19 gridw rfl rfl (by omega) (by omega) (Nat.le_of_ble_eq_true rfl) (Nat.le_of_ble_eq_true rfl) ?_
  refine r_putfield iX3_init_23 (fpX3_16 _ rfl rfl) (by omega) ((mkGrid_out _ _ (by omega)).trans (hset_eq _ _ _)) (Nat.le_of_ble_eq_true rfl) ⟨rfl, rfl⟩ ?_
  refine r_vret iX3_init_26 rfl ?_
  refine ⟨rfl, rfl, ⟨hset_eq _ _ _, ⟨fun _ _ => 0, ?_⟩, fun _ _ => 0, ?_⟩, fun a ha => ?_⟩
  · refine gridAt.kept (gridAt_mk (hset h 143 (.inr (2, [.null, .null]))) 144) fun x q1 q2 => ?_
    rw [hset_ne _ _ (by omega), mkGrid_out _ _ (by omega), hset_ne _ _ (by omega)]
  · refine gridAt.kept (gridAt_mk (hset (mkGrid (hset h 143 (.inr (2, [.null, .null]))) 144 3 19) 143 (.inr (2, [.ref 144, .null]))) 148) fun x q1 q2 => ?_
    exact hset_ne _ _ (by omega)
  · rw [hset_ne _ _ (by omega), mkGrid_out _ _ (by omega), hset_ne _ _ (by omega), mkGrid_out _ _ (by omega), hset_ne _ _ (by omega)]
theorem c6_init (h : Hp) : Cal MX6_init 5 149 1173 [.ref 2] (hset h 2 (.inr (5, [.null, .null, .null, .null, .null, .null, .null, .null, .long 0]))) 3 (fun v h' z' => v = none ∧ z' = 152 ∧ (∃ W sl : Nat → Cn, cls h' (0, fun _ => 0) K0 0 0 W sl (fun _ => 0) 0) ∧ ∀ a, (a < 2 ∨ 152 ≤ a) → h' a = h a) := by
  refine Cal_of_R (by decide +kernel) (L := [.ref 2, .null]) rfl (Nat.le_of_ble_eq_true rfl) ?_
  have ob : hset h 2 (.inr (5, [.null, .null, .null, .null, .null, .null, .null, .null, .long 0])) 2 = some (.inr (5, [.null, .null, .null, .null, .null, .null, .null, .null, .long 0])) := hset_eq _ _ _
  have fr : ∀ a, (a < 2 ∨ 152 ≤ a) → hset h 2 (.inr (5, [.null, .null, .null, .null, .null, .null, .null, .null, .long 0])) a = h a := fun a ha => hset_ne _ _ (by omega)
  generalize hset h 2 (.inr (5, [.null, .null, .null, .null, .null, .null, .null, .null, .long 0])) = h0 at ob fr ⊢
  refine r_aload iX6_init_0 rfl ?_
  refine r_objinit iX6_init_1 objw_X6 (by decide) (Nat.le_of_ble_eq_true rfl) ?_
  refine r_aload iX6_init_4 rfl ?_
  refine r_new (ci := 3) (fs := [.null, .int 0]) iX6_init_5 rfl neww_X6_X4 tyX4_ok rfl (by first | exact Nat.le_of_ble_eq_true rfl | omega) (by first | exact Nat.le_of_ble_eq_true rfl | omega) ?_
  refine r_dup iX6_init_8 rfl ?_
  refine r_callIN iX6_init_9 (cX6_11 _ rfl) (c4_init h0 3 (by omega)) (by omega) rfl rfl (Nat.le_of_ble_eq_true rfl) (by first | exact Nat.le_of_ble_eq_true rfl | omega) (by first | exact Nat.le_of_ble_eq_true rfl | omega) ?_
  rintro v h1 z' ⟨rfl, rfl, h_tx, ho⟩
  replace ob : h1 2 = some (.inr (5, [.null, .null, .null, .null, .null, .null, .null, .null, .long 0])) := (ho 2 (by omega)).trans ob
  replace fr : ∀ a, (a < 2 ∨ 152 ≤ a) → h1 a = h a := fun a ha => (ho a (by omega)).trans (fr a ha)
  refine r_putfield iX6_init_12 (fpX6_12 _ rfl rfl) (by omega) (ob) (Nat.le_of_ble_eq_true rfl) ⟨rfl, rfl⟩ ?_
  refine R_heap (show _ = hset h1 2 (.inr (5, [.ref 3, .null, .null, .null, .null, .null, .null, .null, .long 0])) from rfl) ?_
  have ho : ∀ a, a ≠ 2 → hset h1 2 (.inr (5, [.ref 3, .null, .null, .null, .null, .null, .null, .null, .long 0])) a = h1 a := fun a ha => hset_ne _ _ ha
  replace ob : hset h1 2 (.inr (5, [.ref 3, .null, .null, .null, .null, .null, .null, .null, .long 0])) 2 = some (.inr (5, [.ref 3, .null, .null, .null, .null, .null, .null, .null, .long 0])) := hset_eq _ _ _
  generalize hset h1 2 (.inr (5, [.ref 3, .null, .null, .null, .null, .null, .null, .null, .long 0])) = g2 at ob ho ⊢
  replace h_tx : tAt g2 3 (0, fun _ => 0) := h_tx.kept fun x q1 q2 => ho x (by omega)
  replace fr : ∀ a, (a < 2 ∨ 152 ≤ a) → g2 a = h a := fun a ha => (ho a (by omega)).trans (fr a ha)
  refine r_aload iX6_init_15 rfl ?_
  refine r_new (ci := 1) (fs := [.null, .int 0, .int 0, .int 0]) iX6_init_16 rfl neww_X6_X2 tyX2_ok rfl (by first | exact Nat.le_of_ble_eq_true rfl | omega) (by first | exact Nat.le_of_ble_eq_true rfl | omega) ?_
  refine r_dup iX6_init_19 rfl ?_
  refine r_callI iX6_init_20 (cX6_18 _ rfl) (c2_init g2 5 (by omega)) (by omega) rfl rfl (Nat.le_of_ble_eq_true rfl) (by first | exact Nat.le_of_ble_eq_true rfl | omega) (by first | exact Nat.le_of_ble_eq_true rfl | omega) ?_
  rintro v h3 z' ⟨rfl, rfl, h_cu, ho⟩
  have h_tx : tAt h3 3 (0, fun _ => 0) := h_tx.kept fun x q1 q2 => ho x (by omega)
  replace ob : h3 2 = some (.inr (5, [.ref 3, .null, .null, .null, .null, .null, .null, .null, .long 0])) := (ho 2 (by omega)).trans ob
  replace fr : ∀ a, (a < 2 ∨ 152 ≤ a) → h3 a = h a := fun a ha => (ho a (by omega)).trans (fr a ha)
  refine r_putfield iX6_init_23 (fpX6_19 _ rfl rfl) (by omega) (ob) (Nat.le_of_ble_eq_true rfl) ⟨rfl, rfl⟩ ?_
  refine R_heap (show _ = hset h3 2 (.inr (5, [.ref 3, .ref 5, .null, .null, .null, .null, .null, .null, .long 0])) from rfl) ?_
  have ho : ∀ a, a ≠ 2 → hset h3 2 (.inr (5, [.ref 3, .ref 5, .null, .null, .null, .null, .null, .null, .long 0])) a = h3 a := fun a ha => hset_ne _ _ ha
  replace ob : hset h3 2 (.inr (5, [.ref 3, .ref 5, .null, .null, .null, .null, .null, .null, .long 0])) 2 = some (.inr (5, [.ref 3, .ref 5, .null, .null, .null, .null, .null, .null, .long 0])) := hset_eq _ _ _
  generalize hset h3 2 (.inr (5, [.ref 3, .ref 5, .null, .null, .null, .null, .null, .null, .long 0])) = g4 at ob ho ⊢
  replace h_tx : tAt g4 3 (0, fun _ => 0) := h_tx.kept fun x q1 q2 => ho x (by omega)
  replace h_cu : conAt g4 5 K0 := h_cu.kept fun x q1 q2 => ho x (by omega)
  replace fr : ∀ a, (a < 2 ∨ 152 ≤ a) → g4 a = h a := fun a ha => (ho a (by omega)).trans (fr a ha)
  refine r_aload iX6_init_26 rfl ?_
  refine r_new (ci := 1) (fs := [.null, .int 0, .int 0, .int 0]) iX6_init_27 rfl neww_X6_X2 tyX2_ok rfl (by first | exact Nat.le_of_ble_eq_true rfl | omega) (by first | exact Nat.le_of_ble_eq_true rfl | omega) ?_
  refine r_dup iX6_init_30 rfl ?_
  refine r_callI iX6_init_31 (cX6_18 _ rfl) (c2_init g4 11 (by omega)) (by omega) rfl rfl (Nat.le_of_ble_eq_true rfl) (by first | exact Nat.le_of_ble_eq_true rfl | omega) (by first | exact Nat.le_of_ble_eq_true rfl | omega) ?_
  rintro v h5 z' ⟨rfl, rfl, h_tr, ho⟩
  have h_tx : tAt h5 3 (0, fun _ => 0) := h_tx.kept fun x q1 q2 => ho x (by omega)
  have h_cu : conAt h5 5 K0 := h_cu.kept fun x q1 q2 => ho x (by omega)
  replace ob : h5 2 = some (.inr (5, [.ref 3, .ref 5, .null, .null, .null, .null, .null, .null, .long 0])) := (ho 2 (by omega)).trans ob
  replace fr : ∀ a, (a < 2 ∨ 152 ≤ a) → h5 a = h a := fun a ha => (ho a (by omega)).trans (fr a ha)
  refine r_putfield iX6_init_34 (fpX6_23 _ rfl rfl) (by omega) (ob) (Nat.le_of_ble_eq_true rfl) ⟨rfl, rfl⟩ ?_
  refine R_heap (show _ = hset h5 2 (.inr (5, [.ref 3, .ref 5, .ref 11, .null, .null, .null, .null, .null, .long 0])) from rfl) ?_
  have ho : ∀ a, a ≠ 2 → hset h5 2 (.inr (5, [.ref 3, .ref 5, .ref 11, .null, .null, .null, .null, .null, .long 0])) a = h5 a := fun a ha => hset_ne _ _ ha
  replace ob : hset h5 2 (.inr (5, [.ref 3, .ref 5, .ref 11, .null, .null, .null, .null, .null, .long 0])) 2 = some (.inr (5, [.ref 3, .ref 5, .ref 11, .null, .null, .null, .null, .null, .long 0])) := hset_eq _ _ _
  generalize hset h5 2 (.inr (5, [.ref 3, .ref 5, .ref 11, .null, .null, .null, .null, .null, .long 0])) = g6 at ob ho ⊢
  replace h_tx : tAt g6 3 (0, fun _ => 0) := h_tx.kept fun x q1 q2 => ho x (by omega)
  replace h_cu : conAt g6 5 K0 := h_cu.kept fun x q1 q2 => ho x (by omega)
  replace h_tr : conAt g6 11 K0 := h_tr.kept fun x q1 q2 => ho x (by omega)
  replace fr : ∀ a, (a < 2 ∨ 152 ≤ a) → g6 a = h a := fun a ha => (ho a (by omega)).trans (fr a ha)
  refine r_aload iX6_init_37 rfl ?_
  refine r_new (ci := 0) (fs := [.null, .int 0, .int 0]) iX6_init_38 rfl neww_X6_X0 tyX0_ok rfl (by first | exact Nat.le_of_ble_eq_true rfl | omega) (by first | exact Nat.le_of_ble_eq_true rfl | omega) ?_
  refine r_dup iX6_init_41 rfl ?_
  refine r_callI iX6_init_42 (cX6_28 _ rfl) (c0_init g6 17 (by omega)) (by omega) rfl rfl (Nat.le_of_ble_eq_true rfl) (by first | exact Nat.le_of_ble_eq_true rfl | omega) (by first | exact Nat.le_of_ble_eq_true rfl | omega) ?_
  rintro v h7 z' ⟨rfl, rfl, h_ac, ho⟩
  have h_tx : tAt h7 3 (0, fun _ => 0) := h_tx.kept fun x q1 q2 => ho x (by omega)
  have h_cu : conAt h7 5 K0 := h_cu.kept fun x q1 q2 => ho x (by omega)
  have h_tr : conAt h7 11 K0 := h_tr.kept fun x q1 q2 => ho x (by omega)
  replace ob : h7 2 = some (.inr (5, [.ref 3, .ref 5, .ref 11, .null, .null, .null, .null, .null, .long 0])) := (ho 2 (by omega)).trans ob
  replace fr : ∀ a, (a < 2 ∨ 152 ≤ a) → h7 a = h a := fun a ha => (ho a (by omega)).trans (fr a ha)
  refine r_putfield iX6_init_45 (fpX6_29 _ rfl rfl) (by omega) (ob) (Nat.le_of_ble_eq_true rfl) ⟨rfl, rfl⟩ ?_
  refine R_heap (show _ = hset h7 2 (.inr (5, [.ref 3, .ref 5, .ref 11, .ref 17, .null, .null, .null, .null, .long 0])) from rfl) ?_
  have ho : ∀ a, a ≠ 2 → hset h7 2 (.inr (5, [.ref 3, .ref 5, .ref 11, .ref 17, .null, .null, .null, .null, .long 0])) a = h7 a := fun a ha => hset_ne _ _ ha
  replace ob : hset h7 2 (.inr (5, [.ref 3, .ref 5, .ref 11, .ref 17, .null, .null, .null, .null, .long 0])) 2 = some (.inr (5, [.ref 3, .ref 5, .ref 11, .ref 17, .null, .null, .null, .null, .long 0])) := hset_eq _ _ _
  generalize hset h7 2 (.inr (5, [.ref 3, .ref 5, .ref 11, .ref 17, .null, .null, .null, .null, .long 0])) = g8 at ob ho ⊢
  replace h_tx : tAt g8 3 (0, fun _ => 0) := h_tx.kept fun x q1 q2 => ho x (by omega)
  replace h_cu : conAt g8 5 K0 := h_cu.kept fun x q1 q2 => ho x (by omega)
  replace h_tr : conAt g8 11 K0 := h_tr.kept fun x q1 q2 => ho x (by omega)
  replace h_ac : aAt g8 17 0 0 (fun _ => K0) := h_ac.kept fun x q1 q2 => ho x (by omega)
  replace fr : ∀ a, (a < 2 ∨ 152 ≤ a) → g8 a = h a := fun a ha => (ho a (by omega)).trans (fr a ha)
  refine r_aload iX6_init_48 rfl ?_
  refine r_iconst (v := 2) iX6_init_49 rfl ?_
  refine r_anewarray iX6_init_50 (gt_1 34 rfl rfl) (fun _ q => q.2.2.2.1) (by decide) rfl (Nat.le_of_ble_eq_true rfl) (Nat.le_of_ble_eq_true rfl) (Nat.le_of_ble_eq_true rfl) ?_
  have hs0 : hset g8 115 (.inl (.object "UpWithSheaf$Contest", 2, fun _ => .null)) 115 = some (.inl (.object "UpWithSheaf$Contest", 2, fun _ => .null)) := hset_eq _ _ _
  have ho : ∀ a, a ≠ 115 → hset g8 115 (.inl (.object "UpWithSheaf$Contest", 2, fun _ => .null)) a = g8 a := fun a ha => hset_ne _ _ ha
  refine R_heap (show _ = hset g8 115 (.inl (.object "UpWithSheaf$Contest", 2, fun _ => .null)) from rfl) ?_
  generalize hset g8 115 (.inl (.object "UpWithSheaf$Contest", 2, fun _ => .null)) = b1 at hs0 ho ⊢
  replace h_tx : tAt b1 3 (0, fun _ => 0) := h_tx.kept fun x q1 q2 => ho x (by omega)
  replace h_cu : conAt b1 5 K0 := h_cu.kept fun x q1 q2 => ho x (by omega)
  replace h_tr : conAt b1 11 K0 := h_tr.kept fun x q1 q2 => ho x (by omega)
  replace h_ac : aAt b1 17 0 0 (fun _ => K0) := h_ac.kept fun x q1 q2 => ho x (by omega)
  replace ob : b1 2 = some (.inr (5, [.ref 3, .ref 5, .ref 11, .ref 17, .null, .null, .null, .null, .long 0])) := (ho 2 (by omega)).trans ob
  replace fr : ∀ a, (a < 2 ∨ 152 ≤ a) → b1 a = h a := fun a ha => (ho a (by omega)).trans (fr a ha)
  refine r_putfield iX6_init_53 (fpX6_33 _ rfl rfl) (by omega) (ob) (Nat.le_of_ble_eq_true rfl) ⟨rfl, rfl⟩ ?_
  refine R_heap (show _ = hset b1 2 (.inr (5, [.ref 3, .ref 5, .ref 11, .ref 17, .ref 115, .null, .null, .null, .long 0])) from rfl) ?_
  have ho : ∀ a, a ≠ 2 → hset b1 2 (.inr (5, [.ref 3, .ref 5, .ref 11, .ref 17, .ref 115, .null, .null, .null, .long 0])) a = b1 a := fun a ha => hset_ne _ _ ha
  replace ob : hset b1 2 (.inr (5, [.ref 3, .ref 5, .ref 11, .ref 17, .ref 115, .null, .null, .null, .long 0])) 2 = some (.inr (5, [.ref 3, .ref 5, .ref 11, .ref 17, .ref 115, .null, .null, .null, .long 0])) := hset_eq _ _ _
  generalize hset b1 2 (.inr (5, [.ref 3, .ref 5, .ref 11, .ref 17, .ref 115, .null, .null, .null, .long 0])) = g51 at ob ho ⊢
  replace h_tx : tAt g51 3 (0, fun _ => 0) := h_tx.kept fun x q1 q2 => ho x (by omega)
  replace h_cu : conAt g51 5 K0 := h_cu.kept fun x q1 q2 => ho x (by omega)
  replace h_tr : conAt g51 11 K0 := h_tr.kept fun x q1 q2 => ho x (by omega)
  replace h_ac : aAt g51 17 0 0 (fun _ => K0) := h_ac.kept fun x q1 q2 => ho x (by omega)
  replace hs0 : g51 115 = some (.inl (.object "UpWithSheaf$Contest", 2, fun _ => .null)) := (ho 115 (by omega)).trans hs0
  replace fr : ∀ a, (a < 2 ∨ 152 ≤ a) → g51 a = h a := fun a ha => (ho a (by omega)).trans (fr a ha)
  refine r_iconst (v := 0) iX6_init_56 rfl ?_
  refine r_istore_1 iX6_init_57 rfl ?_
  refine r_iload iX6_init_58 rfl ?_
  refine r_iconst (v := 2) iX6_init_59 rfl ?_
  refine r_icmp_ge iX6_init_60 (fun g9 => absurd g9 (by decide)) (fun _ => ?_)
  refine r_aload iX6_init_63 rfl ?_
  refine r_getfield iX6_init_64 (flX6_33 _ rfl) (ob) rfl ?_
  refine r_iload iX6_init_67 rfl ?_
  refine r_new (ci := 1) (fs := [.null, .int 0, .int 0, .int 0]) iX6_init_68 rfl neww_X6_X2 tyX2_ok rfl (by first | exact Nat.le_of_ble_eq_true rfl | omega) (by first | exact Nat.le_of_ble_eq_true rfl | omega) ?_
  refine r_dup iX6_init_71 rfl ?_
  refine r_callI iX6_init_72 (cX6_18 _ rfl) (c2_init g51 116 (by omega)) (by omega) rfl rfl (Nat.le_of_ble_eq_true rfl) (by first | exact Nat.le_of_ble_eq_true rfl | omega) (by first | exact Nat.le_of_ble_eq_true rfl | omega) ?_
  rintro v s52 z' ⟨rfl, rfl, h_s0, ho⟩
  replace h_tx : tAt s52 3 (0, fun _ => 0) := h_tx.kept fun x q1 q2 => ho x (by omega)
  replace h_cu : conAt s52 5 K0 := h_cu.kept fun x q1 q2 => ho x (by omega)
  replace h_tr : conAt s52 11 K0 := h_tr.kept fun x q1 q2 => ho x (by omega)
  replace h_ac : aAt s52 17 0 0 (fun _ => K0) := h_ac.kept fun x q1 q2 => ho x (by omega)
  replace ob : s52 2 = some (.inr (5, [.ref 3, .ref 5, .ref 11, .ref 17, .ref 115, .null, .null, .null, .long 0])) := (ho 2 (by omega)).trans ob
  replace hs0 : s52 115 = some (.inl (.object "UpWithSheaf$Contest", 2, fun _ => .null)) := (ho 115 (by omega)).trans hs0
  replace fr : ∀ a, (a < 2 ∨ 152 ≤ a) → s52 a = h a := fun a ha => (ho a (by omega)).trans (fr a ha)
  refine r_aastore iX6_init_75 (by omega) (hs0) (vp_in_nI (n := 0) (by omega) (by decide)) (h_s0.1) rfl ?_
  refine R_heap (show _ = hset s52 115 (.inl (.object "UpWithSheaf$Contest", 2, updV (fun _ => .null) (0 : Int32).toNatClampNeg (.ref 116))) from rfl) ?_
  have ho : ∀ a, a ≠ 115 → hset s52 115 (.inl (.object "UpWithSheaf$Contest", 2, updV (fun _ => .null) (0 : Int32).toNatClampNeg (.ref 116))) a = s52 a := fun a ha => hset_ne _ _ ha
  replace hs0 : hset s52 115 (.inl (.object "UpWithSheaf$Contest", 2, updV (fun _ => .null) (0 : Int32).toNatClampNeg (.ref 116))) 115 = some (.inl (.object "UpWithSheaf$Contest", 2, updV (fun _ => .null) (0 : Int32).toNatClampNeg (.ref 116))) := hset_eq _ _ _
  generalize hset s52 115 (.inl (.object "UpWithSheaf$Contest", 2, updV (fun _ => .null) (0 : Int32).toNatClampNeg (.ref 116))) = t52 at hs0 ho ⊢
  replace h_tx : tAt t52 3 (0, fun _ => 0) := h_tx.kept fun x q1 q2 => ho x (by omega)
  replace h_cu : conAt t52 5 K0 := h_cu.kept fun x q1 q2 => ho x (by omega)
  replace h_tr : conAt t52 11 K0 := h_tr.kept fun x q1 q2 => ho x (by omega)
  replace h_ac : aAt t52 17 0 0 (fun _ => K0) := h_ac.kept fun x q1 q2 => ho x (by omega)
  replace h_s0 : conAt t52 116 K0 := h_s0.kept fun x q1 q2 => ho x (by omega)
  replace ob : t52 2 = some (.inr (5, [.ref 3, .ref 5, .ref 11, .ref 17, .ref 115, .null, .null, .null, .long 0])) := (ho 2 (by omega)).trans ob
  replace fr : ∀ a, (a < 2 ∨ 152 ≤ a) → t52 a = h a := fun a ha => (ho a (by omega)).trans (fr a ha)
  refine r_iinc_1 iX6_init_76 (by first | exact nI_inc _ | rfl) rfl ?_
  refine r_goto iX6_init_79 ?_
  refine r_iload iX6_init_58 rfl ?_
  refine r_iconst (v := 2) iX6_init_59 rfl ?_
  refine r_icmp_ge iX6_init_60 (fun g9 => absurd g9 (by decide)) (fun _ => ?_)
  refine r_aload iX6_init_63 rfl ?_
  refine r_getfield iX6_init_64 (flX6_33 _ rfl) (ob) rfl ?_
  refine r_iload iX6_init_67 rfl ?_
  refine r_new (ci := 1) (fs := [.null, .int 0, .int 0, .int 0]) iX6_init_68 rfl neww_X6_X2 tyX2_ok rfl (by first | exact Nat.le_of_ble_eq_true rfl | omega) (by first | exact Nat.le_of_ble_eq_true rfl | omega) ?_
  refine r_dup iX6_init_71 rfl ?_
  refine r_callI iX6_init_72 (cX6_18 _ rfl) (c2_init t52 122 (by omega)) (by omega) rfl rfl (Nat.le_of_ble_eq_true rfl) (by first | exact Nat.le_of_ble_eq_true rfl | omega) (by first | exact Nat.le_of_ble_eq_true rfl | omega) ?_
  rintro v s53 z' ⟨rfl, rfl, h_s1, ho⟩
  replace h_tx : tAt s53 3 (0, fun _ => 0) := h_tx.kept fun x q1 q2 => ho x (by omega)
  replace h_cu : conAt s53 5 K0 := h_cu.kept fun x q1 q2 => ho x (by omega)
  replace h_tr : conAt s53 11 K0 := h_tr.kept fun x q1 q2 => ho x (by omega)
  replace h_ac : aAt s53 17 0 0 (fun _ => K0) := h_ac.kept fun x q1 q2 => ho x (by omega)
  replace h_s0 : conAt s53 116 K0 := h_s0.kept fun x q1 q2 => ho x (by omega)
  replace ob : s53 2 = some (.inr (5, [.ref 3, .ref 5, .ref 11, .ref 17, .ref 115, .null, .null, .null, .long 0])) := (ho 2 (by omega)).trans ob
  replace hs0 : s53 115 = some (.inl (.object "UpWithSheaf$Contest", 2, updV (fun _ => .null) (0 : Int32).toNatClampNeg (.ref 116))) := (ho 115 (by omega)).trans hs0
  replace fr : ∀ a, (a < 2 ∨ 152 ≤ a) → s53 a = h a := fun a ha => (ho a (by omega)).trans (fr a ha)
  refine r_aastore iX6_init_75 (by omega) (hs0) (vp_in_nI (n := 1) (by omega) (by decide)) (h_s1.1) rfl ?_
  refine R_heap (show _ = hset s53 115 (.inl (.object "UpWithSheaf$Contest", 2, updV (updV (fun _ => .null) (0 : Int32).toNatClampNeg (.ref 116)) (1 : Int32).toNatClampNeg (.ref 122))) from rfl) ?_
  have ho : ∀ a, a ≠ 115 → hset s53 115 (.inl (.object "UpWithSheaf$Contest", 2, updV (updV (fun _ => .null) (0 : Int32).toNatClampNeg (.ref 116)) (1 : Int32).toNatClampNeg (.ref 122))) a = s53 a := fun a ha => hset_ne _ _ ha
  replace hs0 : hset s53 115 (.inl (.object "UpWithSheaf$Contest", 2, updV (updV (fun _ => .null) (0 : Int32).toNatClampNeg (.ref 116)) (1 : Int32).toNatClampNeg (.ref 122))) 115 = some (.inl (.object "UpWithSheaf$Contest", 2, updV (updV (fun _ => .null) (0 : Int32).toNatClampNeg (.ref 116)) (1 : Int32).toNatClampNeg (.ref 122))) := hset_eq _ _ _
  generalize hset s53 115 (.inl (.object "UpWithSheaf$Contest", 2, updV (updV (fun _ => .null) (0 : Int32).toNatClampNeg (.ref 116)) (1 : Int32).toNatClampNeg (.ref 122))) = t53 at hs0 ho ⊢
  replace h_tx : tAt t53 3 (0, fun _ => 0) := h_tx.kept fun x q1 q2 => ho x (by omega)
  replace h_cu : conAt t53 5 K0 := h_cu.kept fun x q1 q2 => ho x (by omega)
  replace h_tr : conAt t53 11 K0 := h_tr.kept fun x q1 q2 => ho x (by omega)
  replace h_ac : aAt t53 17 0 0 (fun _ => K0) := h_ac.kept fun x q1 q2 => ho x (by omega)
  replace h_s0 : conAt t53 116 K0 := h_s0.kept fun x q1 q2 => ho x (by omega)
  replace h_s1 : conAt t53 122 K0 := h_s1.kept fun x q1 q2 => ho x (by omega)
  replace ob : t53 2 = some (.inr (5, [.ref 3, .ref 5, .ref 11, .ref 17, .ref 115, .null, .null, .null, .long 0])) := (ho 2 (by omega)).trans ob
  replace fr : ∀ a, (a < 2 ∨ 152 ≤ a) → t53 a = h a := fun a ha => (ho a (by omega)).trans (fr a ha)
  refine r_iinc_1 iX6_init_76 (by first | exact nI_inc _ | rfl) rfl ?_
  refine r_goto iX6_init_79 ?_
  refine r_iload iX6_init_58 rfl ?_
  refine r_iconst (v := 2) iX6_init_59 rfl ?_
  refine r_icmp_ge iX6_init_60 (fun _ => ?_) (fun g9 => absurd (by decide) g9)
  refine R_arr (fun j => .ref (116 + 6 * j)) hs0 (fun j hj => by match j, hj with | 0, _ => rfl | 1, _ => rfl) ?_
  have hsl : hset t53 115 (.inl (.object "UpWithSheaf$Contest", 2, fun j => .ref (116 + 6 * j))) 115 = some (.inl (.object "UpWithSheaf$Contest", 2, fun j => .ref (116 + 6 * j))) := hset_eq _ _ _
  have ho : ∀ a, a ≠ 115 → hset t53 115 (.inl (.object "UpWithSheaf$Contest", 2, fun j => .ref (116 + 6 * j))) a = t53 a := fun a ha => hset_ne _ _ ha
  generalize hset t53 115 (.inl (.object "UpWithSheaf$Contest", 2, fun j => .ref (116 + 6 * j))) = b2 at hsl ho ⊢
  replace h_tx : tAt b2 3 (0, fun _ => 0) := h_tx.kept fun x q1 q2 => ho x (by omega)
  replace h_cu : conAt b2 5 K0 := h_cu.kept fun x q1 q2 => ho x (by omega)
  replace h_tr : conAt b2 11 K0 := h_tr.kept fun x q1 q2 => ho x (by omega)
  replace h_ac : aAt b2 17 0 0 (fun _ => K0) := h_ac.kept fun x q1 q2 => ho x (by omega)
  replace h_s0 : conAt b2 116 K0 := h_s0.kept fun x q1 q2 => ho x (by omega)
  replace h_s1 : conAt b2 122 K0 := h_s1.kept fun x q1 q2 => ho x (by omega)
  replace ob : b2 2 = some (.inr (5, [.ref 3, .ref 5, .ref 11, .ref 17, .ref 115, .null, .null, .null, .long 0])) := (ho 2 (by omega)).trans ob
  replace fr : ∀ a, (a < 2 ∨ 152 ≤ a) → b2 a = h a := fun a ha => (ho a (by omega)).trans (fr a ha)
  have h_sl : slAt b2 (fun _ => K0) := ⟨hsl, fun j hj => by match j, hj with | 0, _ => exact h_s0 | 1, _ => exact h_s1⟩
  clear h_s0 h_s1 hsl hs0
  refine r_aload iX6_init_82 rfl ?_
  refine r_iconst (v := 2) iX6_init_83 rfl ?_
  refine r_newarray iX6_init_84 (gt_1 139 rfl rfl) (by decide) rfl (Nat.le_of_ble_eq_true rfl) (Nat.le_of_ble_eq_true rfl) (Nat.le_of_ble_eq_true rfl) ?_
  refine R_heap (show _ = hset b2 128 (.inl (.boolean, 2, fun _ => .int 0)) from rfl) ?_
  have h_kp : kpAt (hset b2 128 (.inl (.boolean, 2, fun _ => .int 0))) (fun _ => 0) := hset_eq _ _ _
  have ho : ∀ a, a ≠ 128 → hset b2 128 (.inl (.boolean, 2, fun _ => .int 0)) a = b2 a := fun a ha => hset_ne _ _ ha
  generalize hset b2 128 (.inl (.boolean, 2, fun _ => .int 0)) = b3 at h_kp ho ⊢
  replace h_tx : tAt b3 3 (0, fun _ => 0) := h_tx.kept fun x q1 q2 => ho x (by omega)
  replace h_cu : conAt b3 5 K0 := h_cu.kept fun x q1 q2 => ho x (by omega)
  replace h_tr : conAt b3 11 K0 := h_tr.kept fun x q1 q2 => ho x (by omega)
  replace h_ac : aAt b3 17 0 0 (fun _ => K0) := h_ac.kept fun x q1 q2 => ho x (by omega)
  replace h_sl : slAt b3 (fun _ => K0) := h_sl.kept fun x q1 q2 => ho x (by omega)
  replace ob : b3 2 = some (.inr (5, [.ref 3, .ref 5, .ref 11, .ref 17, .ref 115, .null, .null, .null, .long 0])) := (ho 2 (by omega)).trans ob
  replace fr : ∀ a, (a < 2 ∨ 152 ≤ a) → b3 a = h a := fun a ha => (ho a (by omega)).trans (fr a ha)
  refine r_putfield iX6_init_86 (fpX6_37 _ rfl rfl) (by omega) (ob) (Nat.le_of_ble_eq_true rfl) ⟨rfl, rfl⟩ ?_
  refine R_heap (show _ = hset b3 2 (.inr (5, [.ref 3, .ref 5, .ref 11, .ref 17, .ref 115, .ref 128, .null, .null, .long 0])) from rfl) ?_
  have ho : ∀ a, a ≠ 2 → hset b3 2 (.inr (5, [.ref 3, .ref 5, .ref 11, .ref 17, .ref 115, .ref 128, .null, .null, .long 0])) a = b3 a := fun a ha => hset_ne _ _ ha
  replace ob : hset b3 2 (.inr (5, [.ref 3, .ref 5, .ref 11, .ref 17, .ref 115, .ref 128, .null, .null, .long 0])) 2 = some (.inr (5, [.ref 3, .ref 5, .ref 11, .ref 17, .ref 115, .ref 128, .null, .null, .long 0])) := hset_eq _ _ _
  generalize hset b3 2 (.inr (5, [.ref 3, .ref 5, .ref 11, .ref 17, .ref 115, .ref 128, .null, .null, .long 0])) = g71 at ob ho ⊢
  replace h_tx : tAt g71 3 (0, fun _ => 0) := h_tx.kept fun x q1 q2 => ho x (by omega)
  replace h_cu : conAt g71 5 K0 := h_cu.kept fun x q1 q2 => ho x (by omega)
  replace h_tr : conAt g71 11 K0 := h_tr.kept fun x q1 q2 => ho x (by omega)
  replace h_ac : aAt g71 17 0 0 (fun _ => K0) := h_ac.kept fun x q1 q2 => ho x (by omega)
  replace h_sl : slAt g71 (fun _ => K0) := h_sl.kept fun x q1 q2 => ho x (by omega)
  replace h_kp : kpAt g71 (fun _ => 0) := h_kp.kept fun x q1 q2 => ho x (by omega)
  replace fr : ∀ a, (a < 2 ∨ 152 ≤ a) → g71 a = h a := fun a ha => (ho a (by omega)).trans (fr a ha)
  refine r_aload iX6_init_89 rfl ?_
  refine r_bipush (v := 13) iX6_init_90 rfl ?_
  refine r_anewarray iX6_init_92 (gt_1 122 rfl rfl) (fun _ q => q.2.2.1) (by decide) rfl (Nat.le_of_ble_eq_true rfl) (Nat.le_of_ble_eq_true rfl) (Nat.le_of_ble_eq_true rfl) ?_
  refine R_heap (show _ = hset g71 129 (.inl (.object "UpWithSheaf$Thrower", 13, fun _ => .null)) from rfl) ?_
  have hp0 : hset g71 129 (.inl (.object "UpWithSheaf$Thrower", 13, fun _ => .null)) 129 = some (.inl (.object "UpWithSheaf$Thrower", 13, fun _ => .null)) := hset_eq _ _ _
  have ho : ∀ a, a ≠ 129 → hset g71 129 (.inl (.object "UpWithSheaf$Thrower", 13, fun _ => .null)) a = g71 a := fun a ha => hset_ne _ _ ha
  generalize hset g71 129 (.inl (.object "UpWithSheaf$Thrower", 13, fun _ => .null)) = b4 at hp0 ho ⊢
  replace h_tx : tAt b4 3 (0, fun _ => 0) := h_tx.kept fun x q1 q2 => ho x (by omega)
  replace h_cu : conAt b4 5 K0 := h_cu.kept fun x q1 q2 => ho x (by omega)
  replace h_tr : conAt b4 11 K0 := h_tr.kept fun x q1 q2 => ho x (by omega)
  replace h_ac : aAt b4 17 0 0 (fun _ => K0) := h_ac.kept fun x q1 q2 => ho x (by omega)
  replace h_sl : slAt b4 (fun _ => K0) := h_sl.kept fun x q1 q2 => ho x (by omega)
  replace h_kp : kpAt b4 (fun _ => 0) := h_kp.kept fun x q1 q2 => ho x (by omega)
  replace ob : b4 2 = some (.inr (5, [.ref 3, .ref 5, .ref 11, .ref 17, .ref 115, .ref 128, .null, .null, .long 0])) := (ho 2 (by omega)).trans ob
  replace fr : ∀ a, (a < 2 ∨ 152 ≤ a) → b4 a = h a := fun a ha => (ho a (by omega)).trans (fr a ha)
  refine r_putfield iX6_init_95 (fpX6_43 _ rfl rfl) (by omega) (ob) (Nat.le_of_ble_eq_true rfl) ⟨rfl, rfl⟩ ?_
  refine R_heap (show _ = hset b4 2 (.inr (5, [.ref 3, .ref 5, .ref 11, .ref 17, .ref 115, .ref 128, .ref 129, .null, .long 0])) from rfl) ?_
  have ho : ∀ a, a ≠ 2 → hset b4 2 (.inr (5, [.ref 3, .ref 5, .ref 11, .ref 17, .ref 115, .ref 128, .ref 129, .null, .long 0])) a = b4 a := fun a ha => hset_ne _ _ ha
  replace ob : hset b4 2 (.inr (5, [.ref 3, .ref 5, .ref 11, .ref 17, .ref 115, .ref 128, .ref 129, .null, .long 0])) 2 = some (.inr (5, [.ref 3, .ref 5, .ref 11, .ref 17, .ref 115, .ref 128, .ref 129, .null, .long 0])) := hset_eq _ _ _
  generalize hset b4 2 (.inr (5, [.ref 3, .ref 5, .ref 11, .ref 17, .ref 115, .ref 128, .ref 129, .null, .long 0])) = g81 at ob ho ⊢
  replace h_tx : tAt g81 3 (0, fun _ => 0) := h_tx.kept fun x q1 q2 => ho x (by omega)
  replace h_cu : conAt g81 5 K0 := h_cu.kept fun x q1 q2 => ho x (by omega)
  replace h_tr : conAt g81 11 K0 := h_tr.kept fun x q1 q2 => ho x (by omega)
  replace h_ac : aAt g81 17 0 0 (fun _ => K0) := h_ac.kept fun x q1 q2 => ho x (by omega)
  replace h_sl : slAt g81 (fun _ => K0) := h_sl.kept fun x q1 q2 => ho x (by omega)
  replace h_kp : kpAt g81 (fun _ => 0) := h_kp.kept fun x q1 q2 => ho x (by omega)
  replace hp0 : g81 129 = some (.inl (.object "UpWithSheaf$Thrower", 13, fun _ => .null)) := (ho 129 (by omega)).trans hp0
  replace fr : ∀ a, (a < 2 ∨ 152 ≤ a) → g81 a = h a := fun a ha => (ho a (by omega)).trans (fr a ha)
  refine r_iconst (v := 0) iX6_init_98 rfl ?_
  refine r_istore_1 iX6_init_99 rfl ?_
  have loop : ∀ (j p : Nat) (hh : Hp), p + j = 13 → hh 129 = some (.inl (.object "UpWithSheaf$Thrower", 13, fun j => if j < p then .ref (130 + j) else .null)) → (∀ j, j < p → hh (130 + j) = some (thr (kStart 0 1))) → hh 2 = some (.inr (5, [.ref 3, .ref 5, .ref 11, .ref 17, .ref 115, .ref 128, .ref 129, .null, .long 0])) → (∀ a, (a < 2 ∨ 152 ≤ a) → hh a = h a) → tAt hh 3 (0, fun _ => 0) → conAt hh 5 K0 → conAt hh 11 K0 → aAt hh 17 0 0 (fun _ => K0) → slAt hh (fun _ => K0) → kpAt hh (fun _ => 0) → R MX6_init 5 149 1173 (fun v h' z' => v = none ∧ z' = 152 ∧ (∃ W sl : Nat → Cn, cls h' (0, fun _ => 0) K0 0 0 W sl (fun _ => 0) 0) ∧ ∀ a, (a < 2 ∨ 152 ≤ a) → h' a = h a) 100 [.ref 2, .int (nI p)] [] hh (130 + p) (127 + p) (934 + 9 * p) := by
    clear ob fr hp0 h_tx h_cu h_tr h_ac h_sl h_kp
    intro j
    induction j with
    | zero =>
      intro p hh hp hp0 hpt ob fr h_tx h_cu h_tr h_ac h_sl h_kp
      obtain rfl : p = 13 := by omega
      refine r_iload iX6_init_100 rfl ?_
      refine r_bipush (v := 12) iX6_init_101 rfl ?_
      refine r_icmp_gt iX6_init_103 (fun _ => ?_) (fun g9 => absurd (nI_lt (a := 12) (by omega) (by omega)) g9)
      refine R_arr (fun j => .ref (130 + j)) hp0 (fun j hj => if_pos hj) ?_
      have hpa : hset hh 129 (.inl (.object "UpWithSheaf$Thrower", 13, fun j => .ref (130 + j))) 129 = some (.inl (.object "UpWithSheaf$Thrower", 13, fun j => .ref (130 + j))) := hset_eq _ _ _
      have ho : ∀ a, a ≠ 129 → hset hh 129 (.inl (.object "UpWithSheaf$Thrower", 13, fun j => .ref (130 + j))) a = hh a := fun a ha => hset_ne _ _ ha
      generalize hset hh 129 (.inl (.object "UpWithSheaf$Thrower", 13, fun j => .ref (130 + j))) = b5 at hpa ho ⊢
      replace h_tx : tAt b5 3 (0, fun _ => 0) := h_tx.kept fun x q1 q2 => ho x (by omega)
      replace h_cu : conAt b5 5 K0 := h_cu.kept fun x q1 q2 => ho x (by omega)
      replace h_tr : conAt b5 11 K0 := h_tr.kept fun x q1 q2 => ho x (by omega)
      replace h_ac : aAt b5 17 0 0 (fun _ => K0) := h_ac.kept fun x q1 q2 => ho x (by omega)
      replace h_sl : slAt b5 (fun _ => K0) := h_sl.kept fun x q1 q2 => ho x (by omega)
      replace h_kp : kpAt b5 (fun _ => 0) := h_kp.kept fun x q1 q2 => ho x (by omega)
      replace ob : b5 2 = some (.inr (5, [.ref 3, .ref 5, .ref 11, .ref 17, .ref 115, .ref 128, .ref 129, .null, .long 0])) := (ho 2 (by omega)).trans ob
      replace fr : ∀ a, (a < 2 ∨ 152 ≤ a) → b5 a = h a := fun a ha => (ho a (by omega)).trans (fr a ha)
      have h_pt : ptAt b5 (fun _ => kStart 0 1) := ⟨hpa, fun j hj => (ho _ (by omega)).trans (hpt j hj)⟩
      refine r_aload iX6_init_125 rfl ?_
      refine r_new (ci := 2) (fs := [.null, .null]) iX6_init_126 rfl neww_X6_X3 tyX3_ok rfl (by first | exact Nat.le_of_ble_eq_true rfl | omega) (by first | exact Nat.le_of_ble_eq_true rfl | omega) ?_
      refine r_dup iX6_init_129 rfl ?_
      refine r_callIN iX6_init_130 (cX6_50 _ rfl) (c3_init b5) (by omega) rfl rfl (Nat.le_of_ble_eq_true rfl) (by first | exact Nat.le_of_ble_eq_true rfl | omega) (by first | exact Nat.le_of_ble_eq_true rfl | omega) ?_
      rintro v b6 z' ⟨rfl, rfl, h_sh, ho6⟩
      replace h_tx : tAt b6 3 (0, fun _ => 0) := h_tx.kept fun x q1 q2 => ho6 x (by omega)
      replace h_cu : conAt b6 5 K0 := h_cu.kept fun x q1 q2 => ho6 x (by omega)
      replace h_tr : conAt b6 11 K0 := h_tr.kept fun x q1 q2 => ho6 x (by omega)
      replace h_ac : aAt b6 17 0 0 (fun _ => K0) := h_ac.kept fun x q1 q2 => ho6 x (by omega)
      replace h_sl : slAt b6 (fun _ => K0) := h_sl.kept fun x q1 q2 => ho6 x (by omega)
      replace h_kp : kpAt b6 (fun _ => 0) := h_kp.kept fun x q1 q2 => ho6 x (by omega)
      replace h_pt : ptAt b6 (fun _ => kStart 0 1) := h_pt.kept fun x q1 q2 => ho6 x (by omega)
      replace ob : b6 2 = some (.inr (5, [.ref 3, .ref 5, .ref 11, .ref 17, .ref 115, .ref 128, .ref 129, .null, .long 0])) := (ho6 2 (by omega)).trans ob
      replace fr : ∀ a, (a < 2 ∨ 152 ≤ a) → b6 a = h a := fun a ha => (ho6 a (by omega)).trans (fr a ha)
      refine r_putfield iX6_init_133 (fpX6_51 _ rfl rfl) (by omega) (ob) (Nat.le_of_ble_eq_true rfl) ⟨rfl, rfl⟩ ?_
      refine r_aload iX6_init_136 rfl ?_
      refine r_lconst (v := 0) iX6_init_137 rfl ?_
      refine R_heap (show _ = hset b6 2 (.inr (5, [.ref 3, .ref 5, .ref 11, .ref 17, .ref 115, .ref 128, .ref 129, .ref 143, .long 0])) from rfl) ?_
      refine r_putO iX6_init_138 (fpX6_55 _ rfl) (by omega) (Nat.le_of_ble_eq_true rfl) ⟨rfl, rfl⟩ ?_
      refine r_vret iX6_init_141 rfl ?_
      refine ⟨rfl, rfl, ⟨_, _, K0, _, hset_eq _ _ _, h_tx.kept ?_, h_cu.kept ?_, h_tr.kept ?_, h_ac.kept ?_, h_sl.kept ?_, h_kp.kept ?_, h_pt.kept ?_, h_sh.kept ?_⟩, fun a ha => ?_⟩
      all_goals first
        | (intro x q1 q2; rw [hset_ne _ _ (by omega), hset_ne _ _ (by omega)]; done)
        | (intro x q1 q2; rw [hset_ne _ _ (by omega)]; done)
        | (rw [hset_ne _ _ (by omega), hset_ne _ _ (by omega)]; exact fr a ha)
        | (rw [hset_ne _ _ (by omega)]; exact fr a ha)
    | succ j ih =>
      intro p hh hp hp0 hpt ob fr h_tx h_cu h_tr h_ac h_sl h_kp
      refine r_iload iX6_init_100 rfl ?_
      refine r_bipush (v := 12) iX6_init_101 rfl ?_
      refine r_icmp_gt iX6_init_103 (fun g9 => absurd g9 (nI_nlt (a := 12) (by omega) (by omega))) (fun _ => ?_)
      refine r_aload iX6_init_106 rfl ?_
      refine r_getfield iX6_init_107 (flX6_43 _ rfl) (ob) rfl ?_
      refine r_iload iX6_init_110 rfl ?_
      refine r_new (ci := 4) (fs := [.int 0, .int 0, .int 0, .int 0, .int 0, .int 0, .int 0, .int 0, .int 0]) iX6_init_111 rfl neww_X6_X5 tyX5_ok rfl (by first | exact Nat.le_of_ble_eq_true rfl | omega) (by first | exact Nat.le_of_ble_eq_true rfl | omega) ?_
      refine r_dup iX6_init_114 rfl ?_
      refine r_callI iX6_init_115 (cX6_47 _ rfl) (c5_init hh (a := 130 + p) (fun _ => 0) (by omega) _) (by omega) rfl rfl (Nat.le_of_ble_eq_true rfl) (by first | exact Nat.le_of_ble_eq_true rfl | omega) (by first | exact Nat.le_of_ble_eq_true rfl | omega) ?_
      rintro v h' z' ⟨rfl, rfl, rfl⟩
      refine r_aastore iX6_init_118 (by omega) ((hset_ne _ _ (by omega)).trans hp0) (vp_in_nI (show p < 13 by omega) (by decide)) (hset_eq _ _ _) rfl ?_
      rw [nI_clamp (by omega), updV_ref 130 p]
      refine r_iinc_1 iX6_init_119 (by first | exact nI_inc _ | rfl) rfl ?_
      refine r_goto iX6_init_122 ?_
      refine R_nums (by omega) (by omega) (by omega) (ih (p + 1) _ (by omega) (hset_eq _ _ _) (fun j hj => ?_) ?_ (fun a ha => ?_) (h_tx.kept fun x q1 q2 => by rw [hset_ne _ _ (by omega), hset_ne _ _ (by omega)]) (h_cu.kept fun x q1 q2 => by rw [hset_ne _ _ (by omega), hset_ne _ _ (by omega)]) (h_tr.kept fun x q1 q2 => by rw [hset_ne _ _ (by omega), hset_ne _ _ (by omega)]) (h_ac.kept fun x q1 q2 => by rw [hset_ne _ _ (by omega), hset_ne _ _ (by omega)]) (h_sl.kept fun x q1 q2 => by rw [hset_ne _ _ (by omega), hset_ne _ _ (by omega)]) (h_kp.kept fun x q1 q2 => by rw [hset_ne _ _ (by omega), hset_ne _ _ (by omega)]))
      · by_cases g : j = p
        · subst g; rw [hset_ne _ _ (by omega), hset_eq]
        · rw [hset_ne _ _ (by omega), hset_ne _ _ (by omega)]; exact hpt j (by omega)
      · rw [hset_ne _ _ (by omega), hset_ne _ _ (by omega)]; exact ob
      · rw [hset_ne _ _ (by omega), hset_ne _ _ (by omega)]; exact fr a ha
  refine loop 13 0 _ (by omega) ?_ (fun j hj => absurd hj (Nat.not_lt_zero j)) ob fr h_tx h_cu h_tr h_ac h_sl h_kp
  rw [hp0]; simp
