/-! the class's constructors -/
def K0 : Cn := (0, 0, -9, fun _ => kStart 0 1)
def ctH (h : Hp) (c p : Nat) : Hp := fun a => if a = c then some (.inr (1, [.ref (c + 1), .int 0, .int 0, .int 0])) else if a = c + 1 then some (.inl (.object "UpWithSheaf$Thrower", 4, fun j => if j < p then .ref (c + 2 + j) else .null)) else if c + 2 ≤ a ∧ a < c + 2 + p then some (thr (kStart 0 1)) else h a
theorem ctH_obj (h : Hp) (c p : Nat) : ctH h c p c = some (.inr (1, [.ref (c + 1), .int 0, .int 0, .int 0])) := if_pos rfl
theorem ctH_arr (h : Hp) (c p : Nat) : ctH h c p (c + 1) = some (.inl (.object "UpWithSheaf$Thrower", 4, fun j => if j < p then .ref (c + 2 + j) else .null)) := by
  unfold ctH
  rw [if_neg (by omega), if_pos rfl]
theorem updV_ref (c p : Nat) : updV (fun j => if j < p then Value.ref (c + j) else .null) p (.ref (c + p)) = fun j => if j < p + 1 then .ref (c + j) else .null := by
  funext j
  unfold updV
  by_cases h : j = p
  · subst h; rw [if_pos rfl, if_pos (by omega)]
  · rw [if_neg h]
    dsimp only
    by_cases h2 : j < p
    · rw [if_pos h2, if_pos (by omega)]
    · rw [if_neg h2, if_neg (by omega)]
theorem ctH_s (h : Hp) (c p : Nat) : hset (hset (ctH h c p) (c + 2 + p) (thr (kStart 0 1))) (c + 1) (.inl (.object "UpWithSheaf$Thrower", 4, fun j => if j < p + 1 then .ref (c + 2 + j) else .null)) = ctH h c (p + 1) := by
  funext a
  by_cases h1 : a = c + 1
  · subst h1; rw [hset_eq, ctH_arr]
  · rw [hset_ne _ _ h1]
    by_cases h2 : a = c + 2 + p
    · subst h2; rw [hset_eq]; unfold ctH; rw [if_neg (by omega), if_neg (by omega), if_pos (by omega)]
    · rw [hset_ne _ _ h2]
      unfold ctH
      by_cases h3 : a = c
      · rw [if_pos h3, if_pos h3]
      · rw [if_neg h3, if_neg h1, if_neg h3, if_neg h1]
        by_cases h4 : c + 2 ≤ a ∧ a < c + 2 + p
        · rw [if_pos h4, if_pos (by omega)]
        · rw [if_neg h4, if_neg (by omega)]
theorem ctH_4 (h : Hp) (c : Nat) : hset (ctH h c 4) (c + 1) (.inl (.object "UpWithSheaf$Thrower", 4, fun j => .ref (c + 2 + j))) = cOv h c (0, 0, 0, fun _ => kStart 0 1) := by
  funext a
  by_cases g : a < c ∨ c + 6 ≤ a
  · rw [cOv_out _ _ _ g, hset_ne _ _ (by omega)]; unfold ctH; rw [if_neg (by omega), if_neg (by omega), if_neg (by omega)]
  · by_cases g2 : a = c
    · subst g2; rw [cOv_obj, hset_ne _ _ (by omega), ctH_obj]; rfl
    · by_cases g3 : a = c + 1
      · subst g3; rw [cOv_arr, hset_eq]
      · obtain ⟨i, rfl⟩ : ∃ i, a = c + 2 + i := ⟨a - (c + 2), by omega⟩
        rw [cOv_thr _ _ _ (by omega), hset_ne _ _ (by omega)]; unfold ctH; rw [if_neg (by omega), if_neg (by omega), if_pos (by omega)]
theorem R_nums {M : MD} {d mc ms pc z k n z2 k2 n2 : Nat} {Q : Option Value → Hp → Nat → Prop} {L S : List Value} {h : Hp} (hz : z = z2) (hk : k = k2) (hn : n = n2) (K : R M d mc ms Q pc L S h z2 k2 n2) : R M d mc ms Q pc L S h z k n := by subst hz; subst hk; subst hn; exact K
theorem c2_init (h : Hp) (c : Nat) (hc : 2 ≤ c) : Cal MX2_init 3 5 40 [.ref c] (hset h c (.inr (1, [.null, .int 0, .int 0, .int 0]))) (c + 1) (fun v h' z' => v = none ∧ z' = c + 6 ∧ conAt h' c K0 ∧ ∀ a, (a < c ∨ c + 6 ≤ a) → h' a = h a) := by
  have e0 : hset (hset (hset h c (.inr (1, [.null, .int 0, .int 0, .int 0]))) (c + 1) (.inl (.object "UpWithSheaf$Thrower", 4, fun _ => .null))) c (.inr (1, [.ref (c + 1), .int 0, .int 0, .int 0])) = ctH h c 0 := by
    funext a
    by_cases h1 : a = c
    · subst h1; rw [hset_eq, ctH_obj]
    · rw [hset_ne _ _ h1]
      by_cases h2 : a = c + 1
      · subst h2; rw [hset_eq, ctH_arr]; simp
      · rw [hset_ne _ _ h2, hset_ne _ _ h1]; unfold ctH; rw [if_neg h1, if_neg h2, if_neg (by omega)]
  have loop : ∀ (j p : Nat), p + j = 4 → R MX2_init 3 5 40 (fun v h' z' => v = none ∧ z' = c + 6 ∧ conAt h' c K0 ∧ ∀ a, (a < c ∨ c + 6 ≤ a) → h' a = h a) 14 [.ref c, .int (nI p)] [] (ctH h c p) (c + 2 + p) (1 + p) (4 + 9 * p) := by
    intro j
    induction j with
    | zero =>
      intro p hp
      obtain rfl : p = 4 := by omega
      refine r_iload iX2_init_14 rfl ?_
      refine r_iconst (v := 4) iX2_init_15 rfl ?_
      refine r_icmp_ge iX2_init_16 (fun _ => ?_) (fun g9 => absurd (nI_le (a := 4) (by omega) (by omega)) g9)
      refine R_arr (fun j => .ref (c + 2 + j)) (ctH_arr h c 4) (fun j hj => if_pos hj) ?_
      rw [ctH_4]
      refine r_aload iX2_init_38 rfl ?_
      refine r_iconst (v := 0) iX2_init_39 rfl ?_
      refine r_csize (n' := 0) iX2_init_40 (fpX2_18 _ rfl) hc ?_
      refine r_aload iX2_init_43 rfl ?_
      refine r_iconst (v := 0) iX2_init_44 rfl ?_
      refine r_cbar iX2_init_45 (fpX2_22 _ rfl) hc ?_
      refine r_aload iX2_init_48 rfl ?_
      refine r_bipush (v := (-9)) iX2_init_49 rfl ?_
      refine r_cturn iX2_init_51 (fpX2_25 _ rfl) hc ?_
      refine r_vret iX2_init_54 rfl ?_
      exact ⟨rfl, rfl, conAt_cOv _ _ _, fun a ha => cOv_out _ _ _ ha⟩
    | succ j ih =>
      intro p hp
      have hp4 : p < 4 := by omega
      refine r_iload iX2_init_14 rfl ?_
      refine r_iconst (v := 4) iX2_init_15 rfl ?_
      refine r_icmp_ge iX2_init_16 (fun g9 => absurd g9 (nI_ge (b := 4) (by omega) (by omega))) (fun _ => ?_)
      refine r_aload iX2_init_19 rfl ?_
      refine r_getfield iX2_init_20 (flX2_11 _ rfl) (ctH_obj h c p) rfl ?_
      refine r_iload iX2_init_23 rfl ?_
      refine r_new (ci := 4) (fs := [.int 0, .int 0, .int 0, .int 0, .int 0, .int 0, .int 0, .int 0, .int 0]) iX2_init_24 rfl neww_X2_X5 tyX5_ok rfl (by first | exact Nat.le_of_ble_eq_true rfl | omega) (by first | exact Nat.le_of_ble_eq_true rfl | omega) ?_
      refine r_dup iX2_init_27 rfl ?_
      refine r_callI iX2_init_28 (cX2_17 _ rfl) (c5_init (ctH h c p) (a := c + 2 + p) (fun _ => 0) (by omega) _) (by omega) rfl rfl (Nat.le_of_ble_eq_true rfl) (by first | exact Nat.le_of_ble_eq_true rfl | omega) (by first | exact Nat.le_of_ble_eq_true rfl | omega) ?_
      rintro v h' z' ⟨rfl, rfl, rfl⟩
      refine r_aastore iX2_init_31 (by omega) ((hset_ne _ _ (by omega)).trans (ctH_arr h c p)) (in4 hp4) (hset_eq _ _ _) rfl ?_
      rw [nI_clamp (by omega), updV_ref (c + 2) p, ctH_s]
      refine r_iinc_1 iX2_init_32 (by first | exact nI_inc _ | rfl) rfl ?_
      refine r_goto iX2_init_35 ?_
      exact R_nums (by omega) (by omega) (by omega) (ih (p + 1) (by omega))
  refine Cal_of_R (by decide +kernel) (L := [.ref c, .null]) rfl (Nat.le_of_ble_eq_true rfl) ?_
  refine r_aload iX2_init_0 rfl ?_
  refine r_objinit iX2_init_1 objw_X2 (by decide) (Nat.le_of_ble_eq_true rfl) ?_
  refine r_aload iX2_init_4 rfl ?_
  refine r_iconst (v := 4) iX2_init_5 rfl ?_
  refine r_anewarray iX2_init_6 (gt_1 40 rfl rfl) (fun _ q => q.2.2.1) (by decide) rfl (Nat.le_of_ble_eq_true rfl) (Nat.le_of_ble_eq_true rfl) (Nat.le_of_ble_eq_true rfl) ?_
  refine r_putfield iX2_init_9 (fpX2_11 _ rfl rfl) hc ((hset_ne _ _ (by omega)).trans (hset_eq _ _ _)) (Nat.le_of_ble_eq_true rfl) ⟨rfl, rfl⟩ ?_
  refine r_iconst (v := 0) iX2_init_12 rfl ?_
  refine r_istore_1 iX2_init_13 rfl ?_
  exact R_heap e0 (loop 4 0 (by omega))
theorem c4_init (h : Hp) (x : Nat) (hx : 2 ≤ x) : Cal MX4_init 1 1 16 [.ref x] (hset h x (.inr (3, [.null, .int 0]))) (x + 1) (fun v h' z' => v = none ∧ z' = x + 2 ∧ tAt h' x (0, fun _ => 0) ∧ ∀ a, (a < x ∨ x + 2 ≤ a) → h' a = h a) := by
  refine Cal_of_R (by decide +kernel) (L := [.ref x]) rfl (Nat.le_of_ble_eq_true rfl) ?_
  refine r_aload iX4_init_0 rfl ?_
  refine r_objinit iX4_init_1 objw_X4 (by decide) (Nat.le_of_ble_eq_true rfl) ?_
  refine r_aload iX4_init_4 rfl ?_
  refine r_bipush (v := 16) iX4_init_5 rfl ?_
  refine r_newarray iX4_init_7 (gt_1 33 rfl rfl) (by decide) rfl (Nat.le_of_ble_eq_true rfl) (Nat.le_of_ble_eq_true rfl) (Nat.le_of_ble_eq_true rfl) ?_
  refine r_putfield iX4_init_9 (fpX4_9 _ rfl rfl) (by omega) ((hset_ne _ _ (by omega)).trans (hset_eq _ _ _)) (Nat.le_of_ble_eq_true rfl) ⟨rfl, rfl⟩ ?_
  refine r_vret iX4_init_12 rfl ?_
  refine ⟨rfl, rfl, ⟨hset_eq _ _ _, ?_⟩, fun a ha => ?_⟩
  · rw [hset_ne _ _ (by omega), hset_eq]; rfl
  · rw [hset_ne _ _ (by omega), hset_ne _ _ (by omega), hset_ne _ _ (by omega)]
theorem c0_init (h : Hp) (a : Nat) (ha : 2 ≤ a) : Cal MX0_init 4 97 720 [.ref a] (hset h a (.inr (0, [.null, .int 0, .int 0]))) (a + 1) (fun v h' z' => v = none ∧ z' = a + 98 ∧ aAt h' a 0 0 (fun _ => K0) ∧ ∀ x, (x < a ∨ a + 98 ≤ x) → h' x = h x) := by
  have loop : ∀ (j p : Nat) (hh : Hp), p + j = 16 → hh a = some (.inr (0, [.ref (a + 1), .int 0, .int 0])) → hh (a + 1) = some (.inl (.object "UpWithSheaf$Contest", 16, fun j => if j < p then .ref (a + 2 + 6 * j) else .null)) → (∀ j, j < p → conAt hh (a + 2 + 6 * j) K0) → (∀ x, (x < a ∨ a + 98 ≤ x) → hh x = h x) → R MX0_init 4 97 720 (fun v h' z' => v = none ∧ z' = a + 98 ∧ aAt h' a 0 0 (fun _ => K0) ∧ ∀ x, (x < a ∨ a + 98 ≤ x) → h' x = h x) 15 [.ref a, .int (nI p)] [] hh (a + 2 + 6 * p) (1 + 6 * p) (16 + 44 * p) := by
    intro j
    induction j with
    | zero =>
      intro p hh hp ho hr hc hx
      obtain rfl : p = 16 := by omega
      refine r_iload iX0_init_15 rfl ?_
      refine r_bipush (v := 16) iX0_init_16 rfl ?_
      refine r_icmp_ge iX0_init_18 (fun _ => ?_) (fun g9 => absurd (nI_le (a := 16) (by omega) (by omega)) g9)
      refine R_arr (fun j => .ref (a + 2 + 6 * j)) hr (fun j hj => if_pos hj) ?_
      have g1 : hset hh (a + 1) (.inl (.object "UpWithSheaf$Contest", 16, fun j => .ref (a + 2 + 6 * j))) a = some (.inr (0, [.ref (a + 1), .int 0, .int 0])) := by rw [hset_ne _ _ (by omega)]; exact ho
      refine R_heap (hset_self g1).symm ?_
      refine r_aload iX0_init_40 rfl ?_
      refine r_iconst (v := 0) iX0_init_41 rfl ?_
      refine r_putO iX0_init_42 (fpX0_18 _ rfl) ha (Nat.le_of_ble_eq_true rfl) ⟨rfl, rfl⟩ ?_
      refine r_aload iX0_init_45 rfl ?_
      refine r_iconst (v := 0) iX0_init_46 rfl ?_
      refine r_putO iX0_init_47 (fpX0_22 _ rfl) ha (Nat.le_of_ble_eq_true rfl) ⟨rfl, rfl⟩ ?_
      refine r_vret iX0_init_50 rfl ?_
      refine ⟨rfl, rfl, ⟨hset_eq _ _ _, ?_, fun j hj => ?_⟩, fun x hx2 => ?_⟩
      · rw [hset_ne _ _ (by omega), hset_eq]
      · exact (hc j hj).kept fun x q1 q2 => by rw [hset_ne _ _ (by omega), hset_ne _ _ (by omega)]
      · rw [hset_ne _ _ (by omega), hset_ne _ _ (by omega)]; exact hx x hx2
    | succ j ih =>
      intro p hh hp ho hr hc hx
      have P := c2_init hh (a + 2 + 6 * p) (by omega)
      refine r_iload iX0_init_15 rfl ?_
      refine r_bipush (v := 16) iX0_init_16 rfl ?_
      refine r_icmp_ge iX0_init_18 (fun g9 => absurd g9 (nI_ge (b := 16) (by omega) (by omega))) (fun _ => ?_)
      refine r_aload iX0_init_21 rfl ?_
      refine r_getfield iX0_init_22 (flX0_11 _ rfl) (ho) rfl ?_
      refine r_iload iX0_init_25 rfl ?_
      refine r_new (ci := 1) (fs := [.null, .int 0, .int 0, .int 0]) iX0_init_26 rfl neww_X0_X2 tyX2_ok rfl (by first | exact Nat.le_of_ble_eq_true rfl | omega) (by first | exact Nat.le_of_ble_eq_true rfl | omega) ?_
      refine r_dup iX0_init_29 rfl ?_
      refine r_callI iX0_init_30 (cX0_17 _ rfl) (P) (by omega) rfl rfl (Nat.le_of_ble_eq_true rfl) (by first | exact Nat.le_of_ble_eq_true rfl | omega) (by first | exact Nat.le_of_ble_eq_true rfl | omega) ?_
      rintro v h3 z' ⟨rfl, rfl, hK, hk⟩
      refine r_aastore iX0_init_33 (by omega) ((hk _ (by omega)).trans hr) (in16 (by omega)) (hK.1) rfl ?_
      rw [nI_clamp (by omega)]
      have e : updV (fun j => if j < p then Value.ref (a + 2 + 6 * j) else .null) p (.ref (a + 2 + 6 * p)) = fun j => if j < p + 1 then .ref (a + 2 + 6 * j) else .null := by
        funext j
        unfold updV
        by_cases h : j = p
        · subst h; rw [if_pos rfl, if_pos (by omega)]
        · rw [if_neg h]
          dsimp only
          by_cases h2 : j < p
          · rw [if_pos h2, if_pos (by omega)]
          · rw [if_neg h2, if_neg (by omega)]
      rw [e]
      refine r_iinc_1 iX0_init_34 (by first | exact nI_inc _ | rfl) rfl ?_
      refine r_goto iX0_init_37 ?_
      refine R_nums (by omega) (by omega) (by omega) (ih (p + 1) _ (by omega) ?_ (hset_eq _ _ _) (fun j hj => ?_) (fun x hx2 => ?_))
      · rw [hset_ne _ _ (by omega), hk _ (by omega)]; exact ho
      · by_cases g : j = p
        · subst g; exact hK.kept fun x q1 q2 => hset_ne _ _ (by omega)
        · exact (hc j (by omega)).kept fun x q1 q2 => by rw [hset_ne _ _ (by omega), hk _ (by omega)]
      · rw [hset_ne _ _ (by omega), hk _ (by omega)]; exact hx x hx2
  refine Cal_of_R (by decide +kernel) (L := [.ref a, .null]) rfl (Nat.le_of_ble_eq_true rfl) ?_
  refine r_aload iX0_init_0 rfl ?_
  refine r_objinit iX0_init_1 objw_X0 (by decide) (Nat.le_of_ble_eq_true rfl) ?_
  refine r_aload iX0_init_4 rfl ?_
  refine r_bipush (v := 16) iX0_init_5 rfl ?_
  refine r_anewarray iX0_init_7 (gt_1 108 rfl rfl) (fun _ q => q.2.2.2.1) (by decide) rfl (Nat.le_of_ble_eq_true rfl) (Nat.le_of_ble_eq_true rfl) (Nat.le_of_ble_eq_true rfl) ?_
  refine r_putfield iX0_init_10 (fpX0_11 _ rfl rfl) ha ((hset_ne _ _ (by omega)).trans (hset_eq _ _ _)) (Nat.le_of_ble_eq_true rfl) ⟨rfl, rfl⟩ ?_
  refine r_iconst (v := 0) iX0_init_13 rfl ?_
  refine r_istore_1 iX0_init_14 rfl ?_
  refine loop 16 0 _ (by omega) (hset_eq _ _ _) ?_ (fun j hj => absurd hj (Nat.not_lt_zero j)) (fun x hx => ?_)
  · rw [hset_ne _ _ (by omega), hset_eq]; simp
  · rw [hset_ne _ _ (by omega), hset_ne _ _ (by omega), hset_ne _ _ (by omega)]
