/-! the law's loop, and the law from its entry -/
theorem and31 (x : Int32) : ∃ m, m < 32 ∧ x &&& 31 = nI m := by
  refine ⟨x.toBitVec.toNat % 32, Nat.mod_lt _ (by omega), ?_⟩
  apply Int32.toBitVec_inj.mp
  apply BitVec.eq_of_toNat_eq
  show (x.toBitVec &&& 31#32).toNat = (BitVec.ofNat 32 (x.toBitVec.toNat % 32)).toNat
  rw [BitVec.toNat_and, show (31#32).toNat = 31 from rfl, BitVec.toNat_ofNat, Nat.mod_eq_of_lt (show x.toBitVec.toNat % 32 < 2 ^ 32 by omega)]
  exact Nat.and_two_pow_sub_one_eq_mod x.toBitVec.toNat 5
theorem lw_end {i L : Nat} (hL : L ≤ 256) (hi : i ≤ 300) : (nI L - 4 < nI i) ↔ L < i + 4 := by
  by_cases g : 4 ≤ L
  · rw [show nI L - 4 = nI (L - 4) from nI_sub (b := 4) g, nI_ltI (by omega) (by omega)]
    omega
  · have e : ∀ L, L < 4 → nI L - 4 < nI 0 := by decide
    have e1 : nI L - 4 < nI i := by
      refine Int32.lt_of_lt_of_le (e L (by omega)) ?_
      exact Int32.not_lt.mp fun q => absurd ((nI_ltI (by omega) (by omega)).mp q) (by omega)
    exact ⟨fun _ => by omega, fun _ => e1⟩
theorem law_loop {L : Nat} {xs : Nat → Int32} (hL : L ≤ 256) : ∀ (f i : Nat), L < i + f → i ≤ 300 → ∀ (h : Hp) (z : Nat), Rel (scr L xs) h → LR 18 i [] h z 161 3865 := by
  intro f
  induction f with
  | zero =>
    intro i hf hi h z HR
    have hs := HR.scr
    refine r_iload iL_law_18 rfl ?_
    refine r_aload iL_law_19 rfl ?_
    refine r_arraylength iL_law_20 (hs) rfl ?_
    refine r_iconst (v := 4) iL_law_21 rfl ?_
    refine r_isub iL_law_22 ?_
    refine r_icmp_gt iL_law_23 (fun _ => ?_) (fun g9 => absurd ((lw_end hL hi).mpr (by omega)) g9)
    refine r_iconst (v := 1) iL_law_888 rfl ?_
    refine r_zret iL_law_889 rfl (by simp) ?_
    rfl
  | succ f ih =>
    intro i hf hi h z HR
    have hs := HR.scr
    by_cases c : i + 4 ≤ L
    case neg =>
      refine r_iload iL_law_18 rfl ?_
      refine r_aload iL_law_19 rfl ?_
      refine r_arraylength iL_law_20 (hs) rfl ?_
      refine r_iconst (v := 4) iL_law_21 rfl ?_
      refine r_isub iL_law_22 ?_
      refine r_icmp_gt iL_law_23 (fun _ => ?_) (fun g9 => absurd ((lw_end hL hi).mpr (by omega)) g9)
      refine r_iconst (v := 1) iL_law_888 rfl ?_
      refine r_zret iL_law_889 rfl (by simp) ?_
      rfl
    have K : ∀ h', Rel (scr L xs) h' → LR 882 i [] h' z 161 3865 := by
      intro h' HR'
      refine r_iinc_3 iL_law_882 (nI_add i 4) rfl ?_
      refine r_goto iL_law_885 ?_
      exact ih (i + 4) (by omega) (by omega) h' z HR'
    refine r_iload iL_law_18 rfl ?_
    refine r_aload iL_law_19 rfl ?_
    refine r_arraylength iL_law_20 (hs) rfl ?_
    refine r_iconst (v := 4) iL_law_21 rfl ?_
    refine r_isub iL_law_22 ?_
    refine r_icmp_gt iL_law_23 (fun g9 => absurd g9 ((fun q => absurd ((lw_end hL hi).mp q) (by omega)))) (fun _ => ?_)
    refine r_aload iL_law_26 rfl ?_
    refine r_iload iL_law_27 rfl ?_
    refine r_iaload iL_law_28 (hs) (vp_in_nI (by omega) (by omega)) ((show (fun j => Value.int (xs j)) (nI i).toNatClampNeg = .int (xs i) by rw [nI_clamp (by omega)])) ?_
    refine r_bipush (v := 31) iL_law_29 rfl ?_
    refine r_iand iL_law_31 ?_
    obtain ⟨m, hm, em⟩ := and31 (xs i)
    rw [em]
    by_cases g : m < 23
    case neg =>
      refine r_tabOut (tgt := 882) iL_law_32 (Or.inr ?_) rfl ?_
      · have e : ∀ m, m < 32 → ¬ m < 23 → (22 : Int) < (nI m).toInt := by decide
        exact e m hm g
      exact K h HR
    match m, g with
    | 0, _ =>
      refine r_tabIn (tgt := 140) iL_law_32 (by decide) (by decide) rfl rfl ?_
      exact lw_write hL c HR K
    | 1, _ =>
      refine r_tabIn (tgt := 203) iL_law_32 (by decide) (by decide) rfl rfl ?_
      exact lw_wipe hL c HR K
    | 2, _ =>
      refine r_tabIn (tgt := 216) iL_law_32 (by decide) (by decide) rfl rfl ?_
      exact lw_fault hL c HR K
    | 3, _ =>
      refine r_tabIn (tgt := 229) iL_law_32 (by decide) (by decide) rfl rfl ?_
      exact lw_field hL c HR K
    | 4, _ =>
      refine r_tabIn (tgt := 242) iL_law_32 (by decide) (by decide) rfl rfl ?_
      exact lw_thrower hL c HR K
    | 5, _ =>
      refine r_tabIn (tgt := 275) iL_law_32 (by decide) (by decide) rfl rfl ?_
      exact lw_on hL c HR K
    | 6, _ =>
      refine r_tabIn (tgt := 288) iL_law_32 (by decide) (by decide) rfl rfl ?_
      exact lw_rank hL c HR K
    | 7, _ =>
      refine r_tabIn (tgt := 311) iL_law_32 (by decide) (by decide) rfl rfl ?_
      exact lw_odds hL c HR K
    | 8, _ =>
      refine r_tabIn (tgt := 344) iL_law_32 (by decide) (by decide) rfl rfl ?_
      exact lw_toss hL c HR K
    | 9, _ =>
      refine r_tabIn (tgt := 383) iL_law_32 (by decide) (by decide) rfl rfl ?_
      exact lw_spare hL c HR K
    | 10, _ =>
      refine r_tabIn (tgt := 396) iL_law_32 (by decide) (by decide) rfl rfl ?_
      exact lw_undo hL c HR K
    | 11, _ =>
      refine r_tabIn (tgt := 409) iL_law_32 (by decide) (by decide) rfl rfl ?_
      exact lw_judge hL c HR K
    | 12, _ =>
      refine r_tabIn (tgt := 442) iL_law_32 (by decide) (by decide) rfl rfl ?_
      exact lw_clears hL c HR K
    | 13, _ =>
      refine r_tabIn (tgt := 491) iL_law_32 (by decide) (by decide) rfl rfl ?_
      exact lw_mean hL c HR K
    | 14, _ =>
      refine r_tabIn (tgt := 551) iL_law_32 (by decide) (by decide) rfl rfl ?_
      exact lw_wise hL c HR K
    | 15, _ =>
      refine r_tabIn (tgt := 584) iL_law_32 (by decide) (by decide) rfl rfl ?_
      exact lw_first hL c HR K
    | 16, _ =>
      refine r_tabIn (tgt := 644) iL_law_32 (by decide) (by decide) rfl rfl ?_
      exact lw_alone hL c HR K
    | 17, _ =>
      refine r_tabIn (tgt := 703) iL_law_32 (by decide) (by decide) rfl rfl ?_
      exact lw_sheets hL c HR K
    | 18, _ =>
      refine r_tabIn (tgt := 746) iL_law_32 (by decide) (by decide) rfl rfl ?_
      exact lw_seed hL c HR K
    | 19, _ =>
      refine r_tabIn (tgt := 800) iL_law_32 (by decide) (by decide) rfl rfl ?_
      exact lw_fair hL c HR K
    | 20, _ =>
      refine r_tabIn (tgt := 813) iL_law_32 (by decide) (by decide) rfl rfl ?_
      exact lw_keep hL c HR K
    | 21, _ =>
      refine r_tabIn (tgt := 836) iL_law_32 (by decide) (by decide) rfl rfl ?_
      exact lw_again hL c HR K
    | 22, _ =>
      refine r_tabIn (tgt := 859) iL_law_32 (by decide) (by decide) rfl rfl ?_
      exact lw_count hL c HR K
    | m + 23, g => exact absurd g (by omega)
theorem Rel_start {L : Nat} {xs : Nat → Int32} {h h1 : Hp} {W sl : Nat → Cn} (h0 : h 0 = some (scr L xs)) (hT : tenAt h) (hc : cls h1 (0, fun _ => 0) K0 0 0 W sl (fun _ => 0) 0) (ho : ∀ a, a < 2 → h1 a = h a) : Rel (scr L xs) (mOv h1 s0) := by
  refine ⟨0, fun _ => 0, K0, 0, 0, W, sl, fun _ => 0, 0, s0, hc.kept (fun a b c => mOv_out _ _ (by omega)), mAt_ov _ _, (mOv_out _ _ (by omega)).trans ((ho 0 (by omega)).trans h0), (mOv_out _ _ (by omega)).trans ((ho 1 (by omega)).trans hT), 0, by omega, by omega, by omega, by omega, (show (0 : Nat) ≤ 4 by omega), rfl, rfl, rfl, rfl, rfl, rfl, fun _ _ => rfl, ?_, fun d hd => absurd hd (Nat.not_lt_zero _), fun j hj hk => absurd rfl hk⟩
  exact ⟨0, -9, fun _ => kStart 0 1, rfl, ⟨(show (0 : Nat) ≤ 4 by omega), by omega, Or.inl rfl, fun i hi => absurd hi (Nat.not_lt_zero _)⟩, rfl, rfl, fun i hi => absurd hi (Nat.not_lt_zero _)⟩
/-- the law, from its entry: it ends, and answers 1 -/
theorem law_body {L : Nat} {xs : Nat → Int32} {h : Hp} (hL : L ≤ 256) (h0 : h 0 = some (scr L xs)) (hT : tenAt h) : R ML_law 100 161 3865 (fun v _ _ => v = some (.int 1)) 0 [.ref 0, .null, .null, .null] [] h 2 0 0 := by
  refine r_new (ci := 5) (fs := [.null, .null, .null, .null, .null, .null, .null, .null, .long 0]) iL_law_0 rfl neww_L_X6 tyX6_ok rfl (by first | exact Nat.le_of_ble_eq_true rfl | omega) (by first | exact Nat.le_of_ble_eq_true rfl | omega) ?_
  refine r_dup iL_law_3 rfl ?_
  refine r_callI iL_law_4 (cL_9 _ rfl) (c6_init h) (by omega) rfl rfl (Nat.le_of_ble_eq_true rfl) (by first | exact Nat.le_of_ble_eq_true rfl | omega) (by first | exact Nat.le_of_ble_eq_true rfl | omega) ?_
  rintro v h1 z1 ⟨rfl, rfl, ⟨W, sl, hc⟩, ho⟩
  refine r_astore_1 iL_law_7 rfl ?_
  refine r_new (ci := 6) (fs := [.int 0, .null, .null, .null, .int 0, .null, .int 0, .int 0, .null, .null, .long 0, .long 0, .null, .null, .long 0, .null, .null]) iL_law_8 rfl neww_L_X7 tyX7_ok rfl (by first | exact Nat.le_of_ble_eq_true rfl | omega) (by first | exact Nat.le_of_ble_eq_true rfl | omega) ?_
  refine r_dup iL_law_11 rfl ?_
  refine r_callI iL_law_12 (cL_12 _ rfl) (c7_init h1) (by omega) rfl rfl (Nat.le_of_ble_eq_true rfl) (by first | exact Nat.le_of_ble_eq_true rfl | omega) (by first | exact Nat.le_of_ble_eq_true rfl | omega) ?_
  rintro v h2 z2 ⟨rfl, rfl, rfl⟩
  refine r_astore_2 iL_law_15 rfl ?_
  refine r_iconst (v := 0) iL_law_16 rfl ?_
  refine r_istore_3 iL_law_17 rfl ?_
  exact law_loop hL (L + 1) 0 (by omega) (by omega) _ _ (Rel_start h0 hT hc (fun a ha => ho a (Or.inl ha)))
