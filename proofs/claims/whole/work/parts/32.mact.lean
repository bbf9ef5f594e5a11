/-! the model's odds, turns and acts -/
theorem c7_oddsOf (h : Hp) (I : Nat → Int32) (J : Nat → Int64) {A : Nat → Nat → Int32} (me : Nat → Int64) {k : Nat → Int32} {i : Nat} (hi : i < 4) (h0 : A 0 i = k 0) (h1 : A 1 i = k 1) (hw : 0 < k 1) (height more x : Int32) (hx : x = k 2 + more) : Fn MX7_oddsOf 0 [.ref 152, .int (nI i), .int height, .int x] (mOv h (I, J, A, me)) (some (.int (kOdds k height more))) := by
  intro z
  subst hx
  refine Cal_of_R (by decide +kernel) (L := [.ref 152, .int (nI i), .int height, .int (k 2 + more), .null]) rfl (Nat.le_of_ble_eq_true rfl) ?_
  refine r_bipush (v := 9) iX7_oddsOf_0 rfl ?_
  refine r_aload iX7_oddsOf_2 rfl ?_
  refine r_gstrength iX7_oddsOf_3 (flX7_7 _ rfl) ?_
  refine r_iload iX7_oddsOf_6 rfl ?_
  refine r_ld0 iX7_oddsOf_7 rfl (by omega) ?_
  rw [h0]
  refine r_iadd iX7_oddsOf_8 ?_
  refine r_iload iX7_oddsOf_9 rfl ?_
  refine r_isub iX7_oddsOf_10 ?_
  refine r_iload iX7_oddsOf_11 rfl ?_
  refine r_aload iX7_oddsOf_12 rfl ?_
  refine r_gwind iX7_oddsOf_13 (flX7_13 _ rfl) ?_
  refine r_iload iX7_oddsOf_16 rfl ?_
  refine r_ld1 iX7_oddsOf_17 rfl (by omega) ?_
  rw [h1]
  refine r_idiv iX7_oddsOf_18 (fun q => absurd (q ▸ hw) (by decide)) ?_
  refine r_isub iX7_oddsOf_19 ?_
  refine r_istore_4 iX7_oddsOf_20 rfl ?_
  have e : kOdds k height more = imax 0 (imin 9 (9 + k 0 - height - (k 2 + more) / k 1)) := by unfold kOdds kTired; rw [if_pos hw]
  generalize 9 + k 0 - height - (k 2 + more) / k 1 = o at e ⊢
  by_cases g1 : o < 0
  · refine r_iload iX7_oddsOf_22 rfl ?_
    refine r_if_ge iX7_oddsOf_24 (fun g9 => absurd g9 (Int32.not_le.mpr g1)) (fun _ => ?_)
    refine r_iconst (v := 0) iX7_oddsOf_27 rfl ?_
    refine r_goto iX7_oddsOf_28 ?_
    refine r_iret iX7_oddsOf_45 rfl ?_
    refine ⟨?_, rfl, rfl⟩
    rw [e, imin, if_pos (Int32.lt_trans g1 (by decide)), imax, if_neg (fun q => Int32.lt_irrefl (Int32.lt_trans q g1))]
  · by_cases g2 : o ≤ 9
    · refine r_iload iX7_oddsOf_22 rfl ?_
      refine r_if_ge iX7_oddsOf_24 (fun _ => ?_) (fun g9 => absurd (Int32.not_lt.mp g1) g9)
      refine r_iload iX7_oddsOf_31 rfl ?_
      refine r_bipush (v := 9) iX7_oddsOf_33 rfl ?_
      refine r_icmp_le iX7_oddsOf_35 (fun _ => ?_) (fun g9 => absurd (g2) g9)
      refine r_iload iX7_oddsOf_43 rfl ?_
      refine r_iret iX7_oddsOf_45 rfl ?_
      refine ⟨?_, rfl, rfl⟩
      rw [e, imin]
      by_cases g3 : o < 9
      · rw [if_pos g3, imax]
        by_cases g4 : 0 < o
        · rw [if_pos g4]
        · rw [if_neg g4, Int32.le_antisymm (Int32.not_lt.mp g4) (Int32.not_lt.mp g1)]
      · rw [if_neg g3, Int32.le_antisymm g2 (Int32.not_lt.mp g3)]; rfl
    · refine r_iload iX7_oddsOf_22 rfl ?_
      refine r_if_ge iX7_oddsOf_24 (fun _ => ?_) (fun g9 => absurd (Int32.not_lt.mp g1) g9)
      refine r_iload iX7_oddsOf_31 rfl ?_
      refine r_bipush (v := 9) iX7_oddsOf_33 rfl ?_
      refine r_icmp_le iX7_oddsOf_35 (fun g9 => absurd g9 (g2)) (fun _ => ?_)
      refine r_bipush (v := 9) iX7_oddsOf_38 rfl ?_
      refine r_goto iX7_oddsOf_40 ?_
      refine r_iret iX7_oddsOf_45 rfl ?_
      refine ⟨?_, rfl, rfl⟩
      rw [e, imin, if_neg (fun q => g2 (Int32.le_of_lt q))]; rfl
theorem c7_odds_unk (h : Hp) {I : Nat → Int32} (J : Nat → Int64) (A : Nat → Nat → Int32) (me : Nat → Int64) {n : Nat} (hn : n ≤ 4) (h0 : I 0 = nI n) {x : Int32} (y : Int32) (hx : ¬ (0 ≤ x ∧ x < nI n)) : Fn MX7_odds 3 [.ref 152, .int x, .int y] (mOv h (I, J, A, me)) (some (.int (-1))) := by
  intro z
  refine Cal_of_R (by decide +kernel) (L := [.ref 152, .int x, .int y]) rfl (Nat.le_of_ble_eq_true rfl) ?_
  refine r_aload iX7_odds_0 rfl ?_
  refine r_iload iX7_odds_1 rfl ?_
  refine r_callV iX7_odds_2 (cX7_74 _ rfl) (c7_isThrower h J A me hn h0 x _) (by omega) (mOv_obj _ _) rfl rfl rfl (Nat.le_of_ble_eq_true rfl) (by first | exact Nat.le_of_ble_eq_true rfl | omega) (by first | exact Nat.le_of_ble_eq_true rfl | omega) ?_
  rintro v h' z' ⟨rfl, rfl, rfl⟩
  rw [if_neg hx]
  refine r_if_ne iX7_odds_5 (fun g9 => absurd (rfl) g9) (fun _ => ?_)
  refine r_iconst (v := (-1)) iX7_odds_8 rfl ?_
  refine r_iret iX7_odds_9 rfl ?_
  exact ⟨rfl, rfl, rfl⟩
theorem c7_odds_out (h : Hp) {I : Nat → Int32} (J : Nat → Int64) (A : Nat → Nat → Int32) (me : Nat → Int64) {n : Nat} (hn : n ≤ 4) (h0 : I 0 = nI n) {i : Nat} (hi : i < n) {y : Int32} (hy : y < 0 ∨ 11 < y) : Fn MX7_odds 3 [.ref 152, .int (nI i), .int y] (mOv h (I, J, A, me)) (some (.int (-2))) := by
  intro z
  refine Cal_of_R (by decide +kernel) (L := [.ref 152, .int (nI i), .int y]) rfl (Nat.le_of_ble_eq_true rfl) ?_
  refine r_aload iX7_odds_0 rfl ?_
  refine r_iload iX7_odds_1 rfl ?_
  refine r_callV iX7_odds_2 (cX7_74 _ rfl) (c7_isThrower h J A me hn h0 (nI i) _) (by omega) (mOv_obj _ _) rfl rfl rfl (Nat.le_of_ble_eq_true rfl) (by first | exact Nat.le_of_ble_eq_true rfl | omega) (by first | exact Nat.le_of_ble_eq_true rfl | omega) ?_
  rintro v h' z' ⟨rfl, rfl, rfl⟩
  rw [i_ks hn hi]
  refine r_if_ne iX7_odds_5 (fun _ => ?_) (fun g9 => absurd g9 (by decide))
  refine r_iload iX7_odds_10 rfl ?_
  refine r_i2l iX7_odds_11 ?_
  refine r_lconst (v := 0) iX7_odds_12 rfl ?_
  refine r_ldc2 (v := 11) iX7_odds_13 (gt_3 125 rfl rfl) ?_
  refine r_callS iX7_odds_16 (cX7_44 _ rfl) (c7_inE _ (x := y) (lo := 0) (hi := 11) rfl rfl rfl _) (by omega) rfl rfl (Nat.le_of_ble_eq_true rfl) (by first | exact Nat.le_of_ble_eq_true rfl | omega) (by first | exact Nat.le_of_ble_eq_true rfl | omega) ?_
  rintro v h' z' ⟨rfl, rfl, rfl⟩
  rw [if_neg (show ¬ (0 ≤ y ∧ y ≤ 11) from fun q => hy.elim (fun r => absurd q.1 (Int32.not_le.mpr r)) (fun r => absurd q.2 (Int32.not_le.mpr r)))]
  refine r_if_eq iX7_odds_19 (fun _ => ?_) (fun g9 => absurd (rfl) g9)
  refine r_bipush (v := (-2)) iX7_odds_38 rfl ?_
  refine r_iret iX7_odds_40 rfl ?_
  exact ⟨rfl, rfl, rfl⟩
theorem c7_odds (h : Hp) {I : Nat → Int32} (J : Nat → Int64) {A : Nat → Nat → Int32} (me : Nat → Int64) {n : Nat} (hn : n ≤ 4) (h0 : I 0 = nI n) {b u : Int32} {t : Nat → Nat → Int32} (H : En A 0 n b u t) {i : Nat} (hi : i < n) (hw1 : 0 < t i 1) {w : Nat} (hw : w ≤ 11) : Fn MX7_odds 3 [.ref 152, .int (nI i), .int (nI w)] (mOv h (I, J, A, me)) (some (.int (kOdds (t i) (nI w) 0))) := by
  intro z
  refine Cal_of_R (by decide +kernel) (L := [.ref 152, .int (nI i), .int (nI w)]) rfl (Nat.le_of_ble_eq_true rfl) ?_
  refine r_aload iX7_odds_0 rfl ?_
  refine r_iload iX7_odds_1 rfl ?_
  refine r_callV iX7_odds_2 (cX7_74 _ rfl) (c7_isThrower h J A me hn h0 (nI i) _) (by omega) (mOv_obj _ _) rfl rfl rfl (Nat.le_of_ble_eq_true rfl) (by first | exact Nat.le_of_ble_eq_true rfl | omega) (by first | exact Nat.le_of_ble_eq_true rfl | omega) ?_
  rintro v h' z' ⟨rfl, rfl, rfl⟩
  rw [i_ks hn hi]
  refine r_if_ne iX7_odds_5 (fun _ => ?_) (fun g9 => absurd g9 (by decide))
  refine r_iload iX7_odds_10 rfl ?_
  refine r_i2l iX7_odds_11 ?_
  refine r_lconst (v := 0) iX7_odds_12 rfl ?_
  refine r_ldc2 (v := 11) iX7_odds_13 (gt_3 125 rfl rfl) ?_
  refine r_callS iX7_odds_16 (cX7_44 _ rfl) (c7_inE _ (x := nI w) (lo := 0) (hi := 11) rfl rfl rfl _) (by omega) rfl rfl (Nat.le_of_ble_eq_true rfl) (by first | exact Nat.le_of_ble_eq_true rfl | omega) (by first | exact Nat.le_of_ble_eq_true rfl | omega) ?_
  rintro v h' z' ⟨rfl, rfl, rfl⟩
  rw [if_pos (show (0 : Int32) ≤ nI w ∧ nI w ≤ 11 from ⟨nI_pos' (by omega), nI_le (b := 11) hw (by omega)⟩)]
  refine r_if_eq iX7_odds_19 (fun g9 => absurd g9 (by decide)) (fun _ => ?_)
  refine r_aload iX7_odds_22 rfl ?_
  refine r_iload iX7_odds_23 rfl ?_
  refine r_iload iX7_odds_24 rfl ?_
  refine r_aload iX7_odds_25 rfl ?_
  refine r_iconst (v := 0) iX7_odds_26 rfl ?_
  refine r_iload iX7_odds_27 rfl ?_
  refine r_iconst (v := 0) iX7_odds_28 rfl ?_
  refine r_callV iX7_odds_29 (cX7_77 _ rfl) (c7_mark h I J A me (l := 0) (by omega) (t := i) (by omega) (w := 0) (by omega) _) (by omega) (mOv_obj _ _) rfl rfl rfl (Nat.le_of_ble_eq_true rfl) (by first | exact Nat.le_of_ble_eq_true rfl | omega) (by first | exact Nat.le_of_ble_eq_true rfl | omega) ?_
  rintro v h' z' ⟨rfl, rfl, rfl⟩
  rw [H.mk hi (by omega)]
  refine r_callV iX7_odds_32 (cX7_94 _ rfl) (c7_oddsOf h I J me (k := t i) (i := i) (by omega) (H.2.2 i hi).1.symm (H.2.2 i hi).2.1.symm hw1 (nI w) 0 _ (Int32.add_zero _).symm _) (by omega) (mOv_obj _ _) rfl rfl rfl (Nat.le_of_ble_eq_true rfl) (by first | exact Nat.le_of_ble_eq_true rfl | omega) (by first | exact Nat.le_of_ble_eq_true rfl | omega) ?_
  rintro v h' z' ⟨rfl, rfl, rfl⟩
  refine r_goto iX7_odds_35 ?_
  refine r_iret iX7_odds_40 rfl ?_
  exact ⟨rfl, rfl, rfl⟩
theorem c7_thrower_unk (h : Hp) {I : Nat → Int32} (J : Nat → Int64) (A : Nat → Nat → Int32) (me : Nat → Int64) {n : Nat} (hn : n ≤ 4) (h0 : I 0 = nI n) {x : Int32} (y : Int32) (hx : ¬ (0 ≤ x ∧ x < nI n)) : Fn MX7_thrower 2 [.ref 152, .int x, .int y] (mOv h (I, J, A, me)) (some (.int (-1))) := by
  intro z
  refine Cal_of_R (by decide +kernel) (L := [.ref 152, .int x, .int y]) rfl (Nat.le_of_ble_eq_true rfl) ?_
  refine r_aload iX7_thrower_0 rfl ?_
  refine r_iload iX7_thrower_1 rfl ?_
  refine r_callV iX7_thrower_2 (cX7_74 _ rfl) (c7_isThrower h J A me hn h0 x _) (by omega) (mOv_obj _ _) rfl rfl rfl (Nat.le_of_ble_eq_true rfl) (by first | exact Nat.le_of_ble_eq_true rfl | omega) (by first | exact Nat.le_of_ble_eq_true rfl | omega) ?_
  rintro v h' z' ⟨rfl, rfl, rfl⟩
  rw [if_neg hx]
  refine r_if_ne iX7_thrower_5 (fun g9 => absurd (rfl) g9) (fun _ => ?_)
  refine r_iconst (v := (-1)) iX7_thrower_8 rfl ?_
  refine r_iret iX7_thrower_9 rfl ?_
  exact ⟨rfl, rfl, rfl⟩
theorem c7_thrower_out (h : Hp) {I : Nat → Int32} (J : Nat → Int64) (A : Nat → Nat → Int32) (me : Nat → Int64) {n : Nat} (hn : n ≤ 4) (h0 : I 0 = nI n) {i : Nat} (hi : i < n) {y : Int32} (hy : y < 0 ∨ 8 < y) : Fn MX7_thrower 2 [.ref 152, .int (nI i), .int y] (mOv h (I, J, A, me)) (some (.int (-2))) := by
  intro z
  refine Cal_of_R (by decide +kernel) (L := [.ref 152, .int (nI i), .int y]) rfl (Nat.le_of_ble_eq_true rfl) ?_
  refine r_aload iX7_thrower_0 rfl ?_
  refine r_iload iX7_thrower_1 rfl ?_
  refine r_callV iX7_thrower_2 (cX7_74 _ rfl) (c7_isThrower h J A me hn h0 (nI i) _) (by omega) (mOv_obj _ _) rfl rfl rfl (Nat.le_of_ble_eq_true rfl) (by first | exact Nat.le_of_ble_eq_true rfl | omega) (by first | exact Nat.le_of_ble_eq_true rfl | omega) ?_
  rintro v h' z' ⟨rfl, rfl, rfl⟩
  rw [i_ks hn hi]
  have hy2 : y.toInt < 0 ∨ (8 : Int) < y.toInt := hy.elim (fun q => Or.inl (by rw [Int32.lt_iff_toInt_lt] at q; exact q)) (fun q => Or.inr (by rw [Int32.lt_iff_toInt_lt] at q; exact q))
  refine r_if_ne iX7_thrower_5 (fun _ => ?_) (fun g9 => absurd g9 (by decide))
  refine r_iload iX7_thrower_10 rfl ?_
  refine r_tabOut (tgt := 84) iX7_thrower_11 (hy2) rfl ?_
  refine r_bipush (v := (-2)) iX7_thrower_84 rfl ?_
  refine r_iret iX7_thrower_86 rfl ?_
  exact ⟨rfl, rfl, rfl⟩
theorem c7_thrower (h : Hp) {I : Nat → Int32} (J : Nat → Int64) {A : Nat → Nat → Int32} (me : Nat → Int64) {n : Nat} (hn : n ≤ 4) (h0 : I 0 = nI n) {b u : Int32} {t : Nat → Nat → Int32} (H : En A 0 n b u t) {i : Nat} (hi : i < n) {w : Nat} (hw : w < 9) : Fn MX7_thrower 2 [.ref 152, .int (nI i), .int (nI w)] (mOv h (I, J, A, me)) (some (.int (t i w))) := by
  intro z
  refine Cal_of_R (by decide +kernel) (L := [.ref 152, .int (nI i), .int (nI w)]) rfl (Nat.le_of_ble_eq_true rfl) ?_
  refine r_aload iX7_thrower_0 rfl ?_
  refine r_iload iX7_thrower_1 rfl ?_
  refine r_callV iX7_thrower_2 (cX7_74 _ rfl) (c7_isThrower h J A me hn h0 (nI i) _) (by omega) (mOv_obj _ _) rfl rfl rfl (Nat.le_of_ble_eq_true rfl) (by first | exact Nat.le_of_ble_eq_true rfl | omega) (by first | exact Nat.le_of_ble_eq_true rfl | omega) ?_
  rintro v h' z' ⟨rfl, rfl, rfl⟩
  rw [i_ks hn hi]
  refine r_if_ne iX7_thrower_5 (fun _ => ?_) (fun g9 => absurd g9 (by decide))
  refine r_iload iX7_thrower_10 rfl ?_
  by_cases g0 : w = 0
  · subst g0
    refine r_tabIn (tgt := 60) iX7_thrower_11 (by decide) (by decide) rfl rfl ?_
    refine r_aload iX7_thrower_60 rfl ?_
    refine r_gstrength iX7_thrower_61 (flX7_7 _ rfl) ?_
    refine r_iload iX7_thrower_64 rfl ?_
    refine r_ld0 iX7_thrower_65 rfl (by omega) ?_
    refine r_iret iX7_thrower_66 rfl ?_
    exact ⟨by rw [(H.2.2 i hi).1], rfl, rfl⟩
  by_cases g1 : w = 1
  · subst g1
    refine r_tabIn (tgt := 67) iX7_thrower_11 (by decide) (by decide) rfl rfl ?_
    refine r_aload iX7_thrower_67 rfl ?_
    refine r_gwind iX7_thrower_68 (flX7_13 _ rfl) ?_
    refine r_iload iX7_thrower_71 rfl ?_
    refine r_ld1 iX7_thrower_72 rfl (by omega) ?_
    refine r_iret iX7_thrower_73 rfl ?_
    exact ⟨by rw [(H.2.2 i hi).2.1], rfl, rfl⟩
  have fin : ∀ v, v + 2 = w → v < 7 → R MX7_thrower 2 0 0 (fun v h' z'_1 => v = some (.int (t i w)) ∧ h' = mOv h (I, J, A, me) ∧ z'_1 = z') 74 [.ref 152, .int (nI i), .int (nI w)] [] (mOv h (I, J, A, me)) z' 0 0 := by
    intro v hv hv7
    refine r_aload iX7_thrower_74 rfl ?_
    refine r_iconst (v := 0) iX7_thrower_75 rfl ?_
    refine r_iload iX7_thrower_76 rfl ?_
    refine r_iload iX7_thrower_77 rfl ?_
    refine r_iconst (v := 2) iX7_thrower_78 rfl ?_
    refine r_isub iX7_thrower_79 ?_
    rw [show nI w - 2 = nI v by rw [← hv]; exact (nI_sub (a := v + 2) (b := 2) (by omega)).trans (by rw [Nat.add_sub_cancel])]
    refine r_callV iX7_thrower_80 (cX7_77 _ rfl) (c7_mark h I J A me (l := 0) (by omega) (t := i) (by omega) (w := v) hv7 _) (by omega) (mOv_obj _ _) rfl rfl rfl (Nat.le_of_ble_eq_true rfl) (by first | exact Nat.le_of_ble_eq_true rfl | omega) (by first | exact Nat.le_of_ble_eq_true rfl | omega) ?_
    rintro v' h' z' ⟨rfl, rfl, rfl⟩
    refine r_iret iX7_thrower_83 rfl ?_
    exact ⟨by rw [H.mk hi hv7, hv], rfl, rfl⟩
  match w, hw, g0, g1 with
  | 2, _, _, _ =>
    refine r_tabIn (tgt := 74) iX7_thrower_11 (by decide) (by decide) rfl rfl ?_
    exact fin 0 rfl (by omega)
  | 3, _, _, _ =>
    refine r_tabIn (tgt := 74) iX7_thrower_11 (by decide) (by decide) rfl rfl ?_
    exact fin 1 rfl (by omega)
  | 4, _, _, _ =>
    refine r_tabIn (tgt := 74) iX7_thrower_11 (by decide) (by decide) rfl rfl ?_
    exact fin 2 rfl (by omega)
  | 5, _, _, _ =>
    refine r_tabIn (tgt := 74) iX7_thrower_11 (by decide) (by decide) rfl rfl ?_
    exact fin 3 rfl (by omega)
  | 6, _, _, _ =>
    refine r_tabIn (tgt := 74) iX7_thrower_11 (by decide) (by decide) rfl rfl ?_
    exact fin 4 rfl (by omega)
  | 7, _, _, _ =>
    refine r_tabIn (tgt := 74) iX7_thrower_11 (by decide) (by decide) rfl rfl ?_
    exact fin 5 rfl (by omega)
  | 8, _, _, _ =>
    refine r_tabIn (tgt := 74) iX7_thrower_11 (by decide) (by decide) rfl rfl ?_
    exact fin 6 rfl (by omega)
