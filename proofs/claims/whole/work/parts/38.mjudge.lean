/-! the model judges, and plays fairly -/
theorem c7_tenTo (h : Hp) (m : Nat) (hm : m ≤ 100) : Fn MX7_tenTo 0 [.int (nI m)] h (some (.long (lN (10 ^ m)))) := by
  intro z
  refine Cal_of_R (by decide +kernel) (L := [.int (nI m), .null, .null, .null]) rfl (Nat.le_of_ble_eq_true rfl) ?_
  have loop : ∀ (j p : Nat), p + j = m → R MX7_tenTo 0 0 0 (fun v h' z' => v = some (.long (lN (10 ^ m))) ∧ h' = h ∧ z' = z) 4 [.int (nI m), .long (lN (10 ^ p)), .null, .int (nI p)] [] h z 0 0 := by
    intro j
    induction j with
    | zero =>
      intro p hp
      obtain rfl : p = m := by omega
      refine r_iload iX7_tenTo_4 rfl ?_
      refine r_iload iX7_tenTo_5 rfl ?_
      refine r_icmp_ge iX7_tenTo_6 (fun _ => ?_) (fun g9 => absurd (nI_le (by omega) (by omega)) g9)
      refine r_lload iX7_tenTo_21 rfl ?_
      refine r_lret iX7_tenTo_22 rfl ?_
      exact ⟨rfl, rfl, rfl⟩
    | succ j ih =>
      intro p hp
      refine r_iload iX7_tenTo_4 rfl ?_
      refine r_iload iX7_tenTo_5 rfl ?_
      refine r_icmp_ge iX7_tenTo_6 (fun g9 => absurd g9 (nI_ge (by omega) (by omega))) (fun _ => ?_)
      refine r_lload iX7_tenTo_9 rfl ?_
      refine r_ldc2 (v := 10) iX7_tenTo_10 (gt_3 173 rfl rfl) ?_
      refine r_lmul iX7_tenTo_13 ?_
      rw [show lN (10 ^ p) * 10 = lN (10 ^ (p + 1)) from (lN_mul (10 ^ p) 10).trans (congrArg lN (Nat.pow_succ ..).symm)]
      refine r_lstore_1 iX7_tenTo_14 rfl ?_
      refine r_iinc_3 iX7_tenTo_15 (by first | exact nI_inc _ | rfl) rfl ?_
      refine r_goto iX7_tenTo_18 ?_
      exact ih (p + 1) (by omega)
  refine r_lconst (v := 1) iX7_tenTo_0 rfl ?_
  refine r_lstore_1 iX7_tenTo_1 rfl ?_
  refine r_iconst (v := 0) iX7_tenTo_2 rfl ?_
  refine r_istore_3 iX7_tenTo_3 rfl ?_
  exact loop m 0 (by omega)
theorem En_copy {A : Nat → Nat → Int32} {n : Nat} {b u : Int32} {t : Nat → Nat → Int32} (H : En A 0 n b u t) (hn : n ≤ 4) : En (stA A 3 (cpy (A 3) (A 3) 30 0 30)) 1 n b u t := (show EnG (A 0) (A 1) (A 3) 0 n b u t from En_G.mp H).copied (d := 30) hn
theorem fr_copy (A : Nat → Nat → Int32) : fr 1 A (stA A 3 (cpy (A 3) (A 3) 30 0 30)) := ⟨fun k hk => stA_ne hk, fun q hq => by rw [stA_eq]; exact cpy_out _ _ (by omega)⟩
theorem c7_judge_n (h : Hp) (s : Ms) (x r : Int32) (hx : x < 1 ∨ 8 < x) : Fn MX7_judge 5 [.ref 152, .int x, .int r] (mOv h s) (some (.int (-2))) := by
  intro z
  refine Cal_of_R (by decide +kernel) (L := [.ref 152, .int x, .int r, .null, .null]) rfl (Nat.le_of_ble_eq_true rfl) ?_
  refine r_iload iX7_judge_0 rfl ?_
  refine r_i2l iX7_judge_1 ?_
  refine r_lconst (v := 1) iX7_judge_2 rfl ?_
  refine r_ldc2 (v := 8) iX7_judge_3 (gt_3 64 rfl rfl) ?_
  refine r_callS iX7_judge_6 (cX7_44 _ rfl) (c7_inE _ (x := x) (lo := 1) (hi := 8) rfl rfl rfl _) (by omega) rfl rfl (Nat.le_of_ble_eq_true rfl) (by first | exact Nat.le_of_ble_eq_true rfl | omega) (by first | exact Nat.le_of_ble_eq_true rfl | omega) ?_
  rintro v h' z' ⟨rfl, rfl, rfl⟩
  rw [if_neg (show ¬ (1 ≤ x ∧ x ≤ 8) from fun q => hx.elim (fun r => absurd q.1 (Int32.not_le.mpr r)) (fun r => absurd q.2 (Int32.not_le.mpr r)))]
  refine r_if_eq iX7_judge_9 (fun _ => ?_) (fun g9 => absurd (rfl) g9)
  refine r_bipush (v := (-2)) iX7_judge_27 rfl ?_
  refine r_iret iX7_judge_29 rfl ?_
  exact ⟨rfl, rfl, rfl⟩
theorem judge_in (h : Hp) (s : Ms) {Q : Option Value → Hp → Nat → Prop} {m : Nat} (h1 : 1 ≤ m) (h8 : m ≤ 8) (r : Int32) (z : Nat) (K : R MX7_judge 5 0 0 Q 24 [.ref 152, .int (nI m), .int r, .null, .null] [.int (if 0 ≤ r.toInt64 ∧ r.toInt64 ≤ lN (10 ^ m - 1) then 1 else 0)] (mOv h s) z 0 0) : R MX7_judge 5 0 0 Q 0 [.ref 152, .int (nI m), .int r, .null, .null] [] (mOv h s) z 0 0 := by
  refine r_iload iX7_judge_0 rfl ?_
  refine r_i2l iX7_judge_1 ?_
  refine r_lconst (v := 1) iX7_judge_2 rfl ?_
  refine r_ldc2 (v := 8) iX7_judge_3 (gt_3 64 rfl rfl) ?_
  refine r_callS iX7_judge_6 (cX7_44 _ rfl) (c7_inE _ (x := nI m) (lo := 1) (hi := 8) rfl rfl rfl _) (by omega) rfl rfl (Nat.le_of_ble_eq_true rfl) (by first | exact Nat.le_of_ble_eq_true rfl | omega) (by first | exact Nat.le_of_ble_eq_true rfl | omega) ?_
  rintro v h' z' ⟨rfl, rfl, rfl⟩
  rw [if_pos (show (1 : Int32) ≤ nI m ∧ nI m ≤ 8 from ⟨nI_le (a := 1) h1 (by omega), nI_le (b := 8) h8 (by omega)⟩)]
  refine r_if_eq iX7_judge_9 (fun g9 => absurd g9 (by decide)) (fun _ => ?_)
  refine r_iload iX7_judge_12 rfl ?_
  refine r_i2l iX7_judge_13 ?_
  refine r_lconst (v := 0) iX7_judge_14 rfl ?_
  refine r_iload iX7_judge_15 rfl ?_
  refine r_callS iX7_judge_16 (cX7_124 _ rfl) (c7_tenTo _ m (by omega) _) (by omega) rfl rfl (Nat.le_of_ble_eq_true rfl) (by first | exact Nat.le_of_ble_eq_true rfl | omega) (by first | exact Nat.le_of_ble_eq_true rfl | omega) ?_
  rintro v h' z' ⟨rfl, rfl, rfl⟩
  refine r_lconst (v := 1) iX7_judge_19 rfl ?_
  refine r_lsub iX7_judge_20 ?_
  rw [show lN (10 ^ m) - 1 = lN (10 ^ m - 1) from lN_sub (b := 1) (Nat.pow_pos (by decide))]
  refine r_callS iX7_judge_21 (cX7_44 _ rfl) (c7_in _ _ _ _ _) (by omega) rfl rfl (Nat.le_of_ble_eq_true rfl) (by first | exact Nat.le_of_ble_eq_true rfl | omega) (by first | exact Nat.le_of_ble_eq_true rfl | omega) ?_
  rintro v h' z' ⟨rfl, rfl, rfl⟩
  exact K
theorem c7_judge_neg (h : Hp) (s : Ms) {m : Nat} (h1 : 1 ≤ m) (h8 : m ≤ 8) (r : Int32) (hr : r < 0) : Fn MX7_judge 5 [.ref 152, .int (nI m), .int r] (mOv h s) (some (.int (-2))) := by
  intro z
  refine Cal_of_R (by decide +kernel) (L := [.ref 152, .int (nI m), .int r, .null, .null]) rfl (Nat.le_of_ble_eq_true rfl) ?_
  refine judge_in h s h1 h8 r z ?_
  rw [if_neg (fun q => absurd ((i2l_le 0 r).mp q.1) (Int32.not_le.mpr hr))]
  refine r_if_ne iX7_judge_24 (fun g9 => absurd (rfl) g9) (fun _ => ?_)
  refine r_bipush (v := (-2)) iX7_judge_27 rfl ?_
  refine r_iret iX7_judge_29 rfl ?_
  exact ⟨rfl, rfl, rfl⟩
theorem c7_judge_big (h : Hp) (s : Ms) {m : Nat} (h1 : 1 ≤ m) (h8 : m ≤ 8) {R9 : Nat} (hR : R9 < 2 ^ 31) (hb : 10 ^ m ≤ R9) : Fn MX7_judge 5 [.ref 152, .int (nI m), .int (nI R9)] (mOv h s) (some (.int (-2))) := by
  intro z
  refine Cal_of_R (by decide +kernel) (L := [.ref 152, .int (nI m), .int (nI R9), .null, .null]) rfl (Nat.le_of_ble_eq_true rfl) ?_
  refine judge_in h s h1 h8 _ z ?_
  have hp : 0 < 10 ^ m := Nat.pow_pos (by decide)
  rw [if_neg (fun q => by
    have e := q.2
    rw [nI_l hR, pk_lLE (by omega) (by omega)] at e
    omega)]
  refine r_if_ne iX7_judge_24 (fun g9 => absurd (rfl) g9) (fun _ => ?_)
  refine r_bipush (v := (-2)) iX7_judge_27 rfl ?_
  refine r_iret iX7_judge_29 rfl ?_
  exact ⟨rfl, rfl, rfl⟩
theorem c7_judge (h : Hp) {I : Nat → Int32} (J : Nat → Int64) {A : Nat → Nat → Int32} (me : Nat → Int64) {n bb : Nat} {u : Int32} {t : Nat → Nat → Int32} (h0 : I 0 = nI n) (H : En A 0 n (nI bb) u t) (hC : OkC n bb u t) {m : Nat} (h1 : 1 ≤ m) (h8 : m ≤ 8) {R9 : Nat} (hR : R9 < 10 ^ m) (z : Nat) : Cal MX7_judge 5 0 0 [.ref 152, .int (nI m), .int (nI R9)] (mOv h (I, J, A, me)) z (fun v h' z' => v = some (.int (jdg R9 m m 0 (n, nI bb, u, t))) ∧ z' = z ∧ ∃ A', h' = mOv h (I, J, A', me) ∧ fr 1 A A') := by
  have hn := hC.1
  have hp8 : 10 ^ m ≤ 10 ^ 8 := Nat.pow_le_pow_right (by decide) h8
  have hR31 : R9 < 2 ^ 31 := by omega
  have hp : 0 < 10 ^ m := Nat.pow_pos (by decide)
  refine Cal_of_R (by decide +kernel) (L := [.ref 152, .int (nI m), .int (nI R9), .null, .null]) rfl (Nat.le_of_ble_eq_true rfl) ?_
  refine judge_in h _ h1 h8 _ z ?_
  rw [if_pos ⟨(i2l_le 0 (nI R9)).mpr (nI_pos' hR31), by rw [nI_l hR31, pk_lLE (by omega) (by omega)]; omega⟩]
  refine r_if_ne iX7_judge_24 (fun _ => ?_) (fun g9 => absurd g9 (by decide))
  refine r_aload iX7_judge_30 rfl ?_
  refine r_callV iX7_judge_31 (cX7_128 _ rfl) (c7_copyNow h I J A me _) (by omega) (mOv_obj _ _) rfl rfl rfl (Nat.le_of_ble_eq_true rfl) (by first | exact Nat.le_of_ble_eq_true rfl | omega) (by first | exact Nat.le_of_ble_eq_true rfl | omega) ?_
  rintro v h' z' ⟨rfl, rfl, rfl⟩
  have loop : ∀ (j p : Nat) (w : Value) (bb1 : Nat) (u1 : Int32) (t1 : Nat → Nat → Int32) (A1 : Nat → Nat → Int32), p + j = m → OkC n bb1 u1 t1 → En A1 1 n (nI bb1) u1 t1 → fr 1 A A1 → jdg R9 m j p (n, nI bb1, u1, t1) = jdg R9 m m 0 (n, nI bb, u, t) → R MX7_judge 5 0 0 (fun v h' z'_1 => v = some (.int (jdg R9 m m 0 (n, nI bb, u, t))) ∧ z'_1 = z' ∧ ∃ A', h' = mOv h (I, J, A', me) ∧ fr 1 A A') 36 [.ref 152, .int (nI m), .int (nI R9), .int (nI p), w] [] (mOv h (I, J, A1, me)) z' 0 0 := by
    intro j
    induction j with
    | zero =>
      intro p w bb1 u1 t1 A1 hp hC1 H1 f1 hj
      refine r_iload iX7_judge_36 rfl ?_
      refine r_iload iX7_judge_37 rfl ?_
      refine r_icmp_ge iX7_judge_38 (fun _ => ?_) (fun g9 => absurd (nI_le (by omega) (by omega)) g9)
      refine r_bipush (v := (-9)) iX7_judge_92 rfl ?_
      refine r_iret iX7_judge_94 rfl ?_
      exact ⟨by rw [← hj]; rfl, rfl, A1, rfl, f1⟩
    | succ j ih =>
      intro p w bb1 u1 t1 A1 hp hC1 H1 f1 hj
      rw [jdg] at hj
      dsimp only at hj
      have e1 : nI m - 1 - nI p = nI (m - 1 - p) := by
        rw [show nI m - 1 = nI (m - 1) from pk_sub (b := 1) h1, pk_sub (by omega)]
      have ht63 : 10 ^ (m - 1 - p) < 2 ^ 63 := ten_lt (by omega)
      have ht0 : 0 < 10 ^ (m - 1 - p) := Nat.pow_pos (by decide)
      have hdv : R9 / 10 ^ (m - 1 - p) ≤ R9 := Nat.div_le_self _ _
      refine r_iload iX7_judge_36 rfl ?_
      refine r_iload iX7_judge_37 rfl ?_
      refine r_icmp_ge iX7_judge_38 (fun g9 => absurd g9 (nI_ge (by omega) (by omega))) (fun _ => ?_)
      refine r_iload iX7_judge_41 rfl ?_
      refine r_i2l iX7_judge_42 ?_
      refine r_iload iX7_judge_43 rfl ?_
      refine r_iconst (v := 1) iX7_judge_44 rfl ?_
      refine r_isub iX7_judge_45 ?_
      refine r_iload iX7_judge_46 rfl ?_
      refine r_isub iX7_judge_47 ?_
      rw [e1, nI_l hR31]
      refine r_callS iX7_judge_48 (cX7_124 _ rfl) (c7_tenTo _ (m - 1 - p) (by omega) _) (by omega) rfl rfl (Nat.le_of_ble_eq_true rfl) (by first | exact Nat.le_of_ble_eq_true rfl | omega) (by first | exact Nat.le_of_ble_eq_true rfl | omega) ?_
      rintro v h' z' ⟨rfl, rfl, rfl⟩
      refine r_ldiv iX7_judge_51 (fun q => absurd ((pk_lEQ ht63 (show 0 < 2 ^ 63 by decide)).mp q) (by omega)) ?_
      rw [pk_lDiv (by omega) ht0 ht63]
      refine r_ldc2 (v := 10) iX7_judge_52 (gt_3 173 rfl rfl) ?_
      refine r_lrem iX7_judge_55 (by decide) ?_
      rw [show lN (R9 / 10 ^ (m - 1 - p)) - lN (R9 / 10 ^ (m - 1 - p)) / 10 * 10 = lN (R9 / 10 ^ (m - 1 - p) % 10) from pk_lRem (b := 10) (by omega) (by omega) (by decide)]
      refine r_l2i iX7_judge_56 ?_
      rw [lN_i]
      have hd10 : R9 / 10 ^ (m - 1 - p) % 10 < 10 := Nat.mod_lt _ (by decide)
      generalize R9 / 10 ^ (m - 1 - p) % 10 = dd at hj hd10 ⊢
      by_cases hd : 2 < dd
      · rw [if_pos (Or.inr hd)] at hj
        refine r_istore_4 iX7_judge_57 rfl ?_
        refine r_iload iX7_judge_59 rfl ?_
        refine r_iconst (v := 2) iX7_judge_61 rfl ?_
        refine r_icmp_gt iX7_judge_62 (fun _ => ?_) (fun g9 => absurd (nI_lt (a := 2) hd (by omega)) g9)
        refine r_iload iX7_judge_77 rfl ?_
        refine r_iret iX7_judge_78 rfl ?_
        exact ⟨by rw [← hj], rfl, A1, rfl, f1⟩
      · refine r_istore_4 iX7_judge_57 rfl ?_
        refine r_iload iX7_judge_59 rfl ?_
        refine r_iconst (v := 2) iX7_judge_61 rfl ?_
        refine r_icmp_gt iX7_judge_62 (fun g9 => absurd g9 (nI_nlt (a := 2) (b := dd) (by omega) (by omega))) (fun _ => ?_)
        refine r_aload iX7_judge_65 rfl ?_
        refine r_gnow iX7_judge_66 (flX7_19 _ rfl) ?_
        refine r_bipush (v := 31) iX7_judge_69 rfl ?_
        refine r_ld3 iX7_judge_71 ((show (31 : Int32) = nI 31 from rfl)) (by omega) ?_
        rw [show A1 3 31 = u1 from H1.2.1]
        have hC2 := hC1
        obtain ⟨-, hb11, hu1, hT1⟩ := hC2
        rcases hu1 with rfl | ⟨i, hi, h7, rfl⟩
        · rw [if_pos (Or.inl rfl)] at hj
          refine r_bipush (v := (-9)) iX7_judge_72 rfl ?_
          refine r_icmp_ne iX7_judge_74 (fun g9 => absurd (rfl) g9) (fun _ => ?_)
          refine r_iload iX7_judge_77 rfl ?_
          refine r_iret iX7_judge_78 rfl ?_
          exact ⟨by rw [← hj], rfl, A1, rfl, f1⟩
        · rw [if_neg (fun q => q.elim (nI_9 (by omega)) hd), e_tn (by omega)] at hj
          obtain ⟨r, hr, hr2⟩ := (hT1 i hi).run h7
          refine r_bipush (v := (-9)) iX7_judge_72 rfl ?_
          refine r_icmp_ne iX7_judge_74 (fun _ => ?_) (fun g9 => absurd g9 (nI_9 (by omega)))
          refine r_aload iX7_judge_79 rfl ?_
          refine r_iconst (v := 1) iX7_judge_80 rfl ?_
          refine r_iload iX7_judge_81 rfl ?_
          refine r_callV iX7_judge_83 (cX7_114 _ rfl) (c7_make h J me h0 f1 H1 (l := 1) (by omega) hn hi h7 hr hr2 (w := dd) (by omega) z') (by omega) (mOv_obj _ _) rfl rfl rfl (Nat.le_of_ble_eq_true rfl) (by first | exact Nat.le_of_ble_eq_true rfl | omega) (by first | exact Nat.le_of_ble_eq_true rfl | omega) ?_
          rintro v h' z9 ⟨rfl, rfl, A', rfl, q1, q2⟩
          refine r_iinc_3 iX7_judge_86 (by first | exact nI_inc _ | rfl) rfl ?_
          refine r_goto iX7_judge_89 ?_
          obtain ⟨bb', eb, hC'⟩ := OkC_act hC1 hi h7 dd
          rw [actC_eta, eb] at hj
          rw [eb] at q2
          exact ih (p + 1) _ bb' _ _ A' (by omega) hC' q2 q1 hj
  refine r_iconst (v := 0) iX7_judge_34 rfl ?_
  refine r_istore_3 iX7_judge_35 rfl ?_
  exact loop m 0 _ bb u t _ (by omega) hC (En_copy H hn) (fr_copy A) rfl
theorem upL_upL (J : Nat → Int64) (p : Nat) (x y : Int64) : upL (upL J p x) p y = upL J p y := by
  funext j; unfold upL; by_cases g : j = p
  · rw [if_pos g, if_pos g]
  · rw [if_neg g, if_neg g, if_neg g]
theorem upL_self {J : Nat → Int64} {p : Nat} : upL J p (J p) = J := by
  funext j; unfold upL; by_cases g : j = p
  · rw [if_pos g, g]
  · rw [if_neg g]
theorem c7_fair (h : Hp) {I : Nat → Int32} (J : Nat → Int64) {A : Nat → Nat → Int32} (me : Nat → Int64) {n bb : Nat} {u : Int32} {t : Nat → Nat → Int32} {seed : Int64} (h0 : I 0 = nI n) (hJ : J 2 = seed) (H : En A 0 n (nI bb) u t) (hC : OkC n bb u t) (z : Nat) : Cal MX7_fair 5 0 0 [.ref 152] (mOv h (I, J, A, me)) z (fun v h' z' => v = some (.int (bitsI (leadP n (fairRun 1000 (n, nI bb, u, t) seed).1.2.2.2) n)) ∧ z' = z ∧ ∃ A', h' = mOv h (I, upL J 2 (fairRun 1000 (n, nI bb, u, t) seed).2, A', me) ∧ fr 1 A A') := by
  have hn := hC.1
  generalize hF : fairRun 1000 (n, nI bb, u, t) seed = F
  refine Cal_of_R (by decide +kernel) (L := [.ref 152, .null]) rfl (Nat.le_of_ble_eq_true rfl) ?_
  refine r_aload iX7_fair_0 rfl ?_
  refine r_callV iX7_fair_1 (cX7_128 _ rfl) (c7_copyNow h I J A me _) (by omega) (mOv_obj _ _) rfl rfl rfl (Nat.le_of_ble_eq_true rfl) (by first | exact Nat.le_of_ble_eq_true rfl | omega) (by first | exact Nat.le_of_ble_eq_true rfl | omega) ?_
  rintro v h' z' ⟨rfl, rfl, rfl⟩
  have fin : ∀ (w : Value) (bb1 : Nat) (u1 : Int32) (t1 : Nat → Nat → Int32) (s1 : Int64) (A1 : Nat → Nat → Int32), OkC n bb1 u1 t1 → En A1 1 n (nI bb1) u1 t1 → fr 1 A A1 → F = ((n, nI bb1, u1, t1), s1) → R MX7_fair 5 0 0 (fun v h' z'_1 => v = some (.int (bitsI (leadP n F.1.2.2.2) n)) ∧ z'_1 = z' ∧ ∃ A', h' = mOv h (I, upL J 2 F.2, A', me) ∧ fr 1 A A') 88 [.ref 152, w] [] (mOv h (I, upL J 2 s1, A1, me)) z' 0 0 := by
    intro w bb1 u1 t1 s1 A1 hC1 H1 f1 hf
    refine r_aload iX7_fair_88 rfl ?_
    refine r_iconst (v := 1) iX7_fair_89 rfl ?_
    refine r_callV iX7_fair_90 (cX7_183 _ rfl) (c7_winners h _ me h0 H1 (l := 1) (by omega) hn (fun i hi => (hC1.2.2.2 i hi).v hC1.2.1) _) (by omega) (mOv_obj _ _) rfl rfl rfl (Nat.le_of_ble_eq_true rfl) (by first | exact Nat.le_of_ble_eq_true rfl | omega) (by first | exact Nat.le_of_ble_eq_true rfl | omega) ?_
    rintro v h' z9 ⟨rfl, rfl, rfl⟩
    refine r_iret iX7_fair_93 rfl ?_
    exact ⟨by rw [hf], rfl, A1, by rw [hf], f1⟩
  have loop : ∀ (f : Nat) (w : Value) (bb1 : Nat) (u1 : Int32) (t1 : Nat → Nat → Int32) (s1 : Int64) (A1 : Nat → Nat → Int32), mu n bb1 t1 ≤ f → OkC n bb1 u1 t1 → En A1 1 n (nI bb1) u1 t1 → fr 1 A A1 → fairRun f (n, nI bb1, u1, t1) s1 = F → R MX7_fair 5 0 0 (fun v h' z'_1 => v = some (.int (bitsI (leadP n F.1.2.2.2) n)) ∧ z'_1 = z' ∧ ∃ A', h' = mOv h (I, upL J 2 F.2, A', me) ∧ fr 1 A A') 4 [.ref 152, w] [] (mOv h (I, upL J 2 s1, A1, me)) z' 0 0 := by
    intro f
    induction f with
    | zero =>
      intro w bb1 u1 t1 s1 A1 hm hC1 H1 f1 hf
      refine r_aload iX7_fair_4 rfl ?_
      refine r_gnow iX7_fair_5 (flX7_19 _ rfl) ?_
      refine r_bipush (v := 31) iX7_fair_8 rfl ?_
      refine r_ld3 iX7_fair_10 ((show (31 : Int32) = nI 31 from rfl)) (by omega) ?_
      rw [show A1 3 31 = u1 from H1.2.1]
      obtain ⟨-, hb11, hu1, hT1⟩ := id hC1
      rcases hu1 with rfl | ⟨i, hi, h7, rfl⟩
      · refine r_bipush (v := (-9)) iX7_fair_11 rfl ?_
        refine r_icmp_eq iX7_fair_13 (fun _ => ?_) (fun g9 => absurd (rfl) g9)
        exact fin w bb1 _ t1 s1 A1 hC1 H1 f1 hf.symm
      · exfalso
        obtain ⟨r, hr, hr2⟩ := (hT1 i hi).run h7
        have e1 : pot (t1 i) = 4 - r := by unfold pot; rw [if_pos h7, hr, nI_clamp (by omega)]
        have e2 : ∀ n, i < n → pot (t1 i) ≤ sumP t1 n := by
          intro n
          induction n with
          | zero => omega
          | succ n ihn =>
            intro hin
            rw [sumP]
            by_cases g : i = n
            · subst g; omega
            · have := ihn (by omega); omega
        have := e2 n hi
        unfold mu at hm
        omega
    | succ f ih =>
      intro w bb1 u1 t1 s1 A1 hm hC1 H1 f1 hf
      rw [fairRun] at hf
      dsimp only at hf
      refine r_aload iX7_fair_4 rfl ?_
      refine r_gnow iX7_fair_5 (flX7_19 _ rfl) ?_
      refine r_bipush (v := 31) iX7_fair_8 rfl ?_
      refine r_ld3 iX7_fair_10 ((show (31 : Int32) = nI 31 from rfl)) (by omega) ?_
      rw [show A1 3 31 = u1 from H1.2.1]
      obtain ⟨-, hb11, hu1, hT1⟩ := id hC1
      rcases hu1 with rfl | ⟨i, hi, h7, rfl⟩
      · rw [if_pos rfl] at hf
        refine r_bipush (v := (-9)) iX7_fair_11 rfl ?_
        refine r_icmp_eq iX7_fair_13 (fun _ => ?_) (fun g9 => absurd (rfl) g9)
        exact fin w bb1 _ t1 s1 A1 hC1 H1 f1 hf.symm
      · rw [if_neg (nI_9 (by omega)), e_tn (by omega)] at hf
        obtain ⟨r, hr, hr2⟩ := (hT1 i hi).run h7
        refine r_bipush (v := (-9)) iX7_fair_11 rfl ?_
        refine r_icmp_eq iX7_fair_13 (fun g9 => absurd g9 (nI_9 (by omega))) (fun _ => ?_)
        refine r_aload iX7_fair_16 rfl ?_
        refine r_aload iX7_fair_17 rfl ?_
        refine r_gseed iX7_fair_18 (flX7_176 _ rfl) ?_
        refine r_ldc2 (v := 6364136223846793005) iX7_fair_21 (gt_4 5 rfl rfl) ?_
        refine r_lmul iX7_fair_24 ?_
        refine r_ldc2 (v := 1442695040888963407) iX7_fair_25 (gt_4 6 rfl rfl) ?_
        refine r_ladd iX7_fair_28 ?_
        rw [show upL J 2 s1 2 * 6364136223846793005 + 1442695040888963407 = sNext s1 from rfl]
        refine r_mseed iX7_fair_29 (fpX7_176 _ rfl) ?_
        rw [upL_upL]
        refine r_aload iX7_fair_32 rfl ?_
        refine r_gnow iX7_fair_33 (flX7_19 _ rfl) ?_
        refine r_bipush (v := 31) iX7_fair_36 rfl ?_
        refine r_ld3 iX7_fair_38 ((show (31 : Int32) = nI 31 from rfl)) (by omega) ?_
        rw [show A1 3 31 = nI i from H1.2.1]
        refine r_istore_1 iX7_fair_39 rfl ?_
        refine r_aload iX7_fair_40 rfl ?_
        refine r_iconst (v := 1) iX7_fair_41 rfl ?_
        refine r_aload iX7_fair_42 rfl ?_
        refine r_gseed iX7_fair_43 (flX7_176 _ rfl) ?_
        refine r_bipush (v := 33) iX7_fair_46 rfl ?_
        refine r_lushr iX7_fair_48 ?_
        refine r_ldc2 (v := 10) iX7_fair_49 (gt_3 173 rfl rfl) ?_
        refine r_lrem iX7_fair_52 (by decide) ?_
        refine r_aload iX7_fair_53 rfl ?_
        refine r_iload iX7_fair_54 rfl ?_
        refine r_aload iX7_fair_55 rfl ?_
        refine r_gnow iX7_fair_56 (flX7_19 _ rfl) ?_
        refine r_bipush (v := 30) iX7_fair_59 rfl ?_
        refine r_ld3 iX7_fair_61 ((show (30 : Int32) = nI 30 from rfl)) (by omega) ?_
        rw [show A1 3 30 = nI bb1 from H1.1]
        refine r_aload iX7_fair_62 rfl ?_
        refine r_iconst (v := 1) iX7_fair_63 rfl ?_
        refine r_iload iX7_fair_64 rfl ?_
        refine r_iconst (v := 0) iX7_fair_65 rfl ?_
        refine r_callV iX7_fair_66 (cX7_77 _ rfl) (c7_mark h I _ A1 me (l := 1) (by omega) (t := i) (by omega) (w := 0) (by omega) _) (by omega) (mOv_obj _ _) rfl rfl rfl (Nat.le_of_ble_eq_true rfl) (by first | exact Nat.le_of_ble_eq_true rfl | omega) (by first | exact Nat.le_of_ble_eq_true rfl | omega) ?_
        rintro v h' z9 ⟨rfl, rfl, rfl⟩
        rw [show _ = t1 i 2 from H1.mk (w := 0) hi (by omega)]
        refine r_callV iX7_fair_69 (cX7_94 _ rfl) (c7_oddsOf h I _ me (k := t1 i) (i := i) (by omega) (H1.2.2 i hi).1.symm (H1.2.2 i hi).2.1.symm (hT1 i hi).w (nI bb1) 0 _ (Int32.add_zero _).symm _) (by omega) (mOv_obj _ _) rfl rfl rfl (Nat.le_of_ble_eq_true rfl) (by first | exact Nat.le_of_ble_eq_true rfl | omega) (by first | exact Nat.le_of_ble_eq_true rfl | omega) ?_
        rintro v h' z9 ⟨rfl, rfl, rfl⟩
        have acts : ∀ (w9 : Nat), w9 < 2 → w9 = fairW (n, nI bb1, nI i, t1) s1 → R MX7_fair 5 0 0 (fun v h' z'_1 => v = some (.int (bitsI (leadP n F.1.2.2.2) n)) ∧ z'_1 = z9 ∧ ∃ A', h' = mOv h (I, upL J 2 F.2, A', me) ∧ fr 1 A A') 82 [.ref 152, .int (nI i)] [.int (nI w9), .int 1, .ref 152] (mOv h (I, upL J 2 (sNext s1), A1, me)) z9 0 0 := by
          intro w9 hw9 hww
          refine r_callV iX7_fair_82 (cX7_114 _ rfl) (c7_make h (upL J 2 (sNext s1)) me h0 f1 H1 (l := 1) (by omega) hn hi h7 hr hr2 (w := w9) (by omega) z9) (by omega) (mOv_obj _ _) rfl rfl rfl (Nat.le_of_ble_eq_true rfl) (by first | exact Nat.le_of_ble_eq_true rfl | omega) (by first | exact Nat.le_of_ble_eq_true rfl | omega) ?_
          rintro v h' z8 ⟨rfl, rfl, A', rfl, q1, q2⟩
          refine r_goto iX7_fair_85 ?_
          obtain ⟨bb', eb, hC'⟩ := OkC_act hC1 hi h7 w9
          have hm' := mu_act hC1 hi h7 hw9 eb hC'.2.1
          rw [← hww, actC_eta, eb] at hf
          rw [eb] at q2
          exact ih _ bb' _ _ (sNext s1) A' (by omega) hC' q2 q1 hf
        by_cases g : dr (sNext s1) < (kOdds (t1 i) (nI bb1) 0).toInt64
        · have hw : (1 : Nat) = fairW (n, nI bb1, nI i, t1) s1 := by
            unfold fairW
            dsimp only
            rw [e_tn (by omega), if_pos g]
          refine r_i2l iX7_fair_72 ?_
          refine r_lcmp iX7_fair_73 ?_
          refine r_if_ge iX7_fair_74 (fun q => absurd ((lg_cmp_ge _ _).mp q) (Int64.not_le.mpr g)) (fun _ => ?_)
          refine r_iconst (v := 1) iX7_fair_77 rfl ?_
          refine r_goto iX7_fair_78 ?_
          exact acts 1 (by omega) hw
        · have hw : (0 : Nat) = fairW (n, nI bb1, nI i, t1) s1 := by
            unfold fairW
            dsimp only
            rw [e_tn (by omega), if_neg g]
          refine r_i2l iX7_fair_72 ?_
          refine r_lcmp iX7_fair_73 ?_
          refine r_if_ge iX7_fair_74 (fun _ => ?_) (fun q => absurd ((lg_cmp_ge _ _).mpr (Int64.not_lt.mp g)) q)
          refine r_iconst (v := 0) iX7_fair_81 rfl ?_
          exact acts 0 (by omega) hw
  have e := loop 1000 .null bb u t seed _ (by unfold mu; have := sumP_le t n; omega) hC (En_copy H hn) (fr_copy A) hF
  rw [← hJ, upL_self] at e
  exact e
