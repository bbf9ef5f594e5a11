def dr (s : Int64) : Int64 := (s.toUInt64 >>> ((33 : Int32).toInt64.toUInt64 &&& Int64.toUInt64 63)).toInt64 - (s.toUInt64 >>> ((33 : Int32).toInt64.toUInt64 &&& Int64.toUInt64 63)).toInt64 / 10 * 10
def sNext (s : Int64) : Int64 := s * 6364136223846793005 + 1442695040888963407
def fairW (K : Cn) (s : Int64) : Nat := if dr (sNext s) < (kOdds (K.2.2.2 K.2.2.1.toNatClampNeg) K.2.1 0).toInt64 then 1 else 0
def fairRun : Nat → Cn → Int64 → Cn × Int64
  | 0, K, s => (K, s)
  | f + 1, K, s => if K.2.2.1 = -9 then (K, s) else fairRun f (actC K.1 K.2.1 K.2.2.1.toNatClampNeg K.2.2.2 (fairW K s)) (sNext s)
theorem actC_eta (n : Nat) (b : Int32) (i : Nat) (t : Nat → Nat → Int32) (w : Nat) : actC n b i t w = (n, (actC n b i t w).2.1, (actC n b i t w).2.2.1, (actC n b i t w).2.2.2) := by
  have := goOnC_n n b i (upT t i (kAct (t i) b w))
  unfold actC
  rw [show goOnC n b i (upT t i (kAct (t i) b w)) = ((goOnC n b i (upT t i (kAct (t i) b w))).1, (goOnC n b i (upT t i (kAct (t i) b w))).2.1, (goOnC n b i (upT t i (kAct (t i) b w))).2.2.1, (goOnC n b i (upT t i (kAct (t i) b w))).2.2.2) from rfl, this]
theorem c6_fair {h : Hp} {T : Tx} {n : Nat} {b u : Int32} {t : Nat → Nat → Int32} {sz nx : Nat} {W sl : Nat → Cn} {kp : Nat → Int32} {seed : Int64} (hn : n ≤ 4) (hu : okU n u) (H : cls h T (n, b, u, t) sz nx W sl kp seed) : ∃ t0, PU MX6_fair 5 [.ref 2] h (.int (bitsI (leadP n (fairRun 1000 (copyC (n, b, u, t) t0) seed).1.2.2.2) n)) (fun h' => cls h' T (n, b, u, t) sz nx W sl kp (fairRun 1000 (copyC (n, b, u, t) t0) seed).2) := by
  obtain ⟨tr, pt, h_obj, h_tx, h_cu, h_tr, h_ac, h_sl, h_kp, h_pt, h_sh⟩ := id H
  refine ⟨tr.2.2.2, ?_⟩
  intro z
  have P := Pr_con h_tr (c2_copyFrom h 11 5 (by omega) tr hn b u t (by omega) h_cu)
  generalize hF : fairRun 1000 (copyC (n, b, u, t) tr.2.2.2) seed = F
  refine Cal_of_R (by decide +kernel) (L := [.ref 2, .null, .null, .null]) rfl (Nat.le_of_ble_eq_true rfl) ?_
  refine r_aload iX6_fair_0 rfl ?_
  refine r_getfield iX6_fair_1 (flX6_23 _ rfl) h_obj rfl ?_
  refine r_aload iX6_fair_4 rfl ?_
  refine r_getfield iX6_fair_5 (flX6_19 _ rfl) h_obj rfl ?_
  refine r_callV iX6_fair_8 (cX6_125 _ rfl) (P _) (by omega) (h_tr.1) rfl rfl rfl (Nat.le_of_ble_eq_true rfl) (by first | exact Nat.le_of_ble_eq_true rfl | omega) (by first | exact Nat.le_of_ble_eq_true rfl | omega) ?_
  rintro v' h' z' ⟨rfl, rfl, rfl⟩
  have fin : ∀ (hh : Hp) (b1 u1 : Int32) (t1 : Nat → Nat → Int32) (s1 : Int64) (x w : Value), cls hh T (n, b, u, t) sz nx W sl kp s1 → conAt hh 11 (n, b1, u1, t1) → (∀ a, (a < 2 ∨ 152 ≤ a) → hh a = h a) → F = ((n, b1, u1, t1), s1) → ∀ z, R MX6_fair 5 0 0 (fun v h' z' => v = some (.int (bitsI (leadP n F.1.2.2.2) n)) ∧ z' = z ∧ cls h' T (n, b, u, t) sz nx W sl kp F.2 ∧ ∀ a, (a < 2 ∨ 152 ≤ a) → h' a = h a) 89 [.ref 2, x, w, .null] [] hh z 0 0 := by
    intro hh b1 u1 t1 s1 x w HH HK ho hf z
    obtain ⟨tr2, pt2, k_obj, k_tx, k_cu, k_tr, k_ac, k_sl, k_kp, k_pt, k_sh⟩ := id HH
    refine r_aload iX6_fair_89 rfl ?_
    refine r_getfield iX6_fair_90 (flX6_23 _ rfl) (k_obj) rfl ?_
    refine r_callV iX6_fair_93 (cX6_191 _ rfl) (Fn_con HK (c2_leaders hh 11 hn b1 u1 t1) _) (by omega) (HK.1) rfl rfl rfl (Nat.le_of_ble_eq_true rfl) (by first | exact Nat.le_of_ble_eq_true rfl | omega) (by first | exact Nat.le_of_ble_eq_true rfl | omega) ?_
    rintro v' h' z' ⟨rfl, qh, rfl⟩
    rw [qh]
    refine r_iret iX6_fair_96 rfl ?_
    exact ⟨by rw [hf], rfl, by rw [hf]; exact HH, ho⟩
  have loop : ∀ (j p : Nat) (hh : Hp) (b1 u1 : Int32) (t1 : Nat → Nat → Int32) (s1 : Int64) (w : Value), p + j = 1000 → okU n u1 → clr (.int (nI p)) = .int (nI p) → cls hh T (n, b, u, t) sz nx W sl kp s1 → conAt hh 11 (n, b1, u1, t1) → (∀ a, (a < 2 ∨ 152 ≤ a) → hh a = h a) → fairRun j (n, b1, u1, t1) s1 = F → ∀ z, R MX6_fair 5 0 0 (fun v h' z' => v = some (.int (bitsI (leadP n F.1.2.2.2) n)) ∧ z' = z ∧ cls h' T (n, b, u, t) sz nx W sl kp F.2 ∧ ∀ a, (a < 2 ∨ 152 ≤ a) → h' a = h a) 13 [.ref 2, .int (nI p), w, .null] [] hh z 0 0 := by
    intro j
    induction j with
    | zero =>
      intro p hh b1 u1 t1 s1 w hp hu1 hc HH HK ho hj z
      refine r_iload iX6_fair_13 rfl ?_
      refine r_sipush (v := 1000) iX6_fair_14 rfl ?_
      refine r_icmp_ge iX6_fair_17 (fun _ => ?_) (fun g9 => absurd (nI_le (a := 1000) (by omega) (by omega)) g9)
      exact fin hh b1 u1 t1 s1 _ _ HH HK ho hj.symm z
    | succ j ih =>
      intro p hh b1 u1 t1 s1 w hp hu1 hc HH HK ho hj z
      obtain ⟨tr2, pt2, k_obj, k_tx, k_cu, k_tr, k_ac, k_sl, k_kp, k_pt, k_sh⟩ := id HH
      rw [fairRun] at hj
      dsimp only at hj
      refine r_iload iX6_fair_13 rfl ?_
      refine r_sipush (v := 1000) iX6_fair_14 rfl ?_
      refine r_icmp_ge iX6_fair_17 (fun g9 => absurd g9 (nI_ge (b := 1000) (by omega) (by omega))) (fun _ => ?_)
      refine r_aload iX6_fair_20 rfl ?_
      refine r_getfield iX6_fair_21 (flX6_23 _ rfl) (k_obj) rfl ?_
      refine r_callV iX6_fair_24 (cX6_106 _ rfl) (Fn_con HK (c2_isEnded hh 11 hn b1 u1 t1) _) (by omega) (HK.1) rfl rfl rfl (Nat.le_of_ble_eq_true rfl) (by first | exact Nat.le_of_ble_eq_true rfl | omega) (by first | exact Nat.le_of_ble_eq_true rfl | omega) ?_
      rintro v' h' z' ⟨rfl, qh, rfl⟩
      rw [qh]
      rcases hu1 with rfl | ⟨i, hi, rfl⟩
      · rw [if_pos rfl] at hj
        rw [i_end]
        refine r_if_ne iX6_fair_27 (fun _ => ?_) (fun g9 => absurd g9 (by decide))
        exact fin hh b1 _ t1 s1 _ _ HH HK ho hj.symm _
      · rw [if_neg (nI_9 (by omega)), e_tn (by omega)] at hj
        rw [i_go hn hi]
        refine r_if_ne iX6_fair_27 (fun g9 => absurd (rfl) g9) (fun _ => ?_)
        refine r_aload iX6_fair_30 rfl ?_
        refine r_aload iX6_fair_31 rfl ?_
        refine r_getfield iX6_fair_32 (flX6_55 _ rfl) (k_obj) rfl ?_
        refine r_ldc2 (v := 6364136223846793005) iX6_fair_35 (gt_2 214 rfl rfl) ?_
        refine r_lmul iX6_fair_38 ?_
        refine r_ldc2 (v := 1442695040888963407) iX6_fair_39 (gt_2 215 rfl rfl) ?_
        refine r_ladd iX6_fair_42 ?_
        refine r_putfield iX6_fair_43 (fpX6_55 _ rfl) (by omega) (k_obj) (Nat.le_of_ble_eq_true rfl) ⟨rfl, rfl⟩ ?_
        have H2 : cls (hset hh 2 (.inr (5, [.ref 3, .ref 5, .ref 11, .ref 17, .ref 115, .ref 128, .ref 129, .ref 143, .long (sNext s1)]))) T (n, b, u, t) sz nx W sl kp (sNext s1) := HH.obj (fun a ha => hset_ne _ _ (by omega)) (hset_eq _ _ _)
        have HK2 : conAt (hset hh 2 (.inr (5, [.ref 3, .ref 5, .ref 11, .ref 17, .ref 115, .ref 128, .ref 129, .ref 143, .long (sNext s1)]))) 11 (n, b1, nI i, t1) := HK.kept fun a q1 q2 => hset_ne _ _ (by omega)
        have ho2 : ∀ a, (a < 2 ∨ 152 ≤ a) → hset hh 2 (.inr (5, [.ref 3, .ref 5, .ref 11, .ref 17, .ref 115, .ref 128, .ref 129, .ref 143, .long (sNext s1)])) a = h a := fun a ha => (hset_ne _ _ (by omega)).trans (ho a ha)
        refine R_heap (show _ = hset hh 2 (.inr (5, [.ref 3, .ref 5, .ref 11, .ref 17, .ref 115, .ref 128, .ref 129, .ref 143, .long (sNext s1)])) from rfl) ?_
        generalize hset hh 2 (.inr (5, [.ref 3, .ref 5, .ref 11, .ref 17, .ref 115, .ref 128, .ref 129, .ref 143, .long (sNext s1)])) = h2 at H2 HK2 ho2
        obtain ⟨tr3, pt3, l_obj, l_tx, l_cu, l_tr, l_ac, l_sl, l_kp, l_pt, l_sh⟩ := id H2
        have hodd := Fn_con HK2 (c2_oddsOfTurn h2 11 hn hi b1 t1)
        refine r_aload iX6_fair_46 rfl ?_
        refine r_getfield iX6_fair_47 (flX6_55 _ rfl) (l_obj) rfl ?_
        refine r_bipush (v := 33) iX6_fair_50 rfl ?_
        refine r_lushr iX6_fair_52 ?_
        refine r_ldc2 (v := 10) iX6_fair_53 (gt_2 216 rfl rfl) ?_
        refine r_lrem iX6_fair_56 (by decide) ?_
        refine r_lstore_2 iX6_fair_57 rfl ?_
        refine r_aload iX6_fair_58 rfl ?_
        refine r_getfield iX6_fair_59 (flX6_23 _ rfl) (l_obj) rfl ?_
        refine r_lload iX6_fair_62 rfl ?_
        refine r_aload iX6_fair_63 rfl ?_
        refine r_getfield iX6_fair_64 (flX6_23 _ rfl) (l_obj) rfl ?_
        refine r_callV iX6_fair_67 (cX6_188 _ rfl) (hodd _) (by omega) (HK2.1) rfl rfl rfl (Nat.le_of_ble_eq_true rfl) (by first | exact Nat.le_of_ble_eq_true rfl | omega) (by first | exact Nat.le_of_ble_eq_true rfl | omega) ?_
        rintro v' h' z' ⟨rfl, qh, rfl⟩
        rw [qh]
        have acts : ∀ (w9 : Nat), w9 < 2 → w9 = fairW (n, b1, nI i, t1) s1 → ∀ z, R MX6_fair 5 0 0 (fun v h' z' => v = some (.int (bitsI (leadP n F.1.2.2.2) n)) ∧ z' = z ∧ cls h' T (n, b, u, t) sz nx W sl kp F.2 ∧ ∀ a, (a < 2 ∨ 152 ≤ a) → h' a = h a) 80 [.ref 2, .int (nI p), .long (dr (sNext s1)), .null] [.int (nI w9), .ref 11] h2 z 0 0 := by
          intro w9 hw9 hww z
          have P2 := Pr_con HK2 (c2_act h2 11 (by omega) hn hi (show w9 < 3 by omega) b1 t1)
          refine r_callV iX6_fair_80 (cX6_114 _ rfl) (P2 _) (by omega) (HK2.1) rfl rfl rfl (Nat.le_of_ble_eq_true rfl) (by first | exact Nat.le_of_ble_eq_true rfl | omega) (by first | exact Nat.le_of_ble_eq_true rfl | omega) ?_
          rintro v' h' z' ⟨rfl, rfl, rfl⟩
          refine r_iinc_1 iX6_fair_83 (by first | exact nI_inc _ | rfl) rfl ?_
          refine r_goto iX6_fair_86 ?_
          have hA := actC_eta n b1 i t1 w9
          rw [← hww] at hj
          rw [hA] at hj ⊢
          exact ih (p + 1) _ _ _ _ _ _ (by omega) (goOnC_okU _ _ _ _) rfl (H2.tr (fun a ha => cOv_out _ _ _ (by omega)) (conAt_cOv _ _ _)) (conAt_cOv _ _ _) (fun a ha => (cOv_out _ _ _ (by omega)).trans (ho2 a ha)) hj _
        by_cases g : dr (sNext s1) < (kOdds (t1 i) b1 0).toInt64
        · have hw : (1 : Nat) = fairW (n, b1, nI i, t1) s1 := by
            unfold fairW
            dsimp only
            rw [e_tn (by omega), if_pos g]
          refine r_i2l iX6_fair_70 ?_
          refine r_lcmp iX6_fair_71 ?_
          refine r_if_ge iX6_fair_72 (fun q => absurd ((lg_cmp_ge _ _).mp q) (Int64.not_le.mpr g)) (fun _ => ?_)
          refine r_iconst (v := 1) iX6_fair_75 rfl ?_
          refine r_goto iX6_fair_76 ?_
          exact acts 1 (by omega) hw _
        · have hw : (0 : Nat) = fairW (n, b1, nI i, t1) s1 := by
            unfold fairW
            dsimp only
            rw [e_tn (by omega), if_neg g]
          refine r_i2l iX6_fair_70 ?_
          refine r_lcmp iX6_fair_71 ?_
          refine r_if_ge iX6_fair_72 (fun _ => ?_) (fun q => absurd ((lg_cmp_ge _ _).mpr (Int64.not_lt.mp g)) q)
          refine r_iconst (v := 0) iX6_fair_79 rfl ?_
          exact acts 0 (by omega) hw _
  refine r_iconst (v := 0) iX6_fair_11 rfl ?_
  refine r_istore_1 iX6_fair_12 rfl ?_
  exact loop 1000 0 _ b u _ seed _ (by omega) hu rfl (H.tr (fun a ha => cOv_out _ _ _ (by omega)) (conAt_cOv _ _ _)) (conAt_cOv _ _ _) (fun a ha => cOv_out _ _ _ (by omega)) hF _
