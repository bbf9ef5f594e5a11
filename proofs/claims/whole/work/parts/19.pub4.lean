/-! acts told ahead, fairs -/
def okU (n : Nat) (u : Int32) : Prop := u = -9 ∨ ∃ i, i < n ∧ u = nI i
theorem nxt_ok (n : Nat) (t : Nat → Nat → Int32) (f : Nat) (hn : 0 < n) : ∀ j, nxt n t f j = -9 ∨ ∃ i, i < n ∧ t i 7 = 0 ∧ nxt n t f j = nI i
  | 0 => Or.inl rfl
  | j + 1 => by
    rw [nxt]
    by_cases g : t ((f + (n - (j + 1))) % n) 7 = 0
    · rw [if_pos g]; exact Or.inr ⟨_, Nat.mod_lt _ hn, g, rfl⟩
    · rw [if_neg g]; exact nxt_ok n t f hn j
theorem nxt_okU (n : Nat) (t : Nat → Nat → Int32) (f : Nat) : okU n (nxt n t f n) := by
  rcases Nat.eq_zero_or_pos n with h | h
  · subst h; exact Or.inl rfl
  · rcases nxt_ok n t f h n with g | ⟨i, hi, -, g⟩
    · exact Or.inl g
    · exact Or.inr ⟨i, hi, g⟩
theorem goOnC_okU (n : Nat) (b : Int32) (i : Nat) (t : Nat → Nat → Int32) : okU n (goOnC n b i t).2.2.1 := by
  unfold goOnC
  split
  · exact nxt_okU _ _ _
  · exact nxt_okU _ _ _
theorem nI_9 {i : Nat} (hi : i < 2 ^ 31) : nI i ≠ -9 := fun q => nI_pos hi (by rw [q]; decide)
theorem e_tn {i : Nat} (hi : i < 2 ^ 31) : (nI i).toNatClampNeg = i := nI_clamp hi
/-- the place of the first figure that can not be; the contest there -/
def jdg (R9 m : Nat) : Nat → Nat → Cn → Int32
  | 0, _, _ => -9
  | j + 1, p, K => if K.2.2.1 = -9 ∨ 2 < R9 / 10 ^ (m - 1 - p) % 10 then nI p else jdg R9 m j (p + 1) (actC K.1 K.2.1 K.2.2.1.toNatClampNeg K.2.2.2 (R9 / 10 ^ (m - 1 - p) % 10))
theorem mapT_id (t : Nat → Nat → Int32) (n : Nat) (t2 : Nat → Nat → Int32) {i : Nat} (hi : i < n) : mapT (fun j _ => t j) t2 n i = t i := by simp [mapT, hi]
theorem c6_judge_n {h : Hp} (x r : Int32) (hx : x < 1 ∨ 8 < x) : PU MX6_judge 5 [.ref 2, .int x, .int r] h (.int (-2)) (fun h' => h' = h) := by
  intro z
  refine Cal_of_R (by decide +kernel) (L := [.ref 2, .int x, .int r, .null, .null]) rfl (Nat.le_of_ble_eq_true rfl) ?_
  by_cases h0 : x < 1
  · refine r_iload iX6_judge_0 rfl ?_
    refine r_iconst (v := 1) iX6_judge_1 rfl ?_
    refine r_icmp_lt iX6_judge_2 (fun _ => ?_) (fun g9 => absurd (h0) g9)
    refine r_bipush (v := (-2)) iX6_judge_26 rfl ?_
    refine r_iret iX6_judge_28 rfl ?_
    exact ⟨rfl, rfl, rfl, fun _ _ => rfl⟩
  · refine r_iload iX6_judge_0 rfl ?_
    refine r_iconst (v := 1) iX6_judge_1 rfl ?_
    refine r_icmp_lt iX6_judge_2 (fun g9 => absurd g9 (h0)) (fun _ => ?_)
    refine r_iload iX6_judge_5 rfl ?_
    refine r_bipush (v := 8) iX6_judge_6 rfl ?_
    refine r_icmp_gt iX6_judge_8 (fun _ => ?_) (fun g9 => absurd ((hx.resolve_left h0)) g9)
    refine r_bipush (v := (-2)) iX6_judge_26 rfl ?_
    refine r_iret iX6_judge_28 rfl ?_
    exact ⟨rfl, rfl, rfl, fun _ _ => rfl⟩
theorem c6_judge_neg {h : Hp} {m : Nat} (h1 : 1 ≤ m) (h8 : m ≤ 8) (r : Int32) (hr : r < 0) : PU MX6_judge 5 [.ref 2, .int (nI m), .int r] h (.int (-2)) (fun h' => h' = h) := by
  intro z
  refine Cal_of_R (by decide +kernel) (L := [.ref 2, .int (nI m), .int r, .null, .null]) rfl (Nat.le_of_ble_eq_true rfl) ?_
  refine r_iload iX6_judge_0 rfl ?_
  refine r_iconst (v := 1) iX6_judge_1 rfl ?_
  refine r_icmp_lt iX6_judge_2 (fun g9 => absurd g9 (nI_nlt (b := 1) h1 (by omega))) (fun _ => ?_)
  refine r_iload iX6_judge_5 rfl ?_
  refine r_bipush (v := 8) iX6_judge_6 rfl ?_
  refine r_icmp_gt iX6_judge_8 (fun g9 => absurd g9 (nI_nlt (a := 8) h8 (by omega))) (fun _ => ?_)
  refine r_iload iX6_judge_11 rfl ?_
  refine r_if_lt iX6_judge_12 (fun _ => ?_) (fun g9 => absurd (hr) g9)
  refine r_bipush (v := (-2)) iX6_judge_26 rfl ?_
  refine r_iret iX6_judge_28 rfl ?_
  exact ⟨rfl, rfl, rfl, fun _ _ => rfl⟩
def tenAt (h : Hp) : Prop := h 1 = some (.inl (.long, 13, fun j => .long (lN (10 ^ j))))
theorem ten_at {m : Nat} (hm : m < 2 ^ 31) : (fun j : Nat => Value.long (lN (10 ^ j))) (nI m).toNatClampNeg = .long (lN (10 ^ m)) := by
  show Value.long (lN (10 ^ (nI m).toNatClampNeg)) = _
  rw [nI_clamp hm]
theorem ten_lt {m : Nat} (hm : m ≤ 12) : 10 ^ m < 2 ^ 63 := Nat.lt_of_le_of_lt (Nat.pow_le_pow_right (by decide) hm) (by decide)
theorem c6_judge_big {h : Hp} (hT : tenAt h) {m : Nat} (h1 : 1 ≤ m) (h8 : m ≤ 8) {R9 : Nat} (hR : R9 < 2 ^ 31) (hb : 10 ^ m ≤ R9) : PU MX6_judge 5 [.ref 2, .int (nI m), .int (nI R9)] h (.int (-2)) (fun h' => h' = h) := by
  intro z
  refine Cal_of_R (by decide +kernel) (L := [.ref 2, .int (nI m), .int (nI R9), .null, .null]) rfl (Nat.le_of_ble_eq_true rfl) ?_
  refine r_iload iX6_judge_0 rfl ?_
  refine r_iconst (v := 1) iX6_judge_1 rfl ?_
  refine r_icmp_lt iX6_judge_2 (fun g9 => absurd g9 (nI_nlt (b := 1) h1 (by omega))) (fun _ => ?_)
  refine r_iload iX6_judge_5 rfl ?_
  refine r_bipush (v := 8) iX6_judge_6 rfl ?_
  refine r_icmp_gt iX6_judge_8 (fun g9 => absurd g9 (nI_nlt (a := 8) h8 (by omega))) (fun _ => ?_)
  refine r_iload iX6_judge_11 rfl ?_
  refine r_if_lt iX6_judge_12 (fun g9 => absurd g9 (nI_pos hR)) (fun _ => ?_)
  refine r_iload iX6_judge_15 rfl ?_
  refine r_i2l iX6_judge_16 ?_
  refine r_getTENS iX6_judge_17 (gt_2 104 rfl rfl) ?_
  refine r_iload iX6_judge_20 rfl ?_
  refine r_laload iX6_judge_21 (hT) (vp_in_nI (by omega) (by decide)) (ten_at (by omega)) ?_
  refine r_lcmp iX6_judge_22 ?_
  have g : ¬ lg_cmp (nI R9).toInt64 (lN (10 ^ m)) < 0 := fun q => by
    rw [lg_cmp_lt, nI_l hR, pk_lLT (by omega) (ten_lt (by omega))] at q
    omega
  refine r_if_lt iX6_judge_23 (fun g9 => absurd g9 (g)) (fun _ => ?_)
  refine r_bipush (v := (-2)) iX6_judge_26 rfl ?_
  refine r_iret iX6_judge_28 rfl ?_
  exact ⟨rfl, rfl, rfl, fun _ _ => rfl⟩
theorem c6_judge {h : Hp} (hT : tenAt h) {T : Tx} {n : Nat} {b u : Int32} {t : Nat → Nat → Int32} {sz nx : Nat} {W sl : Nat → Cn} {kp : Nat → Int32} {seed : Int64} (hn : n ≤ 4) (hu : okU n u) (H : cls h T (n, b, u, t) sz nx W sl kp seed) {m : Nat} (h1 : 1 ≤ m) (h8 : m ≤ 8) {R9 : Nat} (hR : R9 < 10 ^ m) : ∃ t0, PU MX6_judge 5 [.ref 2, .int (nI m), .int (nI R9)] h (.int (jdg R9 m m 0 (copyC (n, b, u, t) t0))) (fun h' => cls h' T (n, b, u, t) sz nx W sl kp seed) := by
  obtain ⟨tr, pt, h_obj, h_tx, h_cu, h_tr, h_ac, h_sl, h_kp, h_pt, h_sh⟩ := id H
  have hR31 : R9 < 2 ^ 31 := Nat.lt_of_lt_of_le hR (Nat.le_trans (Nat.pow_le_pow_right (by decide) h8) (by decide))
  refine ⟨tr.2.2.2, ?_⟩
  intro z
  have P := Pr_con h_tr (c2_copyFrom h 11 5 (by omega) tr hn b u t (by omega) h_cu)
  refine Cal_of_R (by decide +kernel) (L := [.ref 2, .int (nI m), .int (nI R9), .null, .null]) rfl (Nat.le_of_ble_eq_true rfl) ?_
  refine r_iload iX6_judge_0 rfl ?_
  refine r_iconst (v := 1) iX6_judge_1 rfl ?_
  refine r_icmp_lt iX6_judge_2 (fun g9 => absurd g9 (nI_nlt (b := 1) h1 (by omega))) (fun _ => ?_)
  refine r_iload iX6_judge_5 rfl ?_
  refine r_bipush (v := 8) iX6_judge_6 rfl ?_
  refine r_icmp_gt iX6_judge_8 (fun g9 => absurd g9 (nI_nlt (a := 8) h8 (by omega))) (fun _ => ?_)
  refine r_iload iX6_judge_11 rfl ?_
  refine r_if_lt iX6_judge_12 (fun g9 => absurd g9 (nI_pos hR31)) (fun _ => ?_)
  refine r_iload iX6_judge_15 rfl ?_
  refine r_i2l iX6_judge_16 ?_
  refine r_getTENS iX6_judge_17 (gt_2 104 rfl rfl) ?_
  refine r_iload iX6_judge_20 rfl ?_
  refine r_laload iX6_judge_21 (hT) (vp_in_nI (by omega) (by decide)) (ten_at (by omega)) ?_
  refine r_lcmp iX6_judge_22 ?_
  have g : lg_cmp (nI R9).toInt64 (lN (10 ^ m)) < 0 := by rw [lg_cmp_lt, nI_l hR31, pk_lLT (by omega) (ten_lt (by omega))]; exact hR
  refine r_if_lt iX6_judge_23 (fun _ => ?_) (fun g9 => absurd (g) g9)
  refine r_aload iX6_judge_29 rfl ?_
  refine r_getfield iX6_judge_30 (flX6_23 _ rfl) h_obj rfl ?_
  refine r_aload iX6_judge_33 rfl ?_
  refine r_getfield iX6_judge_34 (flX6_19 _ rfl) h_obj rfl ?_
  refine r_callV iX6_judge_37 (cX6_125 _ rfl) (P _) (by omega) (h_tr.1) rfl rfl rfl (Nat.le_of_ble_eq_true rfl) (by first | exact Nat.le_of_ble_eq_true rfl | omega) (by first | exact Nat.le_of_ble_eq_true rfl | omega) ?_
  rintro v' h' z' ⟨rfl, rfl, rfl⟩
  have ho : ∀ (K9 : Cn) (a : Nat), (a < 2 ∨ 152 ≤ a) → cOv h 11 K9 a = h a := fun K9 a ha => cOv_out _ _ _ (by omega)
  have HH : ∀ K9 : Cn, cls (cOv h 11 K9) T (n, b, u, t) sz nx W sl kp seed := fun K9 => H.tr (fun a ha => cOv_out _ _ _ (by omega)) (conAt_cOv _ _ _)
  have hobj : ∀ K9 : Cn, cOv h 11 K9 2 = some (.inr (5, [.ref 3, .ref 5, .ref 11, .ref 17, .ref 115, .ref 128, .ref 129, .ref 143, .long seed])) := fun K9 => (cOv_out _ _ _ (by omega)).trans h_obj
  have loop : ∀ (j p : Nat) (w : Value) (b1 u1 : Int32) (t1 : Nat → Nat → Int32), p + j = m → okU n u1 → jdg R9 m j p (n, b1, u1, t1) = jdg R9 m m 0 (copyC (n, b, u, t) tr.2.2.2) → ∀ z, R MX6_judge 5 0 0 (fun v h' z' => v = some (.int (jdg R9 m m 0 (copyC (n, b, u, t) tr.2.2.2))) ∧ z' = z ∧ cls h' T (n, b, u, t) sz nx W sl kp seed ∧ ∀ a, (a < 2 ∨ 152 ≤ a) → h' a = h a) 42 [.ref 2, .int (nI m), .int (nI R9), .int (nI p), w] [] (cOv h 11 (n, b1, u1, t1)) z 0 0 := by
    intro j
    induction j with
    | zero =>
      intro p w b1 u1 t1 hp hu1 hj z
      refine r_iload iX6_judge_42 rfl ?_
      refine r_iload iX6_judge_43 rfl ?_
      refine r_icmp_ge iX6_judge_44 (fun _ => ?_) (fun g9 => absurd (nI_le (by omega) (by omega)) g9)
      refine r_bipush (v := (-9)) iX6_judge_91 rfl ?_
      refine r_iret iX6_judge_93 rfl ?_
      exact ⟨by rw [← hj]; rfl, rfl, HH _, ho _⟩
    | succ j ih =>
      intro p w b1 u1 t1 hp hu1 hj z
      rw [jdg] at hj
      dsimp only at hj
      have e1 : nI m - 1 - nI p = nI (m - 1 - p) := by
        rw [show nI m - 1 = nI (m - 1) from pk_sub (b := 1) h1, pk_sub (by omega)]
      refine r_iload iX6_judge_42 rfl ?_
      refine r_iload iX6_judge_43 rfl ?_
      refine r_icmp_ge iX6_judge_44 (fun g9 => absurd g9 (nI_ge (by omega) (by omega))) (fun _ => ?_)
      refine r_iload iX6_judge_47 rfl ?_
      refine r_iload iX6_judge_48 rfl ?_
      refine r_iconst (v := 1) iX6_judge_49 rfl ?_
      refine r_isub iX6_judge_50 ?_
      refine r_iload iX6_judge_51 rfl ?_
      refine r_isub iX6_judge_52 ?_
      rw [e1]
      refine r_callS iX6_judge_53 (cX6_128 _ rfl) (c6_figureOf _ R9 (m - 1 - p) hR31 (by omega) _) (by omega) rfl rfl (Nat.le_of_ble_eq_true rfl) (by first | exact Nat.le_of_ble_eq_true rfl | omega) (by first | exact Nat.le_of_ble_eq_true rfl | omega) ?_
      rintro v h' z' ⟨rfl, rfl, rfl⟩
      have hd10 : R9 / 10 ^ (m - 1 - p) % 10 < 10 := Nat.mod_lt _ (by decide)
      generalize R9 / 10 ^ (m - 1 - p) % 10 = dd at hj hd10
      refine r_istore_4 iX6_judge_56 rfl ?_
      refine r_aload iX6_judge_58 rfl ?_
      refine r_getfield iX6_judge_59 (flX6_23 _ rfl) (hobj _) rfl ?_
      refine r_callV iX6_judge_62 (cX6_106 _ rfl) (c2_isEnded h 11 hn b1 u1 t1 _) (by omega) (cOv_obj _ _ _) rfl rfl rfl (Nat.le_of_ble_eq_true rfl) (by first | exact Nat.le_of_ble_eq_true rfl | omega) (by first | exact Nat.le_of_ble_eq_true rfl | omega) ?_
      rintro v h' z' ⟨rfl, rfl, rfl⟩
      rcases hu1 with rfl | ⟨i, hi, rfl⟩
      · rw [if_pos (Or.inl rfl)] at hj
        rw [i_end]
        refine r_if_ne iX6_judge_65 (fun _ => ?_) (fun g9 => absurd g9 (by decide))
        refine r_iload iX6_judge_74 rfl ?_
        refine r_iret iX6_judge_75 rfl ?_
        exact ⟨by rw [← hj], rfl, HH _, ho _⟩
      · rw [i_go hn hi]
        by_cases hd : 2 < dd
        · rw [if_pos (Or.inr hd)] at hj
          refine r_if_ne iX6_judge_65 (fun g9 => absurd (rfl) g9) (fun _ => ?_)
          refine r_iload iX6_judge_68 rfl ?_
          refine r_iconst (v := 2) iX6_judge_70 rfl ?_
          refine r_icmp_le iX6_judge_71 (fun g9 => absurd g9 (nI_ge (a := 2) hd (by omega))) (fun _ => ?_)
          refine r_iload iX6_judge_74 rfl ?_
          refine r_iret iX6_judge_75 rfl ?_
          exact ⟨by rw [← hj], rfl, HH _, ho _⟩
        · rw [if_neg (fun q => q.elim (nI_9 (by omega)) hd), e_tn (by omega)] at hj
          refine r_if_ne iX6_judge_65 (fun g9 => absurd (rfl) g9) (fun _ => ?_)
          refine r_iload iX6_judge_68 rfl ?_
          refine r_iconst (v := 2) iX6_judge_70 rfl ?_
          refine r_icmp_le iX6_judge_71 (fun _ => ?_) (fun g9 => absurd (nI_le (b := 2) (by omega) (by omega)) g9)
          refine r_aload iX6_judge_76 rfl ?_
          refine r_getfield iX6_judge_77 (flX6_23 _ rfl) (hobj _) rfl ?_
          refine r_iload iX6_judge_80 rfl ?_
          refine r_callV iX6_judge_82 (cX6_114 _ rfl) (c2_act h 11 (by omega) hn hi (show dd < 3 by omega) b1 t1 _) (by omega) (cOv_obj _ _ _) rfl rfl rfl (Nat.le_of_ble_eq_true rfl) (by first | exact Nat.le_of_ble_eq_true rfl | omega) (by first | exact Nat.le_of_ble_eq_true rfl | omega) ?_
          rintro v h' z' ⟨rfl, rfl, rfl⟩
          refine r_iinc_3 iX6_judge_85 (by first | exact nI_inc _ | rfl) rfl ?_
          refine r_goto iX6_judge_88 ?_
          have hA : actC n b1 i t1 dd = (n, (actC n b1 i t1 dd).2.1, (actC n b1 i t1 dd).2.2.1, (actC n b1 i t1 dd).2.2.2) := by
            have := goOnC_n n b1 i (upT t1 i (kAct (t1 i) b1 dd))
            unfold actC
            rw [show goOnC n b1 i (upT t1 i (kAct (t1 i) b1 dd)) = ((goOnC n b1 i (upT t1 i (kAct (t1 i) b1 dd))).1, (goOnC n b1 i (upT t1 i (kAct (t1 i) b1 dd))).2.1, (goOnC n b1 i (upT t1 i (kAct (t1 i) b1 dd))).2.2.1, (goOnC n b1 i (upT t1 i (kAct (t1 i) b1 dd))).2.2.2) from rfl, this]
          rw [hA] at hj ⊢
          exact ih (p + 1) _ _ _ _ (by omega) (goOnC_okU _ _ _ _) hj _
  refine r_iconst (v := 0) iX6_judge_40 rfl ?_
  refine r_istore_3 iX6_judge_41 rfl ?_
  exact loop m 0 _ _ _ _ (by omega) hu rfl _
