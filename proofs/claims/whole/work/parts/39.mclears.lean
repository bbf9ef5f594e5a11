/-! the model's chances at the bar -/
theorem c7_common (h : Hp) (x y : Nat) (hx : x < 2 ^ 63) (hy : y < 2 ^ 63) : Fn MX7_common 0 [.long (lN x), .long (lN y)] h (some (.long (lN (Nat.gcd x y)))) := by
  intro z
  refine Cal_of_R (by decide +kernel) (L := [.long (lN x), .null, .long (lN y), .null, .null, .null, .null, .null, .null, .null]) rfl (Nat.le_of_ble_eq_true rfl) ?_
  have loop : ∀ (k a b : Nat) (w : Value), b ≤ k → a < 2 ^ 63 → b < 2 ^ 63 → Nat.gcd a b = Nat.gcd x y → R MX7_common 0 0 0 (fun v h' z' => v = some (.long (lN (Nat.gcd x y))) ∧ h' = h ∧ z' = z) 6 [.long (lN x), .null, .long (lN y), .null, .long (lN a), .null, .long (lN b), .null, w, .null] [] h z 0 0 := by
    intro k
    induction k with
    | zero =>
      intro a b w hk ha hb he
      obtain rfl : b = 0 := by omega
      refine r_lload iX7_common_6 rfl ?_
      refine r_lconst (v := 0) iX7_common_8 rfl ?_
      refine r_lcmp iX7_common_9 ?_
      refine r_if_eq iX7_common_10 (fun _ => ?_) (fun g9 => absurd ((lg_cmp_eq _ _).mpr rfl) g9)
      refine r_lload iX7_common_31 rfl ?_
      refine r_lret iX7_common_33 rfl ?_
      exact ⟨by rw [← he, Nat.gcd_zero_right], rfl, rfl⟩
    | succ k ih =>
      intro a b w hk ha hb he
      by_cases h0 : b = 0
      · subst h0
        refine r_lload iX7_common_6 rfl ?_
        refine r_lconst (v := 0) iX7_common_8 rfl ?_
        refine r_lcmp iX7_common_9 ?_
        refine r_if_eq iX7_common_10 (fun _ => ?_) (fun g9 => absurd ((lg_cmp_eq _ _).mpr rfl) g9)
        refine r_lload iX7_common_31 rfl ?_
        refine r_lret iX7_common_33 rfl ?_
        exact ⟨by rw [← he, Nat.gcd_zero_right], rfl, rfl⟩
      · have g0 : ¬ lN b = 0 := fun q => h0 ((pk_lEQ (b := 0) hb (by omega)).mp q)
        have g : ¬ lg_cmp (lN b) 0 = 0 := fun q => g0 ((lg_cmp_eq _ _).mp q)
        have hm : a % b < b := Nat.mod_lt _ (Nat.pos_of_ne_zero h0)
        refine r_lload iX7_common_6 rfl ?_
        refine r_lconst (v := 0) iX7_common_8 rfl ?_
        refine r_lcmp iX7_common_9 ?_
        refine r_if_eq iX7_common_10 (fun g9 => absurd g9 (g)) (fun _ => ?_)
        refine r_lload iX7_common_13 rfl ?_
        refine r_lload iX7_common_15 rfl ?_
        refine r_lrem iX7_common_17 (g0) ?_
        rw [pk_lRem ha (Nat.pos_of_ne_zero h0) hb]
        refine r_lstore_8 iX7_common_18 rfl ?_
        refine r_lload iX7_common_20 rfl ?_
        refine r_lstore_4 iX7_common_22 rfl ?_
        refine r_lload iX7_common_24 rfl ?_
        refine r_lstore_6 iX7_common_26 rfl ?_
        refine r_goto iX7_common_28 ?_
        refine ih b (a % b) _ (by omega) hb (by omega) ?_
        rw [← he, Nat.gcd_comm b, ← Nat.gcd_rec b a, Nat.gcd_comm]
  refine r_lload iX7_common_0 rfl ?_
  refine r_lstore_4 iX7_common_1 rfl ?_
  refine r_lload iX7_common_3 rfl ?_
  refine r_lstore_6 iX7_common_4 rfl ?_
  exact loop y x y _ (Nat.le_refl _) hx hy rfl
theorem frac_mul {c : Nat} (hc : 0 < c) (x y : Nat) (w : Int32) : frac (c * x) (c * y) w = frac x y w := by
  unfold frac
  rw [Nat.gcd_mul_left]
  by_cases g : w = 0
  · rw [if_pos g, if_pos g, Nat.mul_div_mul_left _ _ hc]
  · rw [if_neg g, if_neg g, Nat.mul_div_mul_left _ _ hc]
theorem c7_isOut (h : Hp) (I : Nat → Int32) (J : Nat → Int64) {A : Nat → Nat → Int32} (me : Nat → Int64) {n : Nat} {b u : Int32} {t : Nat → Nat → Int32} (H : En A 0 n b u t) (hn : n ≤ 4) {i : Nat} (hi : i < n) : Fn MX7_isOut 1 [.ref 152, .int (nI i)] (mOv h (I, J, A, me)) (some (.int (if t i 7 = 3 then 1 else 0))) := by
  intro z
  refine Cal_of_R (by decide +kernel) (L := [.ref 152, .int (nI i)]) rfl (Nat.le_of_ble_eq_true rfl) ?_
  refine r_aload iX7_isOut_0 rfl ?_
  refine r_iconst (v := 0) iX7_isOut_1 rfl ?_
  refine r_iload iX7_isOut_2 rfl ?_
  refine r_iconst (v := 5) iX7_isOut_3 rfl ?_
  refine r_callV iX7_isOut_4 (cX7_77 _ rfl) (c7_mark h I J A me (l := 0) (by omega) (t := i) (by omega) (w := 5) (by omega) _) (by omega) (mOv_obj _ _) rfl rfl rfl (Nat.le_of_ble_eq_true rfl) (by first | exact Nat.le_of_ble_eq_true rfl | omega) (by first | exact Nat.le_of_ble_eq_true rfl | omega) ?_
  rintro v h' z' ⟨rfl, rfl, rfl⟩
  rw [show _ = t i 7 from H.mk (w := 5) hi (by omega)]
  by_cases g : t i 7 = 3
  · refine r_iconst (v := 3) iX7_isOut_7 rfl ?_
    refine r_icmp_ne iX7_isOut_8 (fun g9 => absurd (g) g9) (fun _ => ?_)
    refine r_iconst (v := 1) iX7_isOut_11 rfl ?_
    refine r_goto iX7_isOut_12 ?_
    refine r_zret iX7_isOut_16 rfl (Or.inr rfl) ?_
    exact ⟨by rw [if_pos g], rfl, rfl⟩
  · refine r_iconst (v := 3) iX7_isOut_7 rfl ?_
    refine r_icmp_ne iX7_isOut_8 (fun _ => ?_) (fun g9 => absurd g9 (g))
    refine r_iconst (v := 0) iX7_isOut_15 rfl ?_
    refine r_zret iX7_isOut_16 rfl (Or.inl rfl) ?_
    exact ⟨by rw [if_neg g], rfl, rfl⟩
theorem c7_clearsOf (h : Hp) (I : Nat → Int32) (J : Nat → Int64) {A : Nat → Nat → Int32} (me : Nat → Int64) {n : Nat} {b u : Int32} {t : Nat → Nat → Int32} (H : En A 0 n b u t) (hn : n ≤ 4) {i : Nat} (hi : i < n) (hw : 0 < t i 1) {r : Nat} (hr : t i 3 = nI r) (hr3 : r ≤ 3) : Fn MX7_clearsOf 2 [.ref 152, .int (nI i)] (mOv h (I, J, A, me)) (some (.int (nI (1000 - 10 ^ r * prodF (t i) b (3 - r))))) := by
  intro z
  refine Cal_of_R (by decide +kernel) (L := [.ref 152, .int (nI i), .null, .null, .null, .null, .null]) rfl (Nat.le_of_ble_eq_true rfl) ?_
  refine r_iconst (v := 0) iX7_clearsOf_0 rfl ?_
  refine r_istore_2 iX7_clearsOf_1 rfl ?_
  refine r_sipush (v := 1000) iX7_clearsOf_2 rfl ?_
  refine r_istore_3 iX7_clearsOf_5 rfl ?_
  refine r_aload iX7_clearsOf_6 rfl ?_
  refine r_iconst (v := 0) iX7_clearsOf_7 rfl ?_
  refine r_iload iX7_clearsOf_8 rfl ?_
  refine r_iconst (v := 0) iX7_clearsOf_9 rfl ?_
  refine r_callV iX7_clearsOf_10 (cX7_77 _ rfl) (c7_mark h I J A me (l := 0) (by omega) (t := i) (by omega) (w := 0) (by omega) _) (by omega) (mOv_obj _ _) rfl rfl rfl (Nat.le_of_ble_eq_true rfl) (by first | exact Nat.le_of_ble_eq_true rfl | omega) (by first | exact Nat.le_of_ble_eq_true rfl | omega) ?_
  rintro v h' z' ⟨rfl, rfl, rfl⟩
  rw [show _ = t i 2 from H.mk (w := 0) hi (by omega)]
  refine r_istore_4 iX7_clearsOf_13 rfl ?_
  refine r_aload iX7_clearsOf_15 rfl ?_
  refine r_iconst (v := 0) iX7_clearsOf_16 rfl ?_
  refine r_iload iX7_clearsOf_17 rfl ?_
  refine r_iconst (v := 1) iX7_clearsOf_18 rfl ?_
  refine r_callV iX7_clearsOf_19 (cX7_77 _ rfl) (c7_mark h I J A me (l := 0) (by omega) (t := i) (by omega) (w := 1) (by omega) _) (by omega) (mOv_obj _ _) rfl rfl rfl (Nat.le_of_ble_eq_true rfl) (by first | exact Nat.le_of_ble_eq_true rfl | omega) (by first | exact Nat.le_of_ble_eq_true rfl | omega) ?_
  rintro v h' z' ⟨rfl, rfl, rfl⟩
  rw [show _ = t i 3 from H.mk (w := 1) hi (by omega), hr]
  refine r_istore_5 iX7_clearsOf_22 rfl ?_
  have loop : ∀ (j p L S : Nat) (w : Value) (x : Int32), r + p + j = 3 → L = 10 ^ (3 - p) * prodF (t i) b p → S + L = 1000 → x = t i 2 + nI p → R MX7_clearsOf 2 0 0 (fun v h' z'_1 => v = some (.int (nI (1000 - 10 ^ r * prodF (t i) b (3 - r)))) ∧ h' = mOv h (I, J, A, me) ∧ z'_1 = z') 24 [.ref 152, .int (nI i), .int (nI S), .int (nI L), .int x, .int (nI (r + p)), w] [] (mOv h (I, J, A, me)) z' 0 0 := by
    intro j
    induction j with
    | zero =>
      intro p L S w x hp hL hS hx
      refine r_iload iX7_clearsOf_24 rfl ?_
      refine r_iconst (v := 3) iX7_clearsOf_26 rfl ?_
      refine r_icmp_ge iX7_clearsOf_27 (fun _ => ?_) (fun g9 => absurd (nI_le (a := 3) (by omega) (by omega)) g9)
      refine r_iload iX7_clearsOf_75 rfl ?_
      refine r_iret iX7_clearsOf_76 rfl ?_
      refine ⟨?_, rfl, rfl⟩
      rw [show r = 3 - p by omega, show 3 - (3 - p) = p by omega, ← hL, show 1000 - L = S by omega]
    | succ j ih =>
      intro p L S w x hp hL hS hx
      obtain ⟨q, hq9, hq⟩ := imx (9 + (t i) 0 - b - kTired (t i) (nI p))
      have hk : kOdds (t i) b (nI p) = nI q := hq
      have hpN : pN (t i) b (nI p) = q := by unfold pN; rw [hk, nI_clamp (by omega)]
      have e3 : 10 ^ (3 - p) = 10 * 10 ^ (3 - (p + 1)) := by rw [show 3 - p = (3 - (p + 1)) + 1 by omega, Nat.pow_succ, Nat.mul_comm]
      have hL10 : L / 10 = 10 ^ (3 - (p + 1)) * prodF (t i) b p := by
        rw [hL, e3, Nat.mul_assoc, Nat.mul_div_cancel_left _ (by decide)]
      have hLm : L = 10 * (L / 10) := by rw [hL10, ← Nat.mul_assoc, ← e3]; exact hL
      refine r_iload iX7_clearsOf_24 rfl ?_
      refine r_iconst (v := 3) iX7_clearsOf_26 rfl ?_
      refine r_icmp_ge iX7_clearsOf_27 (fun g9 => absurd g9 (nI_ge (b := 3) (by omega) (by omega))) (fun _ => ?_)
      refine r_aload iX7_clearsOf_30 rfl ?_
      refine r_iload iX7_clearsOf_31 rfl ?_
      refine r_aload iX7_clearsOf_32 rfl ?_
      refine r_gnow iX7_clearsOf_33 (flX7_19 _ rfl) ?_
      refine r_iconst (v := 0) iX7_clearsOf_36 rfl ?_
      refine r_ld3 iX7_clearsOf_37 ((show (0 : Int32) = nI 0 from rfl)) (by omega) ?_
      refine r_iload iX7_clearsOf_38 rfl ?_
      rw [show A 3 0 = b from H.1]
      refine r_callV iX7_clearsOf_40 (cX7_94 _ rfl) (c7_oddsOf h I J me (k := t i) (i := i) (by omega) (H.2.2 i hi).1.symm (H.2.2 i hi).2.1.symm hw b (nI p) x hx _) (by omega) (mOv_obj _ _) rfl rfl rfl (Nat.le_of_ble_eq_true rfl) (by first | exact Nat.le_of_ble_eq_true rfl | omega) (by first | exact Nat.le_of_ble_eq_true rfl | omega) ?_
      rintro v h' z9 ⟨rfl, rfl, rfl⟩
      rw [hk]
      refine r_istore_6 iX7_clearsOf_43 rfl ?_
      refine r_iload iX7_clearsOf_45 rfl ?_
      refine r_iload iX7_clearsOf_46 rfl ?_
      refine r_bipush (v := 10) iX7_clearsOf_47 rfl ?_
      refine r_idiv iX7_clearsOf_49 (by decide) ?_
      rw [show nI L / 10 = nI (L / 10) from pk_div (d := 10) (by omega) (by decide) (by decide)]
      refine r_iload iX7_clearsOf_50 rfl ?_
      refine r_imul iX7_clearsOf_52 ?_
      refine r_iadd iX7_clearsOf_53 ?_
      rw [pk_mul, nI_add]
      refine r_istore_2 iX7_clearsOf_54 rfl ?_
      refine r_iload iX7_clearsOf_55 rfl ?_
      refine r_bipush (v := 10) iX7_clearsOf_56 rfl ?_
      refine r_idiv iX7_clearsOf_58 (by decide) ?_
      rw [show nI L / 10 = nI (L / 10) from pk_div (d := 10) (by omega) (by decide) (by decide)]
      refine r_bipush (v := 10) iX7_clearsOf_59 rfl ?_
      refine r_iload iX7_clearsOf_61 rfl ?_
      refine r_isub iX7_clearsOf_63 ?_
      rw [show (10 : Int32) - nI q = nI (10 - q) from nI_sub (a := 10) (by omega)]
      refine r_imul iX7_clearsOf_64 ?_
      rw [pk_mul]
      refine r_istore_3 iX7_clearsOf_65 rfl ?_
      refine r_iinc_4 iX7_clearsOf_66 (by first | exact nI_inc _ | rfl) rfl ?_
      refine r_iinc_5 iX7_clearsOf_69 (by first | exact nI_inc _ | rfl) rfl ?_
      refine r_goto iX7_clearsOf_72 ?_
      have hm : L / 10 * q + L / 10 * (10 - q) = L := by
        rw [← Nat.mul_add, show q + (10 - q) = 10 by omega, Nat.mul_comm]; exact hLm.symm
      refine ih (p + 1) (L / 10 * (10 - q)) (S + L / 10 * q) _ _ (by omega) ?_ (by omega) ?_
      · rw [hL10, prodF, hpN, Nat.mul_assoc]
      · rw [hx, Int32.add_assoc]
        exact congrArg _ (nI_1 p)
  exact loop (3 - r) 0 1000 0 _ _ (by omega) rfl rfl (Int32.add_zero _).symm
theorem clr_split {r : Nat} (hr : r ≤ 3) (F : Nat) (hF : F ≤ 10 ^ (3 - r)) : 1000 - 10 ^ r * F = 10 ^ r * (10 ^ (3 - r) - F) ∧ 1000 = 10 ^ r * 10 ^ (3 - r) := by
  have e : 10 ^ r * 10 ^ (3 - r) = 1000 := by rw [← Nat.pow_add, show r + (3 - r) = 3 by omega]
  exact ⟨by rw [Nat.mul_sub, e], e.symm⟩
theorem c7_clears_unk (h : Hp) {I : Nat → Int32} (J : Nat → Int64) (A : Nat → Nat → Int32) (me : Nat → Int64) {n : Nat} (hn : n ≤ 4) (h0 : I 0 = nI n) {x : Int32} (y : Int32) (hx : ¬ (0 ≤ x ∧ x < nI n)) : Fn MX7_clears 4 [.ref 152, .int x, .int y] (mOv h (I, J, A, me)) (some (.int (-1))) := by
  intro z
  refine Cal_of_R (by decide +kernel) (L := [.ref 152, .int x, .int y, .null, .null]) rfl (Nat.le_of_ble_eq_true rfl) ?_
  refine r_aload iX7_clears_0 rfl ?_
  refine r_iload iX7_clears_1 rfl ?_
  refine r_callV iX7_clears_2 (cX7_74 _ rfl) (c7_isThrower h J A me hn h0 x _) (by omega) (mOv_obj _ _) rfl rfl rfl (Nat.le_of_ble_eq_true rfl) (by first | exact Nat.le_of_ble_eq_true rfl | omega) (by first | exact Nat.le_of_ble_eq_true rfl | omega) ?_
  rintro v h' z' ⟨rfl, rfl, rfl⟩
  rw [if_neg hx]
  refine r_if_ne iX7_clears_5 (fun g9 => absurd (rfl) g9) (fun _ => ?_)
  refine r_iconst (v := (-1)) iX7_clears_8 rfl ?_
  refine r_iret iX7_clears_9 rfl ?_
  exact ⟨rfl, rfl, rfl⟩
theorem c7_clears_out (h : Hp) {I : Nat → Int32} (J : Nat → Int64) {A : Nat → Nat → Int32} (me : Nat → Int64) {n : Nat} {b u : Int32} {t : Nat → Nat → Int32} (hn : n ≤ 4) (h0 : I 0 = nI n) (H : En A 0 n b u t) {i : Nat} (hi : i < n) (y : Int32) (h3 : t i 7 = 3) : Fn MX7_clears 4 [.ref 152, .int (nI i), .int y] (mOv h (I, J, A, me)) (some (.int (-3))) := by
  intro z
  refine Cal_of_R (by decide +kernel) (L := [.ref 152, .int (nI i), .int y, .null, .null]) rfl (Nat.le_of_ble_eq_true rfl) ?_
  refine r_aload iX7_clears_0 rfl ?_
  refine r_iload iX7_clears_1 rfl ?_
  refine r_callV iX7_clears_2 (cX7_74 _ rfl) (c7_isThrower h J A me hn h0 (nI i) _) (by omega) (mOv_obj _ _) rfl rfl rfl (Nat.le_of_ble_eq_true rfl) (by first | exact Nat.le_of_ble_eq_true rfl | omega) (by first | exact Nat.le_of_ble_eq_true rfl | omega) ?_
  rintro v h' z' ⟨rfl, rfl, rfl⟩
  rw [i_ks hn hi]
  refine r_if_ne iX7_clears_5 (fun _ => ?_) (fun g9 => absurd g9 (by decide))
  refine r_aload iX7_clears_10 rfl ?_
  refine r_iload iX7_clears_11 rfl ?_
  refine r_callV iX7_clears_12 (cX7_131 _ rfl) (c7_isOut h I J me H hn hi _) (by omega) (mOv_obj _ _) rfl rfl rfl (Nat.le_of_ble_eq_true rfl) (by first | exact Nat.le_of_ble_eq_true rfl | omega) (by first | exact Nat.le_of_ble_eq_true rfl | omega) ?_
  rintro v h' z' ⟨rfl, rfl, rfl⟩
  rw [if_pos h3]
  refine r_if_eq iX7_clears_15 (fun g9 => absurd g9 (by decide)) (fun _ => ?_)
  refine r_bipush (v := (-3)) iX7_clears_18 rfl ?_
  refine r_iret iX7_clears_20 rfl ?_
  exact ⟨rfl, rfl, rfl⟩
theorem c7_clears (h : Hp) {I : Nat → Int32} (J : Nat → Int64) {A : Nat → Nat → Int32} (me : Nat → Int64) {n : Nat} {b u : Int32} {t : Nat → Nat → Int32} (hn : n ≤ 4) (h0 : I 0 = nI n) (H : En A 0 n b u t) {i : Nat} (hi : i < n) (y : Int32) (h3 : ¬ t i 7 = 3) (hw : 0 < t i 1) {r : Nat} (hr : t i 3 = nI r) (hr3 : r ≤ 3) : Fn MX7_clears 4 [.ref 152, .int (nI i), .int y] (mOv h (I, J, A, me)) (some (.int (nI (frac (10 ^ (3 - r) - prodF (t i) b (3 - r)) (10 ^ (3 - r)) y)))) := by
  intro z
  obtain ⟨e1, e2⟩ := clr_split hr3 (prodF (t i) b (3 - r)) (prodF_le (t i) b (3 - r))
  rw [← frac_mul (Nat.pow_pos (by decide : 0 < 10) : 0 < 10 ^ r), ← e1, ← e2]
  generalize hV : 1000 - 10 ^ r * prodF (t i) b (3 - r) = V
  have hV1 : V ≤ 1000 := by omega
  have hg0 : 0 < Nat.gcd V 1000 := Nat.gcd_pos_of_pos_right _ (by decide)
  have hgl : Nat.gcd V 1000 ≤ 1000 := Nat.gcd_le_right _ (by decide)
  refine Cal_of_R (by decide +kernel) (L := [.ref 152, .int (nI i), .int y, .null, .null]) rfl (Nat.le_of_ble_eq_true rfl) ?_
  refine r_aload iX7_clears_0 rfl ?_
  refine r_iload iX7_clears_1 rfl ?_
  refine r_callV iX7_clears_2 (cX7_74 _ rfl) (c7_isThrower h J A me hn h0 (nI i) _) (by omega) (mOv_obj _ _) rfl rfl rfl (Nat.le_of_ble_eq_true rfl) (by first | exact Nat.le_of_ble_eq_true rfl | omega) (by first | exact Nat.le_of_ble_eq_true rfl | omega) ?_
  rintro v h' z' ⟨rfl, rfl, rfl⟩
  rw [i_ks hn hi]
  refine r_if_ne iX7_clears_5 (fun _ => ?_) (fun g9 => absurd g9 (by decide))
  refine r_aload iX7_clears_10 rfl ?_
  refine r_iload iX7_clears_11 rfl ?_
  refine r_callV iX7_clears_12 (cX7_131 _ rfl) (c7_isOut h I J me H hn hi _) (by omega) (mOv_obj _ _) rfl rfl rfl (Nat.le_of_ble_eq_true rfl) (by first | exact Nat.le_of_ble_eq_true rfl | omega) (by first | exact Nat.le_of_ble_eq_true rfl | omega) ?_
  rintro v h' z' ⟨rfl, rfl, rfl⟩
  rw [if_neg h3]
  refine r_if_eq iX7_clears_15 (fun _ => ?_) (fun g9 => absurd (rfl) g9)
  refine r_aload iX7_clears_21 rfl ?_
  refine r_iload iX7_clears_22 rfl ?_
  refine r_callV iX7_clears_23 (cX7_134 _ rfl) (c7_clearsOf h I J me H hn hi hw hr hr3 _) (by omega) (mOv_obj _ _) rfl rfl rfl (Nat.le_of_ble_eq_true rfl) (by first | exact Nat.le_of_ble_eq_true rfl | omega) (by first | exact Nat.le_of_ble_eq_true rfl | omega) ?_
  rintro v h' z' ⟨rfl, rfl, rfl⟩
  rw [hV]
  refine r_istore_3 iX7_clears_26 rfl ?_
  refine r_iload iX7_clears_27 rfl ?_
  refine r_i2l iX7_clears_28 ?_
  rw [nI_l (by omega)]
  refine r_ldc2 (v := 1000) iX7_clears_29 (gt_3 190 rfl rfl) ?_
  refine r_callS iX7_clears_32 (cX7_139 _ rfl) (c7_common _ V 1000 (by omega) (by omega) _) (by omega) rfl rfl (Nat.le_of_ble_eq_true rfl) (by first | exact Nat.le_of_ble_eq_true rfl | omega) (by first | exact Nat.le_of_ble_eq_true rfl | omega) ?_
  rintro v h' z' ⟨rfl, rfl, rfl⟩
  refine r_l2i iX7_clears_35 ?_
  rw [lN_i]
  by_cases g : y = 0
  · refine r_istore_4 iX7_clears_36 rfl ?_
    refine r_iload iX7_clears_38 rfl ?_
    refine r_if_eq iX7_clears_39 (fun _ => ?_) (fun g9 => absurd (g) g9)
    refine r_sipush (v := 1000) iX7_clears_49 rfl ?_
    refine r_iload iX7_clears_52 rfl ?_
    refine r_idiv iX7_clears_54 (nI_ne0 hg0 (by omega)) ?_
    rw [show (1000 : Int32) / nI (Nat.gcd V 1000) = nI (1000 / Nat.gcd V 1000) from pk_div (a := 1000) (by omega) hg0 (by omega)]
    refine r_iret iX7_clears_55 rfl ?_
    exact ⟨by rw [frac, if_pos g], rfl, rfl⟩
  · refine r_istore_4 iX7_clears_36 rfl ?_
    refine r_iload iX7_clears_38 rfl ?_
    refine r_if_eq iX7_clears_39 (fun g9 => absurd g9 (g)) (fun _ => ?_)
    refine r_iload iX7_clears_42 rfl ?_
    refine r_iload iX7_clears_43 rfl ?_
    refine r_idiv iX7_clears_45 (nI_ne0 hg0 (by omega)) ?_
    rw [pk_div (by omega) hg0 (by omega)]
    refine r_goto iX7_clears_46 ?_
    refine r_iret iX7_clears_55 rfl ?_
    exact ⟨by rw [frac, if_neg g], rfl, rfl⟩
theorem c7_alone_unk (h : Hp) {I : Nat → Int32} (J : Nat → Int64) (A : Nat → Nat → Int32) (me : Nat → Int64) {n : Nat} (hn : n ≤ 4) (h0 : I 0 = nI n) {x x2 : Int32} (y : Int32) (hx : ¬ (0 ≤ x ∧ x < nI n) ∨ ¬ (0 ≤ x2 ∧ x2 < nI n)) : Fn MX7_alone 4 [.ref 152, .int x, .int x2, .int y] (mOv h (I, J, A, me)) (some (.int (-1))) := by
  intro z
  refine Cal_of_R (by decide +kernel) (L := [.ref 152, .int x, .int x2, .int y, .null, .null, .null, .null]) rfl (Nat.le_of_ble_eq_true rfl) ?_
  refine r_aload iX7_alone_0 rfl ?_
  refine r_iload iX7_alone_1 rfl ?_
  refine r_callV iX7_alone_2 (cX7_74 _ rfl) (c7_isThrower h J A me hn h0 x _) (by omega) (mOv_obj _ _) rfl rfl rfl (Nat.le_of_ble_eq_true rfl) (by first | exact Nat.le_of_ble_eq_true rfl | omega) (by first | exact Nat.le_of_ble_eq_true rfl | omega) ?_
  rintro v h' z' ⟨rfl, rfl, rfl⟩
  by_cases g : 0 ≤ x ∧ x < nI n
  · rw [if_pos g]
    refine r_if_eq iX7_alone_5 (fun g9 => absurd g9 (by decide)) (fun _ => ?_)
    refine r_aload iX7_alone_8 rfl ?_
    refine r_iload iX7_alone_9 rfl ?_
    refine r_callV iX7_alone_10 (cX7_74 _ rfl) (c7_isThrower h J A me hn h0 x2 _) (by omega) (mOv_obj _ _) rfl rfl rfl (Nat.le_of_ble_eq_true rfl) (by first | exact Nat.le_of_ble_eq_true rfl | omega) (by first | exact Nat.le_of_ble_eq_true rfl | omega) ?_
    rintro v h' z' ⟨rfl, rfl, rfl⟩
    rw [if_neg (hx.resolve_left (fun q => q g))]
    refine r_if_ne iX7_alone_13 (fun g9 => absurd (rfl) g9) (fun _ => ?_)
    refine r_iconst (v := (-1)) iX7_alone_16 rfl ?_
    refine r_iret iX7_alone_17 rfl ?_
    exact ⟨rfl, rfl, rfl⟩
  · rw [if_neg g]
    refine r_if_eq iX7_alone_5 (fun _ => ?_) (fun g9 => absurd (rfl) g9)
    refine r_iconst (v := (-1)) iX7_alone_16 rfl ?_
    refine r_iret iX7_alone_17 rfl ?_
    exact ⟨rfl, rfl, rfl⟩
theorem alone_in (h : Hp) {I : Nat → Int32} (J : Nat → Int64) (A : Nat → Nat → Int32) (me : Nat → Int64) {n : Nat} (hn : n ≤ 4) (h0 : I 0 = nI n) {i j : Nat} (hi : i < n) (hj : j < n) {Q : Option Value → Hp → Nat → Prop} (y : Int32) (z : Nat) (K : R MX7_alone 4 0 0 Q 18 [.ref 152, .int (nI i), .int (nI j), .int y, .null, .null, .null, .null] [] (mOv h (I, J, A, me)) z 0 0) : R MX7_alone 4 0 0 Q 0 [.ref 152, .int (nI i), .int (nI j), .int y, .null, .null, .null, .null] [] (mOv h (I, J, A, me)) z 0 0 := by
  refine r_aload iX7_alone_0 rfl ?_
  refine r_iload iX7_alone_1 rfl ?_
  refine r_callV iX7_alone_2 (cX7_74 _ rfl) (c7_isThrower h J A me hn h0 (nI i) _) (by omega) (mOv_obj _ _) rfl rfl rfl (Nat.le_of_ble_eq_true rfl) (by first | exact Nat.le_of_ble_eq_true rfl | omega) (by first | exact Nat.le_of_ble_eq_true rfl | omega) ?_
  rintro v h' z' ⟨rfl, rfl, rfl⟩
  rw [i_ks hn hi]
  refine r_if_eq iX7_alone_5 (fun g9 => absurd g9 (by decide)) (fun _ => ?_)
  refine r_aload iX7_alone_8 rfl ?_
  refine r_iload iX7_alone_9 rfl ?_
  refine r_callV iX7_alone_10 (cX7_74 _ rfl) (c7_isThrower h J A me hn h0 (nI j) _) (by omega) (mOv_obj _ _) rfl rfl rfl (Nat.le_of_ble_eq_true rfl) (by first | exact Nat.le_of_ble_eq_true rfl | omega) (by first | exact Nat.le_of_ble_eq_true rfl | omega) ?_
  rintro v h' z' ⟨rfl, rfl, rfl⟩
  rw [i_ks hn hj]
  refine r_if_ne iX7_alone_13 (fun _ => ?_) (fun g9 => absurd g9 (by decide))
  exact K
theorem c7_alone_one (h : Hp) {I : Nat → Int32} (J : Nat → Int64) (A : Nat → Nat → Int32) (me : Nat → Int64) {n : Nat} (hn : n ≤ 4) (h0 : I 0 = nI n) {i : Nat} (hi : i < n) (y : Int32) : Fn MX7_alone 4 [.ref 152, .int (nI i), .int (nI i), .int y] (mOv h (I, J, A, me)) (some (.int (-2))) := by
  intro z
  refine Cal_of_R (by decide +kernel) (L := [.ref 152, .int (nI i), .int (nI i), .int y, .null, .null, .null, .null]) rfl (Nat.le_of_ble_eq_true rfl) ?_
  refine alone_in h J A me hn h0 hi hi y z ?_
  refine r_iload iX7_alone_18 rfl ?_
  refine r_iload iX7_alone_19 rfl ?_
  refine r_icmp_ne iX7_alone_20 (fun g9 => absurd (rfl) g9) (fun _ => ?_)
  refine r_bipush (v := (-2)) iX7_alone_23 rfl ?_
  refine r_iret iX7_alone_25 rfl ?_
  exact ⟨rfl, rfl, rfl⟩
theorem c7_alone_out (h : Hp) {I : Nat → Int32} (J : Nat → Int64) {A : Nat → Nat → Int32} (me : Nat → Int64) {n : Nat} {b u : Int32} {t : Nat → Nat → Int32} (hn : n ≤ 4) (h0 : I 0 = nI n) (H : En A 0 n b u t) {i j : Nat} (hi : i < n) (hj : j < n) (hij : i ≠ j) (y : Int32) (ho : t i 7 = 3 ∨ t j 7 = 3) : Fn MX7_alone 4 [.ref 152, .int (nI i), .int (nI j), .int y] (mOv h (I, J, A, me)) (some (.int (-3))) := by
  intro z
  refine Cal_of_R (by decide +kernel) (L := [.ref 152, .int (nI i), .int (nI j), .int y, .null, .null, .null, .null]) rfl (Nat.le_of_ble_eq_true rfl) ?_
  refine alone_in h J A me hn h0 hi hj y z ?_
  refine r_iload iX7_alone_18 rfl ?_
  refine r_iload iX7_alone_19 rfl ?_
  refine r_icmp_ne iX7_alone_20 (fun _ => ?_) (fun g9 => absurd g9 (fun q => hij ((nI_eq (by omega) (by omega)).mp q)))
  refine r_aload iX7_alone_26 rfl ?_
  refine r_iload iX7_alone_27 rfl ?_
  refine r_callV iX7_alone_28 (cX7_131 _ rfl) (c7_isOut h I J me H hn hi _) (by omega) (mOv_obj _ _) rfl rfl rfl (Nat.le_of_ble_eq_true rfl) (by first | exact Nat.le_of_ble_eq_true rfl | omega) (by first | exact Nat.le_of_ble_eq_true rfl | omega) ?_
  rintro v h' z' ⟨rfl, rfl, rfl⟩
  by_cases g : t i 7 = 3
  · rw [if_pos g]
    refine r_if_ne iX7_alone_31 (fun _ => ?_) (fun g9 => absurd g9 (by decide))
    refine r_bipush (v := (-3)) iX7_alone_42 rfl ?_
    refine r_iret iX7_alone_44 rfl ?_
    exact ⟨rfl, rfl, rfl⟩
  · rw [if_neg g]
    refine r_if_ne iX7_alone_31 (fun g9 => absurd (rfl) g9) (fun _ => ?_)
    refine r_aload iX7_alone_34 rfl ?_
    refine r_iload iX7_alone_35 rfl ?_
    refine r_callV iX7_alone_36 (cX7_131 _ rfl) (c7_isOut h I J me H hn hj _) (by omega) (mOv_obj _ _) rfl rfl rfl (Nat.le_of_ble_eq_true rfl) (by first | exact Nat.le_of_ble_eq_true rfl | omega) (by first | exact Nat.le_of_ble_eq_true rfl | omega) ?_
    rintro v h' z' ⟨rfl, rfl, rfl⟩
    rw [if_pos (ho.resolve_left g)]
    refine r_if_eq iX7_alone_39 (fun g9 => absurd g9 (by decide)) (fun _ => ?_)
    refine r_bipush (v := (-3)) iX7_alone_42 rfl ?_
    refine r_iret iX7_alone_44 rfl ?_
    exact ⟨rfl, rfl, rfl⟩
theorem alone_eq {r s X Y F G : Nat} (hr : r ≤ 3) (hs : s ≤ 3) (hX : X + F = 10 ^ (3 - r)) (hY : Y + G = 10 ^ (3 - s)) : 10 ^ r * X * (1000 - 10 ^ s * Y) + 10 ^ s * Y * (1000 - 10 ^ r * X) = (10 ^ r * 10 ^ s) * (X * G + Y * F) ∧ 1000000 = (10 ^ r * 10 ^ s) * (10 ^ (3 - r) * 10 ^ (3 - s)) := by
  have e1 : 10 ^ r * 10 ^ (3 - r) = 1000 := by rw [← Nat.pow_add, show r + (3 - r) = 3 by omega]
  have e2 : 10 ^ s * 10 ^ (3 - s) = 1000 := by rw [← Nat.pow_add, show s + (3 - s) = 3 by omega]
  have g1 : 1000 - 10 ^ r * X = 10 ^ r * F := by rw [← e1, ← hX, Nat.mul_add]; omega
  have g2 : 1000 - 10 ^ s * Y = 10 ^ s * G := by rw [← e2, ← hY, Nat.mul_add]; omega
  refine ⟨?_, ?_⟩
  · rw [g1, g2, Nat.mul_add]
    congr 1
    · simp only [Nat.mul_assoc, Nat.mul_left_comm, Nat.mul_comm]
    · simp only [Nat.mul_assoc, Nat.mul_left_comm, Nat.mul_comm]
  · rw [Nat.mul_mul_mul_comm, e1, e2]
theorem c7_alone (h : Hp) {I : Nat → Int32} (J : Nat → Int64) {A : Nat → Nat → Int32} (me : Nat → Int64) {n : Nat} {b u : Int32} {t : Nat → Nat → Int32} (hn : n ≤ 4) (h0 : I 0 = nI n) (H : En A 0 n b u t) {i j : Nat} (hi : i < n) (hj : j < n) (hij : i ≠ j) (y : Int32) (hoi : ¬ t i 7 = 3) (hoj : ¬ t j 7 = 3) (hwi : 0 < t i 1) (hwj : 0 < t j 1) {r s : Nat} (hr : t i 3 = nI r) (hr3 : r ≤ 3) (hs : t j 3 = nI s) (hs3 : s ≤ 3) : Fn MX7_alone 4 [.ref 152, .int (nI i), .int (nI j), .int y] (mOv h (I, J, A, me)) (some (.int (nI (frac ((10 ^ (3 - r) - prodF (t i) b (3 - r)) * prodF (t j) b (3 - s) + (10 ^ (3 - s) - prodF (t j) b (3 - s)) * prodF (t i) b (3 - r)) (10 ^ (3 - r) * 10 ^ (3 - s)) y)))) := by
  intro z
  have hF := prodF_le (t i) b (3 - r)
  have hG := prodF_le (t j) b (3 - s)
  obtain ⟨e1, e2⟩ := clr_split hr3 _ hF
  obtain ⟨e3, e4⟩ := clr_split hs3 _ hG
  obtain ⟨q1, q2⟩ := alone_eq (X := 10 ^ (3 - r) - prodF (t i) b (3 - r)) (Y := 10 ^ (3 - s) - prodF (t j) b (3 - s)) (F := prodF (t i) b (3 - r)) (G := prodF (t j) b (3 - s)) hr3 hs3 (by omega) (by omega)
  rw [← frac_mul (Nat.mul_pos (Nat.pow_pos (by decide)) (Nat.pow_pos (by decide)) : 0 < 10 ^ r * 10 ^ s), ← q1, ← q2, ← e1, ← e3]
  generalize hV : 1000 - 10 ^ r * prodF (t i) b (3 - r) = V
  generalize hU : 1000 - 10 ^ s * prodF (t j) b (3 - s) = U
  have hV1 : V ≤ 1000 := by omega
  have hU1 : U ≤ 1000 := by omega
  have hS : V * (1000 - U) + U * (1000 - V) ≤ 2000000 := by
    have a1 : V * (1000 - U) ≤ 1000 * 1000 := Nat.mul_le_mul hV1 (by omega)
    have a2 : U * (1000 - V) ≤ 1000 * 1000 := Nat.mul_le_mul hU1 (by omega)
    omega
  generalize hSS : V * (1000 - U) + U * (1000 - V) = S at hS ⊢
  have hg0 : 0 < Nat.gcd S 1000000 := Nat.gcd_pos_of_pos_right _ (by decide)
  have hgl : Nat.gcd S 1000000 ≤ 1000000 := Nat.gcd_le_right _ (by decide)
  refine Cal_of_R (by decide +kernel) (L := [.ref 152, .int (nI i), .int (nI j), .int y, .null, .null, .null, .null]) rfl (Nat.le_of_ble_eq_true rfl) ?_
  refine alone_in h J A me hn h0 hi hj y z ?_
  refine r_iload iX7_alone_18 rfl ?_
  refine r_iload iX7_alone_19 rfl ?_
  refine r_icmp_ne iX7_alone_20 (fun _ => ?_) (fun g9 => absurd g9 (fun q => hij ((nI_eq (by omega) (by omega)).mp q)))
  refine r_aload iX7_alone_26 rfl ?_
  refine r_iload iX7_alone_27 rfl ?_
  refine r_callV iX7_alone_28 (cX7_131 _ rfl) (c7_isOut h I J me H hn hi _) (by omega) (mOv_obj _ _) rfl rfl rfl (Nat.le_of_ble_eq_true rfl) (by first | exact Nat.le_of_ble_eq_true rfl | omega) (by first | exact Nat.le_of_ble_eq_true rfl | omega) ?_
  rintro v h' z' ⟨rfl, rfl, rfl⟩
  rw [if_neg hoi]
  refine r_if_ne iX7_alone_31 (fun g9 => absurd (rfl) g9) (fun _ => ?_)
  refine r_aload iX7_alone_34 rfl ?_
  refine r_iload iX7_alone_35 rfl ?_
  refine r_callV iX7_alone_36 (cX7_131 _ rfl) (c7_isOut h I J me H hn hj _) (by omega) (mOv_obj _ _) rfl rfl rfl (Nat.le_of_ble_eq_true rfl) (by first | exact Nat.le_of_ble_eq_true rfl | omega) (by first | exact Nat.le_of_ble_eq_true rfl | omega) ?_
  rintro v h' z' ⟨rfl, rfl, rfl⟩
  rw [if_neg hoj]
  refine r_if_eq iX7_alone_39 (fun _ => ?_) (fun g9 => absurd (rfl) g9)
  refine r_aload iX7_alone_45 rfl ?_
  refine r_iload iX7_alone_46 rfl ?_
  refine r_callV iX7_alone_47 (cX7_134 _ rfl) (c7_clearsOf h I J me H hn hi hwi hr hr3 _) (by omega) (mOv_obj _ _) rfl rfl rfl (Nat.le_of_ble_eq_true rfl) (by first | exact Nat.le_of_ble_eq_true rfl | omega) (by first | exact Nat.le_of_ble_eq_true rfl | omega) ?_
  rintro v h' z' ⟨rfl, rfl, rfl⟩
  rw [hV]
  refine r_istore_4 iX7_alone_50 rfl ?_
  refine r_aload iX7_alone_52 rfl ?_
  refine r_iload iX7_alone_53 rfl ?_
  refine r_callV iX7_alone_54 (cX7_134 _ rfl) (c7_clearsOf h I J me H hn hj hwj hs hs3 _) (by omega) (mOv_obj _ _) rfl rfl rfl (Nat.le_of_ble_eq_true rfl) (by first | exact Nat.le_of_ble_eq_true rfl | omega) (by first | exact Nat.le_of_ble_eq_true rfl | omega) ?_
  rintro v h' z' ⟨rfl, rfl, rfl⟩
  rw [hU]
  refine r_istore_5 iX7_alone_57 rfl ?_
  refine r_iload iX7_alone_59 rfl ?_
  refine r_sipush (v := 1000) iX7_alone_61 rfl ?_
  refine r_iload iX7_alone_64 rfl ?_
  refine r_isub iX7_alone_66 ?_
  refine r_imul iX7_alone_67 ?_
  refine r_iload iX7_alone_68 rfl ?_
  refine r_sipush (v := 1000) iX7_alone_70 rfl ?_
  refine r_iload iX7_alone_73 rfl ?_
  refine r_isub iX7_alone_75 ?_
  refine r_imul iX7_alone_76 ?_
  refine r_iadd iX7_alone_77 ?_
  have eS : nI V * (1000 - nI U) + nI U * (1000 - nI V) = nI S := by
    rw [show (1000 : Int32) - nI U = nI (1000 - U) from nI_sub (a := 1000) (by omega), show (1000 : Int32) - nI V = nI (1000 - V) from nI_sub (a := 1000) (by omega), pk_mul, pk_mul, nI_add, hSS]
  rw [eS]
  refine r_istore_6 iX7_alone_78 rfl ?_
  refine r_iload iX7_alone_80 rfl ?_
  refine r_i2l iX7_alone_82 ?_
  rw [nI_l (by omega)]
  refine r_ldc2 (v := 1000000) iX7_alone_83 (gt_3 230 rfl rfl) ?_
  refine r_callS iX7_alone_86 (cX7_139 _ rfl) (c7_common _ S 1000000 (by omega) (by omega) _) (by omega) rfl rfl (Nat.le_of_ble_eq_true rfl) (by first | exact Nat.le_of_ble_eq_true rfl | omega) (by first | exact Nat.le_of_ble_eq_true rfl | omega) ?_
  rintro v h' z' ⟨rfl, rfl, rfl⟩
  refine r_l2i iX7_alone_89 ?_
  rw [lN_i]
  by_cases g : y = 0
  · refine r_istore_7 iX7_alone_90 rfl ?_
    refine r_iload iX7_alone_92 rfl ?_
    refine r_if_eq iX7_alone_93 (fun _ => ?_) (fun g9 => absurd (g) g9)
    refine r_ldc (v := 1000000) iX7_alone_104 (gt_3 120 rfl rfl) ?_
    refine r_iload iX7_alone_106 rfl ?_
    refine r_idiv iX7_alone_108 (nI_ne0 hg0 (by omega)) ?_
    rw [show (1000000 : Int32) / nI (Nat.gcd S 1000000) = nI (1000000 / Nat.gcd S 1000000) from pk_div (a := 1000000) (by omega) hg0 (by omega)]
    refine r_iret iX7_alone_109 rfl ?_
    exact ⟨by rw [frac, if_pos g], rfl, rfl⟩
  · refine r_istore_7 iX7_alone_90 rfl ?_
    refine r_iload iX7_alone_92 rfl ?_
    refine r_if_eq iX7_alone_93 (fun g9 => absurd g9 (g)) (fun _ => ?_)
    refine r_iload iX7_alone_96 rfl ?_
    refine r_iload iX7_alone_98 rfl ?_
    refine r_idiv iX7_alone_100 (nI_ne0 hg0 (by omega)) ?_
    rw [pk_div (by omega) hg0 (by omega)]
    refine r_goto iX7_alone_101 ?_
    refine r_iret iX7_alone_109 rfl ?_
    exact ⟨by rw [frac, if_neg g], rfl, rfl⟩
