/-! looking ahead: odds as numbers, wholes, Euclid's steps -/
def pN (k : Nat → Int32) (height : Int32) (more : Int32) : Nat := (kOdds k height more).toNatClampNeg
theorem imx (x : Int32) : ∃ q, q ≤ 9 ∧ imax 0 (imin 9 x) = nI q := by
  unfold imax imin
  by_cases h : x < 9
  · rw [if_pos h]
    by_cases h0 : 0 < x
    · rw [if_pos h0]
      obtain ⟨j, hj, rfl⟩ := nI_of (x := x) (fun q => Int32.lt_irrefl (Int32.lt_trans h0 q))
      exact ⟨j, by have := (nI_ltI (b := 9) hj (by omega)).mp h; omega, rfl⟩
    · rw [if_neg h0]; exact ⟨0, by omega, rfl⟩
  · rw [if_neg h, if_pos (by decide)]; exact ⟨9, by omega, rfl⟩
theorem pN_le (k : Nat → Int32) (height more : Int32) : pN k height more ≤ 9 := by
  obtain ⟨q, hq, e⟩ := imx (9 + k 0 - height - kTired k more)
  unfold pN kOdds
  rw [e, nI_clamp (by omega)]; exact hq
theorem pN_eq (k : Nat → Int32) (height more : Int32) : kOdds k height more = nI (pN k height more) := by
  obtain ⟨q, hq, e⟩ := imx (9 + k 0 - height - kTired k more)
  unfold pN kOdds
  rw [e, nI_clamp (by omega)]
theorem ten_at12 {m : Nat} (hm : m ≤ 12) : vp_in (nI m) 13 := vp_in_nI (by omega) (by decide)
theorem c1_unitsLeft {h : Hp} (hT : tenAt h) {q : Nat} (hq : q ≤ 12) : Fn MX1_unitsLeft 0 [.int (nI q)] h (some (.long (lN (10 ^ (12 - q))))) := by
  intro z
  refine Cal_of_R (by decide +kernel) (L := [.int (nI q), .null]) rfl (Nat.le_of_ble_eq_true rfl) ?_
  refine r_bipush (v := 12) iX1_unitsLeft_0 rfl ?_
  refine r_iload iX1_unitsLeft_2 rfl ?_
  refine r_isub iX1_unitsLeft_3 ?_
  rw [show (12 : Int32) - nI q = nI (12 - q) from pk_sub (a := 12) hq]
  refine r_istore_1 iX1_unitsLeft_4 rfl ?_
  refine r_iload iX1_unitsLeft_5 rfl ?_
  refine r_if_lt iX1_unitsLeft_6 (fun g9 => absurd g9 (nI_pos (by omega))) (fun _ => ?_)
  refine r_iload iX1_unitsLeft_9 rfl ?_
  refine r_getTENSN iX1_unitsLeft_10 rfl rfl ?_
  refine r_arraylength iX1_unitsLeft_13 (hT) rfl ?_
  refine r_icmp_ge iX1_unitsLeft_14 (fun g9 => absurd g9 (nI_ge (b := 13) (by omega) (by omega))) (fun _ => ?_)
  refine r_getTENSN iX1_unitsLeft_17 rfl rfl ?_
  refine r_iload iX1_unitsLeft_20 rfl ?_
  refine r_laload iX1_unitsLeft_21 (hT) (ten_at12 (by omega)) (ten_at (by omega)) ?_
  refine r_goto iX1_unitsLeft_22 ?_
  refine r_lret iX1_unitsLeft_26 rfl ?_
  exact ⟨rfl, rfl, rfl⟩
theorem c1_wholeOf {h : Hp} {a : Nat} {k : Nat → Int32} (hk : h a = some (thr k)) {r : Nat} (hr : k 3 = nI r) (hr3 : r ≤ 3) : Fn MX1_wholeOf 0 [.ref a] h (some (.long (lN (10 ^ (3 - r))))) := by
  intro z
  refine Cal_of_R (by decide +kernel) (L := [.ref a, .null, .null, .null]) rfl (Nat.le_of_ble_eq_true rfl) ?_
  have loop : ∀ (j p : Nat) (w : Value), clr w = w → r + p + j = 3 → R MX1_wholeOf 0 0 0 (fun v h' z' => v = some (.long (lN (10 ^ (3 - r)))) ∧ h' = h ∧ z' = z) 7 [.ref a, .long (lN (10 ^ p)), .null, .int (nI (r + p))] [] h z 0 0 := by
    intro j
    induction j with
    | zero =>
      intro p w hw hp
      refine r_iload iX1_wholeOf_7 rfl ?_
      refine r_iconst (v := 3) iX1_wholeOf_8 rfl ?_
      refine r_icmp_ge iX1_wholeOf_9 (fun _ => ?_) (fun g9 => absurd (nI_le (a := 3) (by omega) (by omega)) g9)
      refine r_lload iX1_wholeOf_24 rfl ?_
      refine r_lret iX1_wholeOf_25 rfl ?_
      exact ⟨by rw [show p = 3 - r by omega], rfl, rfl⟩
    | succ j ih =>
      intro p w hw hp
      refine r_iload iX1_wholeOf_7 rfl ?_
      refine r_iconst (v := 3) iX1_wholeOf_8 rfl ?_
      refine r_icmp_ge iX1_wholeOf_9 (fun g9 => absurd g9 (nI_ge (b := 3) (by omega) (by omega))) (fun _ => ?_)
      refine r_lload iX1_wholeOf_12 rfl ?_
      refine r_ldc2 (v := 10) iX1_wholeOf_13 (gt_2 121 rfl rfl) ?_
      refine r_lmul iX1_wholeOf_16 ?_
      rw [show lN (10 ^ p) * 10 = lN (10 ^ (p + 1)) by rw [show lN (10 ^ p) * 10 = lN (10 ^ p * 10) from lN_mul _ 10, Nat.pow_succ]]
      refine r_lstore_1 iX1_wholeOf_17 rfl ?_
      refine r_iinc_3 iX1_wholeOf_18 (by first | exact nI_inc _ | rfl) rfl ?_
      refine r_goto iX1_wholeOf_21 ?_
      exact ih (p + 1) w hw (by omega)
  refine r_lconst (v := 1) iX1_wholeOf_0 rfl ?_
  refine r_lstore_1 iX1_wholeOf_1 rfl ?_
  refine r_aload iX1_wholeOf_2 rfl ?_
  refine r_getfield iX1_wholeOf_3 (flX1_9 _ rfl) hk rfl ?_
  rw [hr]
  refine r_istore_3 iX1_wholeOf_6 rfl ?_
  exact loop (3 - r) 0 .null rfl (by omega)
/-- the tenths of missing, multiplied, of m tries -/
def prodF (k : Nat → Int32) (b : Int32) : Nat → Nat
  | 0 => 1
  | m + 1 => prodF k b m * (10 - pN k b (nI m))
theorem prodF_le (k : Nat → Int32) (b : Int32) : ∀ m, prodF k b m ≤ 10 ^ m
  | 0 => Nat.le_refl _
  | m + 1 => by rw [prodF, Nat.pow_succ]; exact Nat.mul_le_mul (prodF_le k b m) (Nat.sub_le _ _)
theorem c1_failing {h : Hp} {a : Nat} {k : Nat → Int32} (hk : h a = some (thr k)) (b : Int32) {r : Nat} (hr : k 3 = nI r) (hr3 : r ≤ 3) : Fn MX1_failing 2 [.ref a, .int b] h (some (.long (lN (prodF k b (3 - r))))) := by
  intro z
  refine Cal_of_R (by decide +kernel) (L := [.ref a, .int b, .null, .null, .null, .null]) rfl (Nat.le_of_ble_eq_true rfl) ?_
  have loop : ∀ (j p : Nat), r + p + j = 3 → ∀ z, R MX1_failing 2 0 0 (fun v h' z' => v = some (.long (lN (prodF k b (3 - r)))) ∧ h' = h ∧ z' = z) 11 [.ref a, .int b, .long (lN (prodF k b p)), .null, .int (nI p), .int (nI (r + p))] [] h z 0 0 := by
    intro j
    induction j with
    | zero =>
      intro p hp z
      refine r_iload iX1_failing_11 rfl ?_
      refine r_iconst (v := 3) iX1_failing_13 rfl ?_
      refine r_icmp_ge iX1_failing_14 (fun _ => ?_) (fun g9 => absurd (nI_le (a := 3) (by omega) (by omega)) g9)
      refine r_lload iX1_failing_40 rfl ?_
      refine r_lret iX1_failing_41 rfl ?_
      exact ⟨by rw [show p = 3 - r by omega], rfl, rfl⟩
    | succ j ih =>
      intro p hp z
      refine r_iload iX1_failing_11 rfl ?_
      refine r_iconst (v := 3) iX1_failing_13 rfl ?_
      refine r_icmp_ge iX1_failing_14 (fun g9 => absurd g9 (nI_ge (b := 3) (by omega) (by omega))) (fun _ => ?_)
      refine r_lload iX1_failing_17 rfl ?_
      refine r_bipush (v := 10) iX1_failing_18 rfl ?_
      refine r_aload iX1_failing_20 rfl ?_
      refine r_iload iX1_failing_21 rfl ?_
      refine r_iload iX1_failing_22 rfl ?_
      refine r_callV iX1_failing_24 (cX1_17 _ rfl) (c5_oddsAt h k hk b (nI p) _) (by omega) (hk) rfl rfl rfl (Nat.le_of_ble_eq_true rfl) (by first | exact Nat.le_of_ble_eq_true rfl | omega) (by first | exact Nat.le_of_ble_eq_true rfl | omega) ?_
      rintro v h' z' ⟨rfl, qh, rfl⟩
      rw [qh, pN_eq]
      refine r_isub iX1_failing_27 ?_
      have hp9 := pN_le k b (nI p)
      rw [show (10 : Int32) - nI (pN k b (nI p)) = nI (10 - pN k b (nI p)) from pk_sub (a := 10) (by omega)]
      refine r_i2l iX1_failing_28 ?_
      refine r_lmul iX1_failing_29 ?_
      rw [nI_l (by omega), lN_mul]
      refine r_lstore_2 iX1_failing_30 rfl ?_
      refine r_iinc_4 iX1_failing_31 (by first | exact nI_inc _ | rfl) rfl ?_
      refine r_iinc_5 iX1_failing_34 (by first | exact nI_inc _ | rfl) rfl ?_
      refine r_goto iX1_failing_37 ?_
      exact ih (p + 1) (by omega) _
  refine r_lconst (v := 1) iX1_failing_0 rfl ?_
  refine r_lstore_2 iX1_failing_1 rfl ?_
  refine r_iconst (v := 0) iX1_failing_2 rfl ?_
  refine r_istore_4 iX1_failing_3 rfl ?_
  refine r_aload iX1_failing_5 rfl ?_
  refine r_getfield iX1_failing_6 (flX1_9 _ rfl) hk rfl ?_
  rw [hr]
  refine r_istore_5 iX1_failing_9 rfl ?_
  exact loop (3 - r) 0 (by omega) z
/-- Euclid's steps -/
def eu : Nat → Nat → Nat → Nat
  | 0, a, _ => a
  | f + 1, a, b => if b = 0 then a else eu f b (a % b)
theorem eu_gcd : ∀ (j f a b : Nat), b < 2 ^ j → 2 * j + 1 ≤ f → eu f a b = Nat.gcd a b
  | 0, f, a, b, hb, hf => by
    obtain ⟨f, rfl⟩ : ∃ g, f = g + 1 := ⟨f - 1, by omega⟩
    have : b = 0 := by simpa using hb
    subst this
    rw [eu, if_pos rfl, Nat.gcd_zero_right]
  | j + 1, f, a, b, hb, hf => by
    obtain ⟨f, rfl⟩ : ∃ g, f = g + 2 := ⟨f - 2, by omega⟩
    rw [eu]
    by_cases h0 : b = 0
    · rw [if_pos h0, h0, Nat.gcd_zero_right]
    · rw [if_neg h0, eu]
      have hc : a % b < b := Nat.mod_lt _ (Nat.pos_of_ne_zero h0)
      by_cases h1 : a % b = 0
      · rw [if_pos h1, Nat.gcd_comm, Nat.gcd_rec, h1, Nat.gcd_zero_left]
      · rw [if_neg h1]
        have hlt : b % (a % b) < 2 ^ j := by
          generalize a % b = c at hc h1
          have h2 : b % c < c := Nat.mod_lt _ (Nat.pos_of_ne_zero h1)
          have h3 : b % c + c ≤ b := by
            have := Nat.div_add_mod b c
            have h4 : 1 ≤ b / c := (Nat.le_div_iff_mul_le (Nat.pos_of_ne_zero h1)).mpr (by omega)
            have h5 : c * 1 ≤ c * (b / c) := Nat.mul_le_mul_left c h4
            omega
          have h6 : 2 ^ (j + 1) = 2 * 2 ^ j := by rw [Nat.pow_succ, Nat.mul_comm]
          omega
        rw [eu_gcd j f _ _ hlt (by omega), Nat.gcd_comm a b, Nat.gcd_rec b a, Nat.gcd_comm (a % b) (b % (a % b)), ← Nat.gcd_rec (a % b) b]
theorem c6_commonDivisor (h : Hp) (x y : Nat) (hx : x < 2 ^ 63) (hy : y < 2 ^ 49) : Fn MX6_commonDivisor 0 [.long (lN x), .long (lN y)] h (some (.long (lN (Nat.gcd x y)))) := by
  intro z
  have hg : eu 100 x y = Nat.gcd x y := eu_gcd 49 100 x y hy (by omega)
  rw [← hg]
  refine Cal_of_R (by decide +kernel) (L := [.long (lN x), .null, .long (lN y), .null, .null, .null, .null, .null, .null, .null, .null]) rfl (Nat.le_of_ble_eq_true rfl) ?_
  have loop : ∀ (j p a b : Nat) (w : Value), p + j = 100 → a < 2 ^ 63 → b < 2 ^ 63 → eu j a b = eu 100 x y → R MX6_commonDivisor 0 0 0 (fun v h' z' => v = some (.long (lN (eu 100 x y))) ∧ h' = h ∧ z' = z) 9 [.long (lN x), .null, .long (lN y), .null, .long (lN a), .null, .long (lN b), .null, .int (nI p), w, .null] [] h z 0 0 := by
    intro j
    induction j with
    | zero =>
      intro p a b w hp ha hb he
      refine r_iload iX6_commonDivisor_9 rfl ?_
      refine r_bipush (v := 100) iX6_commonDivisor_11 rfl ?_
      refine r_icmp_ge iX6_commonDivisor_13 (fun _ => ?_) (fun g9 => absurd (nI_le (a := 100) (by omega) (by omega)) g9)
      refine r_lload iX6_commonDivisor_44 rfl ?_
      refine r_lret iX6_commonDivisor_46 rfl ?_
      exact ⟨by rw [← he]; rfl, rfl, rfl⟩
    | succ j ih =>
      intro p a b w hp ha hb he
      rw [eu] at he
      refine r_iload iX6_commonDivisor_9 rfl ?_
      refine r_bipush (v := 100) iX6_commonDivisor_11 rfl ?_
      refine r_icmp_ge iX6_commonDivisor_13 (fun g9 => absurd g9 (nI_ge (b := 100) (by omega) (by omega))) (fun _ => ?_)
      refine r_lload iX6_commonDivisor_16 rfl ?_
      refine r_lconst (v := 0) iX6_commonDivisor_18 rfl ?_
      refine r_lcmp iX6_commonDivisor_19 ?_
      by_cases h0 : b = 0
      · rw [if_pos h0] at he
        have g : lg_cmp (lN b) 0 = 0 := (lg_cmp_eq _ _).mpr (by rw [h0]; rfl)
        refine r_if_eq iX6_commonDivisor_20 (fun _ => ?_) (fun g9 => absurd (g) g9)
        refine r_lload iX6_commonDivisor_44 rfl ?_
        refine r_lret iX6_commonDivisor_46 rfl ?_
        exact ⟨by rw [← he], rfl, rfl⟩
      · rw [if_neg h0] at he
        have g0 : ¬ lN b = 0 := fun q => h0 ((pk_lEQ (b := 0) hb (by omega)).mp q)
        have g : ¬ lg_cmp (lN b) 0 = 0 := fun q => g0 ((lg_cmp_eq _ _).mp q)
        refine r_if_eq iX6_commonDivisor_20 (fun g9 => absurd g9 (g)) (fun _ => ?_)
        refine r_lload iX6_commonDivisor_23 rfl ?_
        refine r_lload iX6_commonDivisor_25 rfl ?_
        refine r_lrem iX6_commonDivisor_27 (g0) ?_
        rw [pk_lRem ha (Nat.pos_of_ne_zero h0) hb]
        refine r_lstore_9 iX6_commonDivisor_28 rfl ?_
        refine r_lload iX6_commonDivisor_30 rfl ?_
        refine r_lstore_4 iX6_commonDivisor_32 rfl ?_
        refine r_lload iX6_commonDivisor_34 rfl ?_
        refine r_lstore_6 iX6_commonDivisor_36 rfl ?_
        refine r_iinc_8 iX6_commonDivisor_38 (by first | exact nI_inc _ | rfl) rfl ?_
        refine r_goto iX6_commonDivisor_41 ?_
        exact ih (p + 1) b (a % b) _ (by omega) hb (Nat.lt_of_lt_of_le (Nat.mod_lt _ (Nat.pos_of_ne_zero h0)) (Nat.le_of_lt hb)) he
  refine r_lload iX6_commonDivisor_0 rfl ?_
  refine r_lstore_4 iX6_commonDivisor_1 rfl ?_
  refine r_lload iX6_commonDivisor_3 rfl ?_
  refine r_lstore_6 iX6_commonDivisor_4 rfl ?_
  refine r_iconst (v := 0) iX6_commonDivisor_6 rfl ?_
  refine r_istore_8 iX6_commonDivisor_7 rfl ?_
  exact loop 100 0 x y _ (by omega) hx (by omega) rfl
theorem c6_leastTerms (h : Hp) (x y : Nat) (u : Int32) (hx : x < 2 ^ 63) (hy : y < 2 ^ 49) (h0 : 0 < y) : Fn MX6_leastTerms 1 [.long (lN x), .long (lN y), .int u] h (some (.long (lN ((if u = 0 then y else x) / Nat.gcd x y)))) := by
  intro z
  have hgp : 0 < Nat.gcd x y := Nat.gcd_pos_of_pos_right _ h0
  have hgl : Nat.gcd x y ≤ y := Nat.gcd_le_right _ h0
  refine Cal_of_R (by decide +kernel) (L := [.long (lN x), .null, .long (lN y), .null, .int u, .null, .null, .null, .null]) rfl (Nat.le_of_ble_eq_true rfl) ?_
  have tail : ∀ w : Nat, w < 2 ^ 63 → w = (if u = 0 then y else x) → ∀ z, R MX6_leastTerms 1 0 0 (fun v h' z' => v = some (.long (lN ((if u = 0 then y else x) / Nat.gcd x y))) ∧ h' = h ∧ z' = z) 17 [.long (lN x), .null, .long (lN y), .null, .int u, .long (lN (Nat.gcd x y)), .null, .null, .null] [.long (lN w)] h z 0 0 := by
    intro w hw e z
    rw [← e]
    refine r_lstore_7 iX6_leastTerms_17 rfl ?_
    refine r_lload iX6_leastTerms_19 rfl ?_
    refine r_lconst (v := 1) iX6_leastTerms_21 rfl ?_
    refine r_lcmp iX6_leastTerms_22 ?_
    by_cases g : 1 < Nat.gcd x y
    · have g2 : ¬ lg_cmp (lN (Nat.gcd x y)) 1 ≤ 0 := fun q => by
        rw [lg_cmp_le] at q
        exact absurd ((pk_lLE (b := 1) (by omega) (by omega)).mp q) (by omega)
      refine r_if_le iX6_leastTerms_23 (fun g9 => absurd g9 (g2)) (fun _ => ?_)
      refine r_lload iX6_leastTerms_26 rfl ?_
      refine r_lload iX6_leastTerms_28 rfl ?_
      refine r_ldiv iX6_leastTerms_30 (fun q => absurd ((pk_lEQ (b := 0) (by omega) (by omega)).mp q) (by omega)) ?_
      rw [pk_lDiv hw hgp (by omega)]
      refine r_goto iX6_leastTerms_31 ?_
      refine r_lret iX6_leastTerms_36 rfl ?_
      exact ⟨rfl, rfl, rfl⟩
    · have g1 : Nat.gcd x y = 1 := by omega
      have g2 : lg_cmp (lN (Nat.gcd x y)) 1 ≤ 0 := (lg_cmp_le _ _).mpr (by rw [g1]; decide)
      refine r_if_le iX6_leastTerms_23 (fun _ => ?_) (fun g9 => absurd (g2) g9)
      refine r_lload iX6_leastTerms_34 rfl ?_
      refine r_lret iX6_leastTerms_36 rfl ?_
      exact ⟨by rw [g1, Nat.div_one], rfl, rfl⟩
  refine r_lload iX6_leastTerms_0 rfl ?_
  refine r_lload iX6_leastTerms_1 rfl ?_
  refine r_callS iX6_leastTerms_2 (cX6_174 _ rfl) (c6_commonDivisor h x y hx hy _) (by omega) rfl rfl (Nat.le_of_ble_eq_true rfl) (by first | exact Nat.le_of_ble_eq_true rfl | omega) (by first | exact Nat.le_of_ble_eq_true rfl | omega) ?_
  rintro v h' z' ⟨rfl, qh, rfl⟩
  rw [qh]
  refine r_lstore_5 iX6_leastTerms_5 rfl ?_
  refine r_iload iX6_leastTerms_7 rfl ?_
  refine r_if_eq iX6_leastTerms_9 (fun g => ?_) (fun g => ?_)
  · refine r_lload iX6_leastTerms_16 rfl ?_
    exact tail y (by omega) (by rw [if_pos g]) _
  · refine r_lload iX6_leastTerms_12 rfl ?_
    refine r_goto iX6_leastTerms_13 ?_
    exact tail x hx (by rw [if_neg g]) _
