/-! the means laid are the greatest ones -/
def Base (me : Nat → Int64) (n : Nat) : Prop := ∀ r k, r < 3 → k < 80 → me (pl n r 0 k) = lN (k % 5)
def Good (K : Nat → Int32) (b : Int32) (me : Nat → Int64) (n i r q : Nat) : Prop := ∀ k, k ≤ n → ∃ v, me (pl i r q k) = lN v ∧ v ≤ 4 * 10 ^ (3 * (n - i) - r) ∧ ∀ f, (n - i) + (12 - q) ≤ f → grt K b n f i r q k = v * 10 ^ (12 - q - (3 * (n - i) - r))
theorem grt_end (K : Nat → Int32) (b : Int32) {n i r q k : Nat} (h : n ≤ i ∨ 3 ≤ r ∨ 12 ≤ q) : ∀ f, grt K b n f i r q k = k * 10 ^ (12 - q)
  | 0 => rfl
  | f + 1 => by rw [grt, if_pos h]
theorem Base.at {me : Nat → Int64} {n : Nat} (H : Base me n) {r q k : Nat} (hr : r < 3) (hq : q < 16) (hk : k < 5) : me (pl n r q k) = lN k := by
  have e := H r (5 * q + k) hr (by omega)
  rw [show pl n r 0 (5 * q + k) = pl n r q k by unfold pl; omega, show (5 * q + k) % 5 = k by omega] at e
  exact e
theorem pow_up {a b c : Nat} (h : a + b = c) : 10 ^ a * 10 ^ b = 10 ^ c := by rw [← Nat.pow_add, h]
theorem max_mul' (a b c : Nat) : max (a * c) (b * c) = max a b * c := by
  by_cases g : a ≤ b
  · rw [Nat.max_eq_right g, Nat.max_eq_right (Nat.mul_le_mul_right c g)]
  · have g2 : b ≤ a := by omega
    rw [Nat.max_eq_left g2, Nat.max_eq_left (Nat.mul_le_mul_right c g2)]
theorem good_step {K : Nat → Int32} {b : Int32} {me : Nat → Int64} {n i r q : Nat} (hn : n ≤ 4) (hi : i < n) (hr : r < 3) (hv : q + (3 * (n - i) - r) ≤ 12) (hB : Base me n)
    (h1 : i + 1 < n → Good K b me n (i + 1) 0 (q + 1)) (h2 : r < 2 → Good K b me n i (r + 1) (q + 1)) (h3 : i + 1 < n → Good K b me n (i + 1) r q) {k : Nat} (hk : k ≤ n) :
    ∃ v, wMx (pN K (b + nI i) (nI q)) n me i r q k = lN v ∧ v ≤ 4 * 10 ^ (3 * (n - i) - r) ∧ ∀ f, (n - i) + (12 - q) ≤ f → grt K b n f i r q k = v * 10 ^ (12 - q - (3 * (n - i) - r)) := by
  have hp9 := pN_le K (b + nI i) (nI q)
  generalize hP : pN K (b + nI i) (nI q) = P at hp9
  generalize hF : 3 * (n - i) - r = far at hv
  have hf1 : 1 ≤ far := by omega
  have c1 : ∃ v, wOver me i r q = lN v ∧ v ≤ 4 * 10 ^ (far - 1) ∧ ∀ f, (n - i) + (12 - q) ≤ f + 1 → grt K b n f (i + 1) 0 (q + 1) (i + 1) = v * 10 ^ (12 - q - far) := by
    by_cases g : i + 1 < n
    · obtain ⟨v, e1, e2, e3⟩ := h1 g (i + 1) (by omega)
      refine ⟨v * 10 ^ (2 - r), by rw [wOver, e1, lN_mul], ?_, fun f hf => ?_⟩
      · have := Nat.mul_le_mul_right (10 ^ (2 - r)) e2
        rw [Nat.mul_assoc, pow_up (show 3 * (n - (i + 1)) - 0 + (2 - r) = far - 1 by omega)] at this
        exact this
      · rw [e3 f (by omega), Nat.mul_assoc, pow_up (show 2 - r + (12 - q - far) = 12 - (q + 1) - (3 * (n - (i + 1)) - 0) by omega)]
    · obtain rfl : n = i + 1 := by omega
      refine ⟨(i + 1) * 10 ^ (2 - r), by rw [wOver, hB.at (by omega) (by omega) (by omega), lN_mul], ?_, fun f hf => ?_⟩
      · have := Nat.mul_le_mul_right (10 ^ (2 - r)) hn
        rw [show 2 - r = far - 1 by omega] at this ⊢
        exact this
      · rw [grt_end K b (Or.inl (Nat.le_refl _)), Nat.mul_assoc, pow_up (show 2 - r + (12 - q - far) = 12 - (q + 1) by omega)]
  have c2 : ∃ v, wMiss n me i r q k = lN v ∧ v ≤ 4 * 10 ^ (far - 1) ∧ ∀ f, (n - i) + (12 - q) ≤ f + 1 → grt K b n f i (r + 1) (q + 1) k = v * 10 ^ (12 - q - far) := by
    by_cases g : r = 2
    · refine ⟨k * 10 ^ (far - 1), by rw [wMiss, if_pos g, lN_mul, hF], Nat.mul_le_mul_right _ (by omega), fun f hf => ?_⟩
      rw [grt_end K b (Or.inr (Or.inl (by omega))), Nat.mul_assoc, pow_up (show far - 1 + (12 - q - far) = 12 - (q + 1) by omega)]
    · obtain ⟨v, e1, e2, e3⟩ := h2 (by omega) k hk
      have ef : 3 * (n - i) - (r + 1) = far - 1 := by omega
      rw [ef] at e2 e3
      exact ⟨v, by rw [wMiss, if_neg g, e1], e2, fun f hf => by rw [e3 f (by omega), show 12 - (q + 1) - (far - 1) = 12 - q - far by omega]⟩
  have c3 : ∃ v, wSp n me i r q k = lN v ∧ v ≤ 4 * 10 ^ far ∧ ∀ f, (n - i) + (12 - q) ≤ f + 1 → grt K b n f (i + 1) r q k = v * 10 ^ (12 - q - far) := by
    by_cases g : i + 1 = n
    · refine ⟨k * 10 ^ far, by rw [wSp, if_pos g, lN_mul, hF], Nat.mul_le_mul_right _ (by omega), fun f hf => ?_⟩
      rw [grt_end K b (Or.inl (by omega)), Nat.mul_assoc, pow_up (show far + (12 - q - far) = 12 - q by omega)]
    · obtain ⟨v, e1, e2, e3⟩ := h3 (by omega) k hk
      have ef : 3 * (n - (i + 1)) - r = far - 3 := by omega
      rw [ef] at e2 e3
      refine ⟨v * 10 ^ 3, by rw [wSp, if_neg g, e1]; exact lN_mul v 1000, ?_, fun f hf => ?_⟩
      · have := Nat.mul_le_mul_right (10 ^ 3) e2
        rw [Nat.mul_assoc, pow_up (show far - 3 + 3 = far by omega)] at this
        exact this
      · rw [e3 f (by omega), Nat.mul_assoc, pow_up (show 3 + (12 - q - far) = 12 - q - (far - 3) by omega)]
  obtain ⟨v1, a1, b1, g1⟩ := c1
  obtain ⟨v2, a2, b2, g2⟩ := c2
  obtain ⟨v3, a3, b3, g3⟩ := c3
  have hT : wTry P n me i r q k = lN (P * v1 + (10 - P) * v2) := by rw [wTry, a1, a2, lN_mul, lN_mul, lN_add, Nat.mul_comm v1, Nat.mul_comm v2]
  have hTb : P * v1 + (10 - P) * v2 ≤ 4 * 10 ^ far := by
    have := mix_le hp9 b1 b2
    rw [show far = far - 1 + 1 by omega, Nat.pow_succ]
    omega
  have h12 : 10 ^ far ≤ 10 ^ 12 := Nat.pow_le_pow_right (by decide) (by omega)
  have hM : wMx P n me i r q k = lN (max (P * v1 + (10 - P) * v2) v3) := by
    unfold wMx
    rw [hT, a3]
    by_cases g : P * v1 + (10 - P) * v2 ≤ v3
    · rw [if_pos ((pk_lLE (by omega) (by omega)).mpr g), Nat.max_eq_right g]
    · rw [if_neg (fun q => g ((pk_lLE (by omega) (by omega)).mp q)), Nat.max_eq_left (by omega)]
  refine ⟨_, hM, Nat.max_le.mpr ⟨hTb, b3⟩, fun f hf => ?_⟩
  cases f with
  | zero => omega
  | succ f =>
    rw [grt, if_neg (by omega), hP, g1 f hf, g2 f hf, g3 f hf, ← max_mul']
    rw [Nat.add_mul, Nat.mul_assoc, Nat.mul_assoc]
def Done (K : Nat → Int32) (b : Int32) (me : Nat → Int64) (n i0 r0 q0 : Nat) : Prop := ∀ i r q, i < n → r < 3 → q + (3 * (n - i) - r) ≤ 12 → (i0 < i ∨ (i = i0 ∧ (r0 < r ∨ (r = r0 ∧ q < q0)))) → Good K b me n i r q
theorem done_step {K : Nat → Int32} {b : Int32} {me : Nat → Int64} {n i r q : Nat} (hn : n ≤ 4) (hi : i < n) (hr : r < 3) (hq : q < 15) (hB : Base me n) (D : Done K b me n i r q) : Base (rowM (pN K (b + nI i) (nI q)) n me i r q (n + 1)) n ∧ Done K b (rowM (pN K (b + nI i) (nI q)) n me i r q (n + 1)) n i r (q + 1) := by
  refine ⟨fun r' k h1 h2 => ?_, fun i' r' q' h1 h2 h3 h4 => ?_⟩
  · rw [rowM_out _ _ _ (by unfold pl; omega)]; exact hB r' k h1 h2
  · by_cases g : i' = i ∧ r' = r ∧ q' = q
    · obtain ⟨rfl, rfl, rfl⟩ := g
      intro k hk
      rw [rowM_in _ _ _ (by omega)]
      exact good_step hn hi hr h3 hB (fun h => D _ _ _ h (by omega) (by omega) (Or.inl (by omega))) (fun h => D _ _ _ hi (by omega) (by omega) (Or.inr ⟨rfl, Or.inl (by omega)⟩)) (fun h => D _ _ _ h hr (by omega) (Or.inl (by omega))) hk
    · intro k hk
      rw [rowM_out _ _ _ (by unfold pl; omega)]
      exact D i' r' q' h1 h2 h3 (by omega) k hk
theorem pl0_lt {m r k : Nat} (hm : m ≤ 4) (hr : r ≤ 2) (hk : k < 80) : pl m r 0 0 + k < 1200 := by unfold pl; omega
theorem c7_layMeans (h : Hp) (I : Nat → Int32) (J : Nat → Int64) {A : Nat → Nat → Int32} (me : Nat → Int64) {n : Nat} {b u : Int32} {t : Nat → Nat → Int32} (H : En A 0 n b u t) (hn : n ≤ 4) {x : Nat} (hx : x < n) (hw : 0 < t x 1) {m : Nat} (hm : m ≤ 4) (h1m : 1 ≤ m) (z : Nat) : Cal MX7_layMeans 3 0 0 [.ref 152, .int (nI x), .int (nI m)] (mOv h (I, J, A, me)) z (fun v h' z' => v = none ∧ z' = z ∧ ∃ J' me', J' 2 = J 2 ∧ h' = mOv h (I, J', A, me') ∧ Base me' m ∧ ∀ i r q, i < m → r < 3 → q + (3 * (m - i) - r) ≤ 12 → Good (t x) b me' m i r q) := by
  refine Cal_of_R (by decide +kernel) (L := [.ref 152, .int (nI x), .int (nI m), .null, .null, .null]) rfl (Nat.le_of_ble_eq_true rfl) ?_
  have iloop : ∀ (j : Nat) (J1 : Nat → Int64) (me1 : Nat → Int64) (w w4 w5 : Value), j ≤ m → J1 2 = J 2 → Base me1 m → (∀ i r q, i < m → r < 3 → q + (3 * (m - i) - r) ≤ 12 → j ≤ i → Good (t x) b me1 m i r q) → w = .int (nI j - 1) → R MX7_layMeans 3 0 0 (fun v h' z' => v = none ∧ z' = z ∧ ∃ J' me', J' 2 = J 2 ∧ h' = mOv h (I, J', A, me') ∧ Base me' m ∧ ∀ i r q, i < m → r < 3 → q + (3 * (m - i) - r) ≤ 12 → Good (t x) b me' m i r q) 58 [.ref 152, .int (nI x), .int (nI m), w, w4, w5] [] (mOv h (I, J1, A, me1)) z 0 0 := by
    intro j
    induction j with
    | zero =>
      intro J1 me1 w w4 w5 hj hJ hB D hw'
      subst hw'
      refine r_iload iX7_layMeans_58 rfl ?_
      refine r_if_lt iX7_layMeans_59 (fun _ => ?_) (fun g9 => absurd (by decide) g9)
      refine r_vret iX7_layMeans_109 rfl ?_
      exact ⟨rfl, rfl, J1, me1, hJ, rfl, hB, fun i r q h1 h2 h3 => D i r q h1 h2 h3 (Nat.zero_le _)⟩
    | succ i ihi =>
      intro J1 me1 w w4 w5 hj hJ hB D hw'
      subst hw'
      rw [nI_pred]
      refine r_iload iX7_layMeans_58 rfl ?_
      refine r_if_lt iX7_layMeans_59 (fun g9 => absurd g9 (nI_pos (by omega))) (fun _ => ?_)
      refine r_iconst (v := 2) iX7_layMeans_62 rfl ?_
      refine r_istore_4 iX7_layMeans_63 rfl ?_
      have rloop : ∀ (j : Nat) (J1 : Nat → Int64) (me1 : Nat → Int64) (w w5 : Value), j ≤ 3 → J1 2 = J 2 → Base me1 m → (∀ i' r q, i' < m → r < 3 → q + (3 * (m - i') - r) ≤ 12 → (i < i' ∨ (i' = i ∧ j ≤ r)) → Good (t x) b me1 m i' r q) → w = .int (nI j - 1) → R MX7_layMeans 3 0 0 (fun v h' z' => v = none ∧ z' = z ∧ ∃ J' me', J' 2 = J 2 ∧ h' = mOv h (I, J', A, me') ∧ Base me' m ∧ ∀ i r q, i < m → r < 3 → q + (3 * (m - i) - r) ≤ 12 → Good (t x) b me' m i r q) 65 [.ref 152, .int (nI x), .int (nI m), .int (nI i), w, w5] [] (mOv h (I, J1, A, me1)) z 0 0 := by
        intro j
        induction j with
        | zero =>
          intro J1 me1 w w5 hj hJ hB D hw'
          subst hw'
          refine r_iload iX7_layMeans_65 rfl ?_
          refine r_if_lt iX7_layMeans_67 (fun _ => ?_) (fun g9 => absurd (by decide) g9)
          refine r_iinc_3 iX7_layMeans_103 rfl rfl ?_
          refine r_goto iX7_layMeans_106 ?_
          exact ihi J1 me1 _ _ _ (by omega) hJ hB (fun i' r q h1 h2 h3 h4 => D i' r q h1 h2 h3 (by omega)) (congrArg Value.int (Int32.sub_eq_add_neg (nI i) 1).symm)
        | succ r ihr =>
          intro J1 me1 w w5 hj hJ hB D hw'
          subst hw'
          rw [nI_pred]
          refine r_iload iX7_layMeans_65 rfl ?_
          refine r_if_lt iX7_layMeans_67 (fun g9 => absurd g9 (nI_pos (by omega))) (fun _ => ?_)
          refine r_iconst (v := 0) iX7_layMeans_70 rfl ?_
          refine r_istore_5 iX7_layMeans_71 rfl ?_
          have qloop : ∀ (j q : Nat) (J1 : Nat → Int64) (me1 : Nat → Int64), q + j = 15 → J1 2 = J 2 → Base me1 m → Done (t x) b me1 m i r q → R MX7_layMeans 3 0 0 (fun v h' z' => v = none ∧ z' = z ∧ ∃ J' me', J' 2 = J 2 ∧ h' = mOv h (I, J', A, me') ∧ Base me' m ∧ ∀ i r q, i < m → r < 3 → q + (3 * (m - i) - r) ≤ 12 → Good (t x) b me' m i r q) 73 [.ref 152, .int (nI x), .int (nI m), .int (nI i), .int (nI r), .int (nI q)] [] (mOv h (I, J1, A, me1)) z 0 0 := by
            intro j
            induction j with
            | zero =>
              intro q J1 me1 hq hJ hB D
              obtain rfl : q = 15 := by omega
              refine r_iload iX7_layMeans_73 rfl ?_
              refine r_bipush (v := 15) iX7_layMeans_75 rfl ?_
              refine r_icmp_ge iX7_layMeans_77 (fun _ => ?_) (fun g9 => absurd (by decide) g9)
              refine r_iinc_4 iX7_layMeans_97 rfl rfl ?_
              refine r_goto iX7_layMeans_100 ?_
              exact ihr J1 me1 _ _ (by omega) hJ hB (fun i' r' q' h1 h2 h3 h4 => D i' r' q' h1 h2 h3 (by omega)) (congrArg Value.int (Int32.sub_eq_add_neg (nI r) 1).symm)
            | succ j ihq =>
              intro q J1 me1 hq hJ hB D
              refine r_iload iX7_layMeans_73 rfl ?_
              refine r_bipush (v := 15) iX7_layMeans_75 rfl ?_
              refine r_icmp_ge iX7_layMeans_77 (fun g9 => absurd g9 (nI_ge (b := 15) (by omega) (by omega))) (fun _ => ?_)
              refine r_aload iX7_layMeans_80 rfl ?_
              refine r_iload iX7_layMeans_81 rfl ?_
              refine r_iload iX7_layMeans_82 rfl ?_
              refine r_iload iX7_layMeans_83 rfl ?_
              refine r_iload iX7_layMeans_84 rfl ?_
              refine r_iload iX7_layMeans_86 rfl ?_
              refine r_callV iX7_layMeans_88 (cX7_147 _ rfl) (c7_layMean h I J1 me1 H hn hx hw hm (show i < m by omega) (show r < 3 by omega) (show q < 15 by omega) z) (by omega) (mOv_obj _ _) rfl rfl rfl (Nat.le_of_ble_eq_true rfl) (by first | exact Nat.le_of_ble_eq_true rfl | omega) (by first | exact Nat.le_of_ble_eq_true rfl | omega) ?_
              rintro v h' z' ⟨rfl, rfl, J', hJ', rfl⟩
              obtain ⟨q1, q2⟩ := done_step hm (show i < m by omega) (show r < 3 by omega) (show q < 15 by omega) hB D
              refine r_iinc_5 iX7_layMeans_91 (by first | exact nI_inc _ | rfl) rfl ?_
              refine r_goto iX7_layMeans_94 ?_
              exact ihq (q + 1) J' _ (by omega) (hJ'.trans hJ) q1 q2
          exact qloop 15 0 J1 me1 (by omega) hJ hB (fun i' r' q' h1 h2 h3 h4 => D i' r' q' h1 h2 h3 (by omega))
      exact rloop 3 J1 me1 _ w5 (by omega) hJ hB (fun i' r q h1 h2 h3 h4 => D i' r q h1 h2 h3 (by omega)) rfl
  have bloop : ∀ (j r k : Nat) (me1 : Nat → Int64) (w5 : Value), 81 * r + k + j = 243 → r ≤ 2 → k ≤ 80 → (∀ r' k', r' < 3 → k' < 80 → (r' < r ∨ (r' = r ∧ k' < k)) → me1 (pl m r' 0 k') = lN (k' % 5)) → R MX7_layMeans 3 0 0 (fun v h' z' => v = none ∧ z' = z ∧ ∃ J' me', J' 2 = J 2 ∧ h' = mOv h (I, J', A, me') ∧ Base me' m ∧ ∀ i r q, i < m → r < 3 → q + (3 * (m - i) - r) ≤ 12 → Good (t x) b me' m i r q) 10 [.ref 152, .int (nI x), .int (nI m), .int (nI r), .int (nI k), w5] [] (mOv h (I, J, A, me1)) z 0 0 := by
    intro j
    induction j with
    | zero => intro r k me1 w5 hj hr hk; omega
    | succ j ih =>
      intro r k me1 w5 hj hr hk hb
      by_cases g : k < 80
      · refine r_iload iX7_layMeans_10 rfl ?_
        refine r_bipush (v := 80) iX7_layMeans_12 rfl ?_
        refine r_icmp_ge iX7_layMeans_14 (fun g9 => absurd g9 (nI_ge (b := 80) g (by omega))) (fun _ => ?_)
        refine r_aload iX7_layMeans_17 rfl ?_
        refine r_gmeans iX7_layMeans_18 (flX7_25 _ rfl) ?_
        refine r_iload iX7_layMeans_21 rfl ?_
        refine r_iload iX7_layMeans_22 rfl ?_
        refine r_iconst (v := 0) iX7_layMeans_23 rfl ?_
        refine r_iconst (v := 0) iX7_layMeans_24 rfl ?_
        refine r_callS iX7_layMeans_25 (cX7_143 _ rfl) (c7_place _ m r 0 0 _) (by omega) rfl rfl (Nat.le_of_ble_eq_true rfl) (by first | exact Nat.le_of_ble_eq_true rfl | omega) (by first | exact Nat.le_of_ble_eq_true rfl | omega) ?_
        rintro v h' z' ⟨rfl, rfl, rfl⟩
        refine r_iload iX7_layMeans_28 rfl ?_
        refine r_iadd iX7_layMeans_30 ?_
        rw [nI_add]
        refine r_iload iX7_layMeans_31 rfl ?_
        refine r_iconst (v := 5) iX7_layMeans_33 rfl ?_
        refine r_irem iX7_layMeans_34 (by decide) ?_
        rw [show nI k - nI k / 5 * 5 = nI (k % 5) from pk_rem (d := 5) (by omega) (by omega) (by omega)]
        refine r_i2l iX7_layMeans_35 ?_
        rw [nI_l (by omega)]
        refine r_iconst (v := 0) iX7_layMeans_36 rfl ?_
        refine r_callS iX7_layMeans_37 (cX7_124 _ rfl) (c7_tenTo _ 0 (by omega) _) (by omega) rfl rfl (Nat.le_of_ble_eq_true rfl) (by first | exact Nat.le_of_ble_eq_true rfl | omega) (by first | exact Nat.le_of_ble_eq_true rfl | omega) ?_
        rintro v h' z' ⟨rfl, rfl, rfl⟩
        refine r_lmul iX7_layMeans_40 ?_
        rw [lN_mul, show k % 5 * 10 ^ 0 = k % 5 by omega]
        refine r_stm iX7_layMeans_41 (rfl) (pl0_lt hm hr g) ?_
        refine r_iinc_4 iX7_layMeans_42 (by first | exact nI_inc _ | rfl) rfl ?_
        refine r_goto iX7_layMeans_45 ?_
        refine ih r (k + 1) _ w5 (by omega) hr (by omega) (fun r' k' h1 h2 h3 => ?_)
        show (if pl m r' 0 k' = pl m r 0 0 + k then lN (k % 5) else me1 (pl m r' 0 k')) = _
        by_cases g2 : r' = r ∧ k' = k
        · obtain ⟨rfl, rfl⟩ := g2
          rw [if_pos (by unfold pl; omega)]
        · rw [if_neg (by unfold pl; omega)]
          exact hb r' k' h1 h2 (by omega)
      · by_cases g2 : r = 2
        · refine r_iload iX7_layMeans_10 rfl ?_
          refine r_bipush (v := 80) iX7_layMeans_12 rfl ?_
          refine r_icmp_ge iX7_layMeans_14 (fun _ => ?_) (fun g9 => absurd (nI_le (a := 80) (by omega) (by omega)) g9)
          refine r_iinc_3 iX7_layMeans_48 (by first | exact nI_inc _ | rfl) rfl ?_
          refine r_goto iX7_layMeans_51 ?_
          refine r_iload iX7_layMeans_2 rfl ?_
          refine r_iconst (v := 3) iX7_layMeans_3 rfl ?_
          refine r_icmp_ge iX7_layMeans_4 (fun _ => ?_) (fun g9 => absurd (nI_le (a := 3) (by omega) (by omega)) g9)
          refine r_iload iX7_layMeans_54 rfl ?_
          refine r_iconst (v := 1) iX7_layMeans_55 rfl ?_
          refine r_isub iX7_layMeans_56 ?_
          refine r_istore_3 iX7_layMeans_57 rfl ?_
          exact iloop m J me1 _ _ _ (Nat.le_refl _) rfl (fun r' k' h1 h2 => hb r' k' h1 h2 (by omega)) (fun i r q h1 h2 h3 h4 => absurd h1 (by omega)) rfl
        · refine r_iload iX7_layMeans_10 rfl ?_
          refine r_bipush (v := 80) iX7_layMeans_12 rfl ?_
          refine r_icmp_ge iX7_layMeans_14 (fun _ => ?_) (fun g9 => absurd (nI_le (a := 80) (by omega) (by omega)) g9)
          refine r_iinc_3 iX7_layMeans_48 (by first | exact nI_inc _ | rfl) rfl ?_
          refine r_goto iX7_layMeans_51 ?_
          refine r_iload iX7_layMeans_2 rfl ?_
          refine r_iconst (v := 3) iX7_layMeans_3 rfl ?_
          refine r_icmp_ge iX7_layMeans_4 (fun g9 => absurd g9 (nI_ge (b := 3) (by omega) (by omega))) (fun _ => ?_)
          refine r_iconst (v := 0) iX7_layMeans_7 rfl ?_
          refine r_istore_4 iX7_layMeans_8 rfl ?_
          exact ih (r + 1) 0 me1 w5 (by omega) (by omega) (by omega) (fun r' k' h1 h2 h3 => hb r' k' h1 h2 (by omega))
  refine r_iconst (v := 0) iX7_layMeans_0 rfl ?_
  refine r_istore_3 iX7_layMeans_1 rfl ?_
  refine r_iload iX7_layMeans_2 rfl ?_
  refine r_iconst (v := 3) iX7_layMeans_3 rfl ?_
  refine r_icmp_ge iX7_layMeans_4 (fun g9 => absurd g9 (by decide)) (fun _ => ?_)
  refine r_iconst (v := 0) iX7_layMeans_7 rfl ?_
  refine r_istore_4 iX7_layMeans_8 rfl ?_
  exact bloop 243 0 0 me _ rfl (by omega) (by omega) (fun r' k' h1 h2 h3 => by omega)
