/-! the model's bits, counts and seed -/
theorem c7_those (h : Hp) {I : Nat → Int32} (J : Nat → Int64) {A : Nat → Nat → Int32} (me : Nat → Int64) {n : Nat} {b u : Int32} {t : Nat → Nat → Int32} (h0 : I 0 = nI n) (H : En A 0 n b u t) (hn : n ≤ 4) (x : Int32) : Fn MX7_those 1 [.ref 152, .int x] (mOv h (I, J, A, me)) (some (.int (bitsI (fun j => decide (t j 7 = x)) n))) := by
  intro z
  refine Cal_of_R (by decide +kernel) (L := [.ref 152, .int x, .null, .null]) rfl (Nat.le_of_ble_eq_true rfl) ?_
  have loop : ∀ (j p : Nat), p + j = n → ∀ z, R MX7_those 1 0 0 (fun v h' z' => v = some (.int (bitsI (fun j => decide (t j 7 = x)) n)) ∧ h' = mOv h (I, J, A, me) ∧ z' = z) 4 [.ref 152, .int x, .int (bitsI (fun j => decide (t j 7 = x)) p), .int (nI p)] [] (mOv h (I, J, A, me)) z 0 0 := by
    intro j
    induction j with
    | zero =>
      intro p hp z
      obtain rfl : p = n := by omega
      refine r_iload iX7_those_4 rfl ?_
      refine r_aload iX7_those_5 rfl ?_
      refine r_gthrowers iX7_those_6 (flX7_68 _ rfl) ?_
      rw [h0]
      refine r_icmp_ge iX7_those_9 (fun _ => ?_) (fun g9 => absurd (nI_le (by omega) (by omega)) g9)
      refine r_iload iX7_those_39 rfl ?_
      refine r_iret iX7_those_40 rfl ?_
      exact ⟨rfl, rfl, rfl⟩
    | succ j ih =>
      intro p hp z
      refine r_iload iX7_those_4 rfl ?_
      refine r_aload iX7_those_5 rfl ?_
      refine r_gthrowers iX7_those_6 (flX7_68 _ rfl) ?_
      rw [h0]
      refine r_icmp_ge iX7_those_9 (fun g9 => absurd g9 (nI_ge (by omega) (by omega))) (fun _ => ?_)
      refine r_iload iX7_those_12 rfl ?_
      refine r_aload iX7_those_13 rfl ?_
      refine r_iconst (v := 0) iX7_those_14 rfl ?_
      refine r_iload iX7_those_15 rfl ?_
      refine r_iconst (v := 5) iX7_those_16 rfl ?_
      refine r_callV iX7_those_17 (cX7_77 _ rfl) (c7_mark h I J A me (l := 0) (by omega) (t := p) (by omega) (w := 5) (by omega) _) (by omega) (mOv_obj _ _) rfl rfl rfl (Nat.le_of_ble_eq_true rfl) (by first | exact Nat.le_of_ble_eq_true rfl | omega) (by first | exact Nat.le_of_ble_eq_true rfl | omega) ?_
      rintro v h' z' ⟨rfl, rfl, rfl⟩
      rw [show _ = t p 7 from H.mk (w := 5) (show p < n by omega) (by omega)]
      have e := ih (p + 1) (by omega) z'
      by_cases g : t p 7 = x
      · rw [show bitsI (fun j => decide (t j 7 = x)) (p + 1) = bitsI (fun j => decide (t j 7 = x)) p ||| ((1 : Int32) <<< (nI p &&& 31)) by rw [bitsI, if_pos (by simpa using g)]] at e
        refine r_iload iX7_those_20 rfl ?_
        refine r_icmp_ne iX7_those_21 (fun g9 => absurd (g) g9) (fun _ => ?_)
        refine r_iconst (v := 1) iX7_those_24 rfl ?_
        refine r_iload iX7_those_25 rfl ?_
        refine r_ishl iX7_those_26 ?_
        refine r_goto iX7_those_27 ?_
        refine r_ior iX7_those_31 ?_
        refine r_istore_2 iX7_those_32 rfl ?_
        refine r_iinc_3 iX7_those_33 (by first | exact nI_inc _ | rfl) rfl ?_
        refine r_goto iX7_those_36 ?_
        exact e
      · rw [show bitsI (fun j => decide (t j 7 = x)) (p + 1) = bitsI (fun j => decide (t j 7 = x)) p by rw [bitsI, if_neg (by simpa using g)]] at e
        refine r_iload iX7_those_20 rfl ?_
        refine r_icmp_ne iX7_those_21 (fun _ => ?_) (fun g9 => absurd g9 (g))
        refine r_iconst (v := 0) iX7_those_30 rfl ?_
        refine r_ior iX7_those_31 ?_
        rw [Int32.or_zero]
        refine r_istore_2 iX7_those_32 rfl ?_
        refine r_iinc_3 iX7_those_33 (by first | exact nI_inc _ | rfl) rfl ?_
        refine r_goto iX7_those_36 ?_
        exact e
  refine r_iconst (v := 0) iX7_those_0 rfl ?_
  refine r_istore_2 iX7_those_1 rfl ?_
  refine r_iconst (v := 0) iX7_those_2 rfl ?_
  refine r_istore_3 iX7_those_3 rfl ?_
  exact loop n 0 (by omega) z
theorem c7_winners (h : Hp) {I : Nat → Int32} (J : Nat → Int64) {A : Nat → Nat → Int32} (me : Nat → Int64) {l n : Nat} {b u : Int32} {t : Nat → Nat → Int32} (h0 : I 0 = nI n) (H : En A l n b u t) (hl : l < 2) (hn : n ≤ 4) (hv : ∀ i, i < n → VOk (t i)) : Fn MX7_winners 3 [.ref 152, .int (nI l)] (mOv h (I, J, A, me)) (some (.int (bitsI (leadP n t) n))) := by
  intro z
  refine Cal_of_R (by decide +kernel) (L := [.ref 152, .int (nI l), .null, .null]) rfl (Nat.le_of_ble_eq_true rfl) ?_
  have loop : ∀ (j p : Nat), p + j = n → ∀ z, R MX7_winners 3 0 0 (fun v h' z' => v = some (.int (bitsI (leadP n t) n)) ∧ h' = mOv h (I, J, A, me) ∧ z' = z) 4 [.ref 152, .int (nI l), .int (bitsI (leadP n t) p), .int (nI p)] [] (mOv h (I, J, A, me)) z 0 0 := by
    intro j
    induction j with
    | zero =>
      intro p hp z
      obtain rfl : p = n := by omega
      refine r_iload iX7_winners_4 rfl ?_
      refine r_aload iX7_winners_5 rfl ?_
      refine r_gthrowers iX7_winners_6 (flX7_68 _ rfl) ?_
      rw [h0]
      refine r_icmp_ge iX7_winners_9 (fun _ => ?_) (fun g9 => absurd (nI_le (by omega) (by omega)) g9)
      refine r_iload iX7_winners_37 rfl ?_
      refine r_iret iX7_winners_38 rfl ?_
      exact ⟨rfl, rfl, rfl⟩
    | succ j ih =>
      intro p hp z
      refine r_iload iX7_winners_4 rfl ?_
      refine r_aload iX7_winners_5 rfl ?_
      refine r_gthrowers iX7_winners_6 (flX7_68 _ rfl) ?_
      rw [h0]
      refine r_icmp_ge iX7_winners_9 (fun g9 => absurd g9 (nI_ge (by omega) (by omega))) (fun _ => ?_)
      refine r_iload iX7_winners_12 rfl ?_
      refine r_aload iX7_winners_13 rfl ?_
      refine r_iload iX7_winners_14 rfl ?_
      refine r_iload iX7_winners_15 rfl ?_
      refine r_callV iX7_winners_16 (cX7_89 _ rfl) (c7_rankOf h J me h0 H hl hn hv (i := p) (by omega) _) (by omega) (mOv_obj _ _) rfl rfl rfl (Nat.le_of_ble_eq_true rfl) (by first | exact Nat.le_of_ble_eq_true rfl | omega) (by first | exact Nat.le_of_ble_eq_true rfl | omega) ?_
      rintro v h' z' ⟨rfl, rfl, rfl⟩
      have e := ih (p + 1) (by omega) z'
      have hc := cnt_le (fun j => kBetter (t j) (t p)) n
      by_cases g : cnt (fun o => kBetter (t o) (t p)) n = 0
      · rw [show bitsI (leadP n t) (p + 1) = bitsI (leadP n t) p ||| ((1 : Int32) <<< (nI p &&& 31)) by rw [bitsI, if_pos (by simpa [leadP] using g)]] at e
        rw [g]
        refine r_if_ne iX7_winners_19 (fun g9 => absurd (rfl) g9) (fun _ => ?_)
        refine r_iconst (v := 1) iX7_winners_22 rfl ?_
        refine r_iload iX7_winners_23 rfl ?_
        refine r_ishl iX7_winners_24 ?_
        refine r_goto iX7_winners_25 ?_
        refine r_ior iX7_winners_29 ?_
        refine r_istore_2 iX7_winners_30 rfl ?_
        refine r_iinc_3 iX7_winners_31 (by first | exact nI_inc _ | rfl) rfl ?_
        refine r_goto iX7_winners_34 ?_
        exact e
      · rw [show bitsI (leadP n t) (p + 1) = bitsI (leadP n t) p by rw [bitsI, if_neg (by simpa [leadP] using g)]] at e
        refine r_if_ne iX7_winners_19 (fun _ => ?_) (fun g9 => absurd g9 (nI_ne0 (by omega) (by omega)))
        refine r_iconst (v := 0) iX7_winners_28 rfl ?_
        refine r_ior iX7_winners_29 ?_
        rw [Int32.or_zero]
        refine r_istore_2 iX7_winners_30 rfl ?_
        refine r_iinc_3 iX7_winners_31 (by first | exact nI_inc _ | rfl) rfl ?_
        refine r_goto iX7_winners_34 ?_
        exact e
  refine r_iconst (v := 0) iX7_winners_0 rfl ?_
  refine r_istore_2 iX7_winners_1 rfl ?_
  refine r_iconst (v := 0) iX7_winners_2 rfl ?_
  refine r_istore_3 iX7_winners_3 rfl ?_
  exact loop n 0 (by omega) z
theorem bits_or (p q : Nat → Bool) : ∀ n, n ≤ 4 → bitsI p n ||| bitsI q n = bitsI (fun j => p j || q j) n := by
  intro n hn
  match n, hn with
  | 0, _ => simp only [bitsI, Bool.false_eq_true, if_false, if_true, Bool.or_true, Bool.or_false, Bool.true_or, Bool.false_or] <;> decide
  | 1, _ => cases h0 : p 0 <;> cases g0 : q 0 <;> simp only [bitsI, h0, g0, Bool.false_eq_true, if_false, if_true, Bool.or_true, Bool.or_false, Bool.true_or, Bool.false_or] <;> decide
  | 2, _ => cases h0 : p 0 <;> cases g0 : q 0 <;> cases h1 : p 1 <;> cases g1 : q 1 <;> simp only [bitsI, h0, g0, h1, g1, Bool.false_eq_true, if_false, if_true, Bool.or_true, Bool.or_false, Bool.true_or, Bool.false_or] <;> decide
  | 3, _ => cases h0 : p 0 <;> cases g0 : q 0 <;> cases h1 : p 1 <;> cases g1 : q 1 <;> cases h2 : p 2 <;> cases g2 : q 2 <;> simp only [bitsI, h0, g0, h1, g1, h2, g2, Bool.false_eq_true, if_false, if_true, Bool.or_true, Bool.or_false, Bool.true_or, Bool.false_or] <;> decide
  | 4, _ => cases h0 : p 0 <;> cases g0 : q 0 <;> cases h1 : p 1 <;> cases g1 : q 1 <;> cases h2 : p 2 <;> cases g2 : q 2 <;> cases h3 : p 3 <;> cases g3 : q 3 <;> simp only [bitsI, h0, g0, h1, g1, h2, g2, h3, g3, Bool.false_eq_true, if_false, if_true, Bool.or_true, Bool.or_false, Bool.true_or, Bool.false_or] <;> decide
theorem bitsI_congr {p q : Nat → Bool} : ∀ n, (∀ j, j < n → p j = q j) → bitsI p n = bitsI q n
  | 0, _ => rfl
  | n + 1, h => by rw [bitsI, bitsI, h n (by omega), bitsI_congr n (fun j hj => h j (by omega))]
theorem bits_in {n : Nat} (hn : n ≤ 4) {t : Nat → Nat → Int32} (hq : ∀ i, i < n → ∃ q, q ≤ 3 ∧ t i 7 = nI q) : bitsI (fun j => decide (t j 7 = 0)) n ||| bitsI (fun j => decide (t j 7 = 1)) n ||| bitsI (fun j => decide (t j 7 = 2)) n = bitsI (notOutP t) n := by
  rw [bits_or _ _ n hn, bits_or _ _ n hn]
  refine bitsI_congr n (fun j hj => ?_)
  obtain ⟨q, hq3, e⟩ := hq j hj
  unfold notOutP
  rw [e]
  match q, hq3 with
  | 0, _ => decide
  | 1, _ => decide
  | 2, _ => decide
  | 3, _ => decide
theorem c7_count_out (h : Hp) (s : Ms) (x : Int32) (hx : x < 0 ∨ 8 < x) : Fn MX7_count 4 [.ref 152, .int x] (mOv h s) (some (.int (-2))) := by
  intro z
  refine Cal_of_R (by decide +kernel) (L := [.ref 152, .int x]) rfl (Nat.le_of_ble_eq_true rfl) ?_
  have hy2 : x.toInt < 0 ∨ (8 : Int) < x.toInt := hx.elim (fun q => Or.inl (by rw [Int32.lt_iff_toInt_lt] at q; exact q)) (fun q => Or.inr (by rw [Int32.lt_iff_toInt_lt] at q; exact q))
  refine r_iload iX7_count_0 rfl ?_
  refine r_tabOut (tgt := 127) iX7_count_1 (hy2) rfl ?_
  refine r_bipush (v := (-2)) iX7_count_127 rfl ?_
  refine r_iret iX7_count_129 rfl ?_
  exact ⟨rfl, rfl, rfl⟩
theorem c7_count (h : Hp) {I : Nat → Int32} (J : Nat → Int64) {A : Nat → Nat → Int32} (me : Nat → Int64) {lt n sz bb : Nat} {u : Int32} {t : Nat → Nat → Int32} (h0 : I 0 = nI n) (h1 : I 1 = nI lt) (h2 : I 2 = nI sz) (H : En A 0 n (nI bb) u t) (hC : OkC n bb u t) {w : Nat} (hw : w < 9) : Fn MX7_count 4 [.ref 152, .int (nI w)] (mOv h (I, J, A, me)) (some (.int (cntC lt n (nI bb) u t sz w))) := by
  intro z
  have hn := hC.1
  have hq : ∀ i, i < n → ∃ q, q ≤ 3 ∧ t i 7 = nI q := fun i hi => by
    obtain ⟨-, -, -, r, a, e, q, -, -, -, hq7, -, -, hq, -⟩ := hC.2.2.2 i hi
    exact ⟨q, hq, hq7⟩
  refine Cal_of_R (by decide +kernel) (L := [.ref 152, .int (nI w)]) rfl (Nat.le_of_ble_eq_true rfl) ?_
  match w, hw with
  | 0, _ =>
    refine r_iload iX7_count_0 rfl ?_
    refine r_tabIn (tgt := 52) iX7_count_1 (by decide) (by decide) rfl rfl ?_
    refine r_aload iX7_count_52 rfl ?_
    refine r_glength iX7_count_53 (flX7_48 _ rfl) ?_
    rw [h1]
    refine r_iret iX7_count_56 rfl ?_
    exact ⟨rfl, rfl, rfl⟩
  | 1, _ =>
    refine r_iload iX7_count_0 rfl ?_
    refine r_tabIn (tgt := 57) iX7_count_1 (by decide) (by decide) rfl rfl ?_
    refine r_aload iX7_count_57 rfl ?_
    refine r_gthrowers iX7_count_58 (flX7_68 _ rfl) ?_
    rw [h0]
    refine r_iret iX7_count_61 rfl ?_
    exact ⟨rfl, rfl, rfl⟩
  | 2, _ =>
    refine r_iload iX7_count_0 rfl ?_
    refine r_tabIn (tgt := 62) iX7_count_1 (by decide) (by decide) rfl rfl ?_
    refine r_aload iX7_count_62 rfl ?_
    refine r_gnow iX7_count_63 (flX7_19 _ rfl) ?_
    refine r_iconst (v := 0) iX7_count_66 rfl ?_
    refine r_ld3 iX7_count_67 ((show (0 : Int32) = nI 0 from rfl)) (by omega) ?_
    rw [show A 3 0 = nI bb from H.1]
    refine r_iret iX7_count_68 rfl ?_
    exact ⟨rfl, rfl, rfl⟩
  | 3, _ =>
    refine r_iload iX7_count_0 rfl ?_
    refine r_tabIn (tgt := 69) iX7_count_1 (by decide) (by decide) rfl rfl ?_
    refine r_aload iX7_count_69 rfl ?_
    refine r_iconst (v := 0) iX7_count_70 rfl ?_
    refine r_callV iX7_count_71 (cX7_186 _ rfl) (c7_those h J me h0 H hn 0 _) (by omega) (mOv_obj _ _) rfl rfl rfl (Nat.le_of_ble_eq_true rfl) (by first | exact Nat.le_of_ble_eq_true rfl | omega) (by first | exact Nat.le_of_ble_eq_true rfl | omega) ?_
    rintro v h' z' ⟨rfl, rfl, rfl⟩
    refine r_aload iX7_count_74 rfl ?_
    refine r_iconst (v := 1) iX7_count_75 rfl ?_
    refine r_callV iX7_count_76 (cX7_186 _ rfl) (c7_those h J me h0 H hn 1 _) (by omega) (mOv_obj _ _) rfl rfl rfl (Nat.le_of_ble_eq_true rfl) (by first | exact Nat.le_of_ble_eq_true rfl | omega) (by first | exact Nat.le_of_ble_eq_true rfl | omega) ?_
    rintro v h' z' ⟨rfl, rfl, rfl⟩
    refine r_ior iX7_count_79 ?_
    refine r_aload iX7_count_80 rfl ?_
    refine r_iconst (v := 2) iX7_count_81 rfl ?_
    refine r_callV iX7_count_82 (cX7_186 _ rfl) (c7_those h J me h0 H hn 2 _) (by omega) (mOv_obj _ _) rfl rfl rfl (Nat.le_of_ble_eq_true rfl) (by first | exact Nat.le_of_ble_eq_true rfl | omega) (by first | exact Nat.le_of_ble_eq_true rfl | omega) ?_
    rintro v h' z' ⟨rfl, rfl, rfl⟩
    refine r_ior iX7_count_85 ?_
    rw [bits_in hn hq]
    refine r_iret iX7_count_86 rfl ?_
    exact ⟨rfl, rfl, rfl⟩
  | 4, _ =>
    refine r_iload iX7_count_0 rfl ?_
    refine r_tabIn (tgt := 87) iX7_count_1 (by decide) (by decide) rfl rfl ?_
    refine r_aload iX7_count_87 rfl ?_
    refine r_iconst (v := 1) iX7_count_88 rfl ?_
    refine r_callV iX7_count_89 (cX7_186 _ rfl) (c7_those h J me h0 H hn 1 _) (by omega) (mOv_obj _ _) rfl rfl rfl (Nat.le_of_ble_eq_true rfl) (by first | exact Nat.le_of_ble_eq_true rfl | omega) (by first | exact Nat.le_of_ble_eq_true rfl | omega) ?_
    rintro v h' z' ⟨rfl, rfl, rfl⟩
    refine r_iret iX7_count_92 rfl ?_
    exact ⟨rfl, rfl, rfl⟩
  | 5, _ =>
    refine r_iload iX7_count_0 rfl ?_
    refine r_tabIn (tgt := 93) iX7_count_1 (by decide) (by decide) rfl rfl ?_
    refine r_aload iX7_count_93 rfl ?_
    refine r_iconst (v := 2) iX7_count_94 rfl ?_
    refine r_callV iX7_count_95 (cX7_186 _ rfl) (c7_those h J me h0 H hn 2 _) (by omega) (mOv_obj _ _) rfl rfl rfl (Nat.le_of_ble_eq_true rfl) (by first | exact Nat.le_of_ble_eq_true rfl | omega) (by first | exact Nat.le_of_ble_eq_true rfl | omega) ?_
    rintro v h' z' ⟨rfl, rfl, rfl⟩
    refine r_iret iX7_count_98 rfl ?_
    exact ⟨rfl, rfl, rfl⟩
  | 6, _ =>
    refine r_iload iX7_count_0 rfl ?_
    refine r_tabIn (tgt := 99) iX7_count_1 (by decide) (by decide) rfl rfl ?_
    refine r_aload iX7_count_99 rfl ?_
    refine r_gacts iX7_count_100 (flX7_71 _ rfl) ?_
    rw [h2]
    refine r_iret iX7_count_103 rfl ?_
    exact ⟨rfl, rfl, rfl⟩
  | 7, _ =>
    refine r_iload iX7_count_0 rfl ?_
    refine r_tabIn (tgt := 104) iX7_count_1 (by decide) (by decide) rfl rfl ?_
    refine r_aload iX7_count_104 rfl ?_
    refine r_gnow iX7_count_105 (flX7_19 _ rfl) ?_
    refine r_iconst (v := 1) iX7_count_108 rfl ?_
    refine r_ld3 iX7_count_109 ((show (1 : Int32) = nI 1 from rfl)) (by omega) ?_
    rw [show A 3 1 = u from H.2.1]
    rcases hC.okU with g | ⟨i, hi, g⟩
    · rw [g]
      refine r_bipush (v := (-9)) iX7_count_110 rfl ?_
      refine r_icmp_ne iX7_count_112 (fun g9 => absurd (rfl) g9) (fun _ => ?_)
      refine r_iconst (v := 1) iX7_count_115 rfl ?_
      refine r_goto iX7_count_116 ?_
      refine r_iret iX7_count_120 rfl ?_
      exact ⟨by show _ = some (Value.int (if 0 ≤ (-9 : Int32) ∧ (-9 : Int32) < nI n then 0 else 1)); rw [if_neg (fun q => absurd q.1 (by decide))], rfl, rfl⟩
    · rw [g]
      refine r_bipush (v := (-9)) iX7_count_110 rfl ?_
      refine r_icmp_ne iX7_count_112 (fun _ => ?_) (fun g9 => absurd g9 (nI_9 (by omega)))
      refine r_iconst (v := 0) iX7_count_119 rfl ?_
      refine r_iret iX7_count_120 rfl ?_
      exact ⟨by show _ = some (Value.int (if 0 ≤ nI i ∧ nI i < nI n then 0 else 1)); rw [if_pos ⟨nI_pos' (by omega), nI_lt hi (by omega)⟩], rfl, rfl⟩
  | 8, _ =>
    refine r_iload iX7_count_0 rfl ?_
    refine r_tabIn (tgt := 121) iX7_count_1 (by decide) (by decide) rfl rfl ?_
    refine r_aload iX7_count_121 rfl ?_
    refine r_iconst (v := 0) iX7_count_122 rfl ?_
    refine r_callV iX7_count_123 (cX7_183 _ rfl) (c7_winners h J me h0 H (l := 0) (by omega) hn (fun i hi => (hC.2.2.2 i hi).v hC.2.1) _) (by omega) (mOv_obj _ _) rfl rfl rfl (Nat.le_of_ble_eq_true rfl) (by first | exact Nat.le_of_ble_eq_true rfl | omega) (by first | exact Nat.le_of_ble_eq_true rfl | omega) ?_
    rintro v h' z' ⟨rfl, rfl, rfl⟩
    refine r_iret iX7_count_126 rfl ?_
    exact ⟨rfl, rfl, rfl⟩
theorem c7_seed (h : Hp) (I : Nat → Int32) (J : Nat → Int64) (A : Nat → Nat → Int32) (me : Nat → Int64) (v : Int64) : Pr MX7_seed 0 [.ref 152, .long v] (mOv h (I, J, A, me)) (some (.long (J 2))) (mOv h (I, upL J 2 v, A, me)) := by
  intro z
  refine Cal_of_R (by decide +kernel) (L := [.ref 152, .long v, .null, .null, .null]) rfl (Nat.le_of_ble_eq_true rfl) ?_
  refine r_aload iX7_seed_0 rfl ?_
  refine r_gseed iX7_seed_1 (flX7_176 _ rfl) ?_
  refine r_lstore_3 iX7_seed_4 rfl ?_
  refine r_aload iX7_seed_5 rfl ?_
  refine r_lload iX7_seed_6 rfl ?_
  refine r_mseed iX7_seed_7 (fpX7_176 _ rfl) ?_
  refine r_lload iX7_seed_10 rfl ?_
  refine r_lret iX7_seed_11 rfl ?_
  exact ⟨rfl, rfl, rfl⟩
theorem c7_toss {h : Hp} {s : Ms} {x : Int32} {z : Nat} {Q : Option Value → Hp → Nat → Prop} (hA : Cal MX7_act 4 0 0 [.ref 152, .int (if x = 0 then nI 0 else nI 1)] (mOv h s) z Q) (hq : ∀ v h' z', Q v h' z' → ∃ q, v = some (.int q)) : Cal MX7_toss 5 0 0 [.ref 152, .int x] (mOv h s) z Q := by
  refine Cal_of_R (by decide +kernel) (L := [.ref 152, .int x]) rfl (Nat.le_of_ble_eq_true rfl) ?_
  by_cases g : x = 0
  · rw [if_pos g] at hA
    refine r_aload iX7_toss_0 rfl ?_
    refine r_iload iX7_toss_1 rfl ?_
    refine r_if_eq iX7_toss_2 (fun _ => ?_) (fun g9 => absurd (g) g9)
    refine r_iconst (v := 0) iX7_toss_9 rfl ?_
    refine r_callV iX7_toss_10 (cX7_118 _ rfl) (hA) (by omega) (mOv_obj _ _) rfl rfl rfl (Nat.le_of_ble_eq_true rfl) (by first | exact Nat.le_of_ble_eq_true rfl | omega) (by first | exact Nat.le_of_ble_eq_true rfl | omega) ?_
    intro v h' z' hQ
    obtain ⟨q, rfl⟩ := hq v h' z' hQ
    refine r_iret iX7_toss_13 rfl ?_
    exact hQ
  · rw [if_neg g] at hA
    refine r_aload iX7_toss_0 rfl ?_
    refine r_iload iX7_toss_1 rfl ?_
    refine r_if_eq iX7_toss_2 (fun g9 => absurd g9 (g)) (fun _ => ?_)
    refine r_iconst (v := 1) iX7_toss_5 rfl ?_
    refine r_goto iX7_toss_6 ?_
    refine r_callV iX7_toss_10 (cX7_118 _ rfl) (hA) (by omega) (mOv_obj _ _) rfl rfl rfl (Nat.le_of_ble_eq_true rfl) (by first | exact Nat.le_of_ble_eq_true rfl | omega) (by first | exact Nat.le_of_ble_eq_true rfl | omega) ?_
    intro v h' z' hQ
    obtain ⟨q, rfl⟩ := hq v h' z' hQ
    refine r_iret iX7_toss_13 rfl ?_
    exact hQ
theorem c7_spare {h : Hp} {s : Ms} {z : Nat} {Q : Option Value → Hp → Nat → Prop} (hA : Cal MX7_act 4 0 0 [.ref 152, .int (nI 2)] (mOv h s) z Q) (hq : ∀ v h' z', Q v h' z' → ∃ q, v = some (.int q)) : Cal MX7_spare 5 0 0 [.ref 152] (mOv h s) z Q := by
  refine Cal_of_R (by decide +kernel) (L := [.ref 152]) rfl (Nat.le_of_ble_eq_true rfl) ?_
  refine r_aload iX7_spare_0 rfl ?_
  refine r_iconst (v := 2) iX7_spare_1 rfl ?_
  refine r_callV iX7_spare_2 (cX7_118 _ rfl) (hA) (by omega) (mOv_obj _ _) rfl rfl rfl (Nat.le_of_ble_eq_true rfl) (by first | exact Nat.le_of_ble_eq_true rfl | omega) (by first | exact Nat.le_of_ble_eq_true rfl | omega) ?_
  intro v h' z' hQ
  obtain ⟨q, rfl⟩ := hq v h' z' hQ
  refine r_iret iX7_spare_5 rfl ?_
  exact hQ
