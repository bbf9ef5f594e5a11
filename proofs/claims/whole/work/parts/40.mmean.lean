/-! the model's means -/
def pl (i r q k : Nat) : Nat := 240 * i + 80 * r + 5 * q + k
theorem pl_lt {i r q k : Nat} (h1 : i ≤ 4) (h2 : r < 3) (h3 : q < 16) (h4 : k < 5) : pl i r q k < 1200 := by unfold pl; omega
theorem c7_place (h : Hp) (i r q k : Nat) : Fn MX7_place 0 [.int (nI i), .int (nI r), .int (nI q), .int (nI k)] h (some (.int (nI (pl i r q k)))) := by
  intro z
  refine Cal_of_R (by decide +kernel) (L := [.int (nI i), .int (nI r), .int (nI q), .int (nI k)]) rfl (Nat.le_of_ble_eq_true rfl) ?_
  have e : ((nI i * 3 + nI r) * 16 + nI q) * 5 + nI k = nI (pl i r q k) := by
    rw [show pl i r q k = ((i * 3 + r) * 16 + q) * 5 + k by unfold pl; omega, ← nI_add, ← nI_mul, ← nI_add, ← nI_mul, ← nI_add, ← nI_mul]; rfl
  refine r_iload iX7_place_0 rfl ?_
  refine r_iconst (v := 3) iX7_place_1 rfl ?_
  refine r_imul iX7_place_2 ?_
  refine r_iload iX7_place_3 rfl ?_
  refine r_iadd iX7_place_4 ?_
  refine r_bipush (v := 16) iX7_place_5 rfl ?_
  refine r_imul iX7_place_7 ?_
  refine r_iload iX7_place_8 rfl ?_
  refine r_iadd iX7_place_9 ?_
  refine r_iconst (v := 5) iX7_place_10 rfl ?_
  refine r_imul iX7_place_11 ?_
  refine r_iload iX7_place_12 rfl ?_
  refine r_iadd iX7_place_13 ?_
  rw [e]
  refine r_iret iX7_place_14 rfl ?_
  exact ⟨rfl, rfl, rfl⟩
theorem c7_ref_unk (h : Hp) {I : Nat → Int32} (J : Nat → Int64) (A : Nat → Nat → Int32) (me : Nat → Int64) {n : Nat} (hn : n ≤ 4) (h0 : I 0 = nI n) {x : Int32} (y : Int32) (hx : ¬ (0 ≤ x ∧ x < nI n)) : Fn MX7_refused 3 [.ref 152, .int x, .int y] (mOv h (I, J, A, me)) (some (.int (-1))) := by
  intro z
  refine Cal_of_R (by decide +kernel) (L := [.ref 152, .int x, .int y]) rfl (Nat.le_of_ble_eq_true rfl) ?_
  refine r_aload iX7_refused_0 rfl ?_
  refine r_iload iX7_refused_1 rfl ?_
  refine r_callV iX7_refused_2 (cX7_74 _ rfl) (c7_isThrower h J A me hn h0 x _) (by omega) (mOv_obj _ _) rfl rfl rfl (Nat.le_of_ble_eq_true rfl) (by first | exact Nat.le_of_ble_eq_true rfl | omega) (by first | exact Nat.le_of_ble_eq_true rfl | omega) ?_
  rintro v h' z' ⟨rfl, rfl, rfl⟩
  rw [if_neg hx]
  refine r_if_ne iX7_refused_5 (fun g9 => absurd (rfl) g9) (fun _ => ?_)
  refine r_iconst (v := (-1)) iX7_refused_8 rfl ?_
  refine r_goto iX7_refused_9 ?_
  refine r_iret iX7_refused_58 rfl ?_
  exact ⟨rfl, rfl, rfl⟩
theorem c7_ref_out (h : Hp) {I : Nat → Int32} (J : Nat → Int64) {A : Nat → Nat → Int32} (me : Nat → Int64) {n : Nat} {b u : Int32} {t : Nat → Nat → Int32} (hn : n ≤ 4) (h0 : I 0 = nI n) (H : En A 0 n b u t) {i : Nat} (hi : i < n) {m : Int32} (hm : m < 1 ∨ 4 < m ∨ 11 < b + m - 1) : Fn MX7_refused 3 [.ref 152, .int (nI i), .int m] (mOv h (I, J, A, me)) (some (.int (-2))) := by
  intro z
  refine Cal_of_R (by decide +kernel) (L := [.ref 152, .int (nI i), .int m]) rfl (Nat.le_of_ble_eq_true rfl) ?_
  refine r_aload iX7_refused_0 rfl ?_
  refine r_iload iX7_refused_1 rfl ?_
  refine r_callV iX7_refused_2 (cX7_74 _ rfl) (c7_isThrower h J A me hn h0 (nI i) _) (by omega) (mOv_obj _ _) rfl rfl rfl (Nat.le_of_ble_eq_true rfl) (by first | exact Nat.le_of_ble_eq_true rfl | omega) (by first | exact Nat.le_of_ble_eq_true rfl | omega) ?_
  rintro v h' z' ⟨rfl, rfl, rfl⟩
  rw [i_ks hn hi]
  refine r_if_ne iX7_refused_5 (fun _ => ?_) (fun g9 => absurd g9 (by decide))
  refine r_iload iX7_refused_12 rfl ?_
  refine r_i2l iX7_refused_13 ?_
  refine r_lconst (v := 1) iX7_refused_14 rfl ?_
  refine r_ldc2 (v := 4) iX7_refused_15 (gt_3 202 rfl rfl) ?_
  refine r_callS iX7_refused_18 (cX7_44 _ rfl) (c7_inE _ (x := m) (lo := 1) (hi := 4) rfl rfl rfl _) (by omega) rfl rfl (Nat.le_of_ble_eq_true rfl) (by first | exact Nat.le_of_ble_eq_true rfl | omega) (by first | exact Nat.le_of_ble_eq_true rfl | omega) ?_
  rintro v h' z' ⟨rfl, rfl, rfl⟩
  by_cases g : 1 ≤ m ∧ m ≤ 4
  · rw [if_pos g]
    refine r_if_eq iX7_refused_21 (fun g9 => absurd g9 (by decide)) (fun _ => ?_)
    refine r_aload iX7_refused_24 rfl ?_
    refine r_gnow iX7_refused_25 (flX7_19 _ rfl) ?_
    refine r_iconst (v := 0) iX7_refused_28 rfl ?_
    refine r_ld3 iX7_refused_29 ((show (0 : Int32) = nI 0 from rfl)) (by omega) ?_
    rw [show A 3 0 = b from H.1]
    have g2 : 11 < b + m - 1 := (hm.resolve_left (Int32.not_lt.mpr g.1)).resolve_left (Int32.not_lt.mpr g.2)
    refine r_iload iX7_refused_30 rfl ?_
    refine r_iadd iX7_refused_31 ?_
    refine r_iconst (v := 1) iX7_refused_32 rfl ?_
    refine r_isub iX7_refused_33 ?_
    refine r_bipush (v := 11) iX7_refused_34 rfl ?_
    refine r_icmp_le iX7_refused_36 (fun g9 => absurd g9 (Int32.not_le.mpr g2)) (fun _ => ?_)
    refine r_bipush (v := (-2)) iX7_refused_39 rfl ?_
    refine r_goto iX7_refused_41 ?_
    refine r_iret iX7_refused_58 rfl ?_
    exact ⟨rfl, rfl, rfl⟩
  · rw [if_neg g]
    refine r_if_eq iX7_refused_21 (fun _ => ?_) (fun g9 => absurd (rfl) g9)
    refine r_bipush (v := (-2)) iX7_refused_39 rfl ?_
    refine r_goto iX7_refused_41 ?_
    refine r_iret iX7_refused_58 rfl ?_
    exact ⟨rfl, rfl, rfl⟩
theorem c7_ref_in (h : Hp) {I : Nat → Int32} (J : Nat → Int64) {A : Nat → Nat → Int32} (me : Nat → Int64) {n bb : Nat} {u : Int32} {t : Nat → Nat → Int32} (hn : n ≤ 4) (h0 : I 0 = nI n) (H : En A 0 n (nI bb) u t) {i : Nat} (hi : i < n) {m : Nat} (h1 : 1 ≤ m) (h4 : m ≤ 4) (hb : bb + m ≤ 12) : Fn MX7_refused 3 [.ref 152, .int (nI i), .int (nI m)] (mOv h (I, J, A, me)) (some (.int (if t i 7 = 3 then -3 else 0))) := by
  intro z
  have e1 : nI bb + nI m - 1 = nI (bb + m - 1) := by rw [nI_add]; exact pk_sub (b := 1) (by omega)
  refine Cal_of_R (by decide +kernel) (L := [.ref 152, .int (nI i), .int (nI m)]) rfl (Nat.le_of_ble_eq_true rfl) ?_
  refine r_aload iX7_refused_0 rfl ?_
  refine r_iload iX7_refused_1 rfl ?_
  refine r_callV iX7_refused_2 (cX7_74 _ rfl) (c7_isThrower h J A me hn h0 (nI i) _) (by omega) (mOv_obj _ _) rfl rfl rfl (Nat.le_of_ble_eq_true rfl) (by first | exact Nat.le_of_ble_eq_true rfl | omega) (by first | exact Nat.le_of_ble_eq_true rfl | omega) ?_
  rintro v h' z' ⟨rfl, rfl, rfl⟩
  rw [i_ks hn hi]
  refine r_if_ne iX7_refused_5 (fun _ => ?_) (fun g9 => absurd g9 (by decide))
  refine r_iload iX7_refused_12 rfl ?_
  refine r_i2l iX7_refused_13 ?_
  refine r_lconst (v := 1) iX7_refused_14 rfl ?_
  refine r_ldc2 (v := 4) iX7_refused_15 (gt_3 202 rfl rfl) ?_
  refine r_callS iX7_refused_18 (cX7_44 _ rfl) (c7_inE _ (x := nI m) (lo := 1) (hi := 4) rfl rfl rfl _) (by omega) rfl rfl (Nat.le_of_ble_eq_true rfl) (by first | exact Nat.le_of_ble_eq_true rfl | omega) (by first | exact Nat.le_of_ble_eq_true rfl | omega) ?_
  rintro v h' z' ⟨rfl, rfl, rfl⟩
  rw [if_pos (show (1 : Int32) ≤ nI m ∧ nI m ≤ 4 from ⟨nI_le (a := 1) h1 (by omega), nI_le (b := 4) h4 (by omega)⟩)]
  refine r_if_eq iX7_refused_21 (fun g9 => absurd g9 (by decide)) (fun _ => ?_)
  refine r_aload iX7_refused_24 rfl ?_
  refine r_gnow iX7_refused_25 (flX7_19 _ rfl) ?_
  refine r_iconst (v := 0) iX7_refused_28 rfl ?_
  refine r_ld3 iX7_refused_29 ((show (0 : Int32) = nI 0 from rfl)) (by omega) ?_
  rw [show A 3 0 = nI bb from H.1]
  refine r_iload iX7_refused_30 rfl ?_
  refine r_iadd iX7_refused_31 ?_
  refine r_iconst (v := 1) iX7_refused_32 rfl ?_
  refine r_isub iX7_refused_33 ?_
  rw [e1]
  refine r_bipush (v := 11) iX7_refused_34 rfl ?_
  refine r_icmp_le iX7_refused_36 (fun _ => ?_) (fun g9 => absurd (nI_le (b := 11) (by omega) (by omega)) g9)
  refine r_aload iX7_refused_44 rfl ?_
  refine r_iload iX7_refused_45 rfl ?_
  refine r_callV iX7_refused_46 (cX7_131 _ rfl) (c7_isOut h I J me H hn hi _) (by omega) (mOv_obj _ _) rfl rfl rfl (Nat.le_of_ble_eq_true rfl) (by first | exact Nat.le_of_ble_eq_true rfl | omega) (by first | exact Nat.le_of_ble_eq_true rfl | omega) ?_
  rintro v h' z' ⟨rfl, rfl, rfl⟩
  by_cases g : t i 7 = 3
  · rw [show (if t i 7 = 3 then (1 : Int32) else 0) = 1 from if_pos g]
    refine r_if_eq iX7_refused_49 (fun g9 => absurd g9 (by decide)) (fun _ => ?_)
    refine r_bipush (v := (-3)) iX7_refused_52 rfl ?_
    refine r_goto iX7_refused_54 ?_
    refine r_iret iX7_refused_58 rfl ?_
    exact ⟨by rw [if_pos g], rfl, rfl⟩
  · rw [show (if t i 7 = 3 then (1 : Int32) else 0) = 0 from if_neg g]
    refine r_if_eq iX7_refused_49 (fun _ => ?_) (fun g9 => absurd (rfl) g9)
    refine r_iconst (v := 0) iX7_refused_57 rfl ?_
    refine r_iret iX7_refused_58 rfl ?_
    exact ⟨by rw [if_neg g], rfl, rfl⟩
/-- what layMean writes -/
def wOver (me : Nat → Int64) (i r q : Nat) : Int64 := me (pl (i + 1) 0 (q + 1) (i + 1)) * lN (10 ^ (2 - r))
def wMiss (n : Nat) (me : Nat → Int64) (i r q k : Nat) : Int64 := if r = 2 then lN k * lN (10 ^ (3 * (n - i) - r - 1)) else me (pl i (r + 1) (q + 1) k)
def wTry (P n : Nat) (me : Nat → Int64) (i r q k : Nat) : Int64 := wOver me i r q * lN P + wMiss n me i r q k * lN (10 - P)
def wSp (n : Nat) (me : Nat → Int64) (i r q k : Nat) : Int64 := if i + 1 = n then lN k * lN (10 ^ (3 * (n - i) - r)) else me (pl (i + 1) r q k) * 1000
def wMx (P n : Nat) (me : Nat → Int64) (i r q k : Nat) : Int64 := if wTry P n me i r q k ≤ wSp n me i r q k then wSp n me i r q k else wTry P n me i r q k
def rowM (P n : Nat) (me : Nat → Int64) (i r q m : Nat) : Nat → Int64 := fun x => if pl i r q 0 ≤ x ∧ x < pl i r q 0 + m then wMx P n me i r q (x - pl i r q 0) else me x
theorem rowM_out (P n : Nat) (me : Nat → Int64) {i r q m x : Nat} (h : x < pl i r q 0 ∨ pl i r q 0 + m ≤ x) : rowM P n me i r q m x = me x := by
  unfold rowM; rw [if_neg (by omega)]
theorem rowM_in (P n : Nat) (me : Nat → Int64) {i r q m k : Nat} (h : k < m) : rowM P n me i r q m (pl i r q k) = wMx P n me i r q k := by
  unfold rowM; rw [if_pos (by unfold pl; omega), show pl i r q k - pl i r q 0 = k by unfold pl; omega]
theorem rowM_s (P n : Nat) (me : Nat → Int64) (i r q m : Nat) : upL (rowM P n me i r q m) (pl i r q m) (wMx P n me i r q m) = rowM P n me i r q (m + 1) := by
  funext x
  unfold upL
  by_cases g : x = pl i r q m
  · rw [if_pos g, g, rowM_in _ _ _ (by omega)]
  · rw [if_neg g]; unfold rowM
    by_cases g2 : pl i r q 0 ≤ x ∧ x < pl i r q 0 + m
    · rw [if_pos g2, if_pos (by omega)]
    · rw [if_neg g2, if_neg (by unfold pl at *; omega)]
theorem rowM_0 (P n : Nat) (me : Nat → Int64) (i r q : Nat) : rowM P n me i r q 0 = me := by
  funext x; unfold rowM; rw [if_neg (by omega)]
theorem c7_layMean (h : Hp) (I : Nat → Int32) (J : Nat → Int64) {A : Nat → Nat → Int32} (me : Nat → Int64) {n : Nat} {b u : Int32} {t : Nat → Nat → Int32} (H : En A 0 n b u t) (hn : n ≤ 4) {x : Nat} (hx : x < n) (hw : 0 < t x 1) {m i r q : Nat} (hm : m ≤ 4) (hi : i < m) (hr : r < 3) (hq : q < 15) (z : Nat) : Cal MX7_layMean 2 0 0 [.ref 152, .int (nI x), .int (nI m), .int (nI i), .int (nI r), .int (nI q)] (mOv h (I, J, A, me)) z (fun v h' z' => v = none ∧ z' = z ∧ ∃ J', J' 2 = J 2 ∧ h' = mOv h (I, J', A, rowM (pN (t x) (b + nI i) (nI q)) m me i r q (m + 1))) := by
  have hp9 := pN_le (t x) (b + nI i) (nI q)
  have hpe := pN_eq (t x) (b + nI i) (nI q)
  generalize pN (t x) (b + nI i) (nI q) = P at hp9 hpe ⊢
  refine Cal_of_R (by decide +kernel) (L := [.ref 152, .int (nI x), .int (nI m), .int (nI i), .int (nI r), .int (nI q), .null, .null, .null, .null, .null, .null, .null]) rfl (Nat.le_of_ble_eq_true rfl) ?_
  refine r_aload iX7_layMean_0 rfl ?_
  refine r_iload iX7_layMean_1 rfl ?_
  refine r_aload iX7_layMean_2 rfl ?_
  refine r_gnow iX7_layMean_3 (flX7_19 _ rfl) ?_
  refine r_iconst (v := 0) iX7_layMean_6 rfl ?_
  refine r_ld3 iX7_layMean_7 ((show (0 : Int32) = nI 0 from rfl)) (by omega) ?_
  rw [show A 3 0 = b from H.1]
  refine r_iload iX7_layMean_8 rfl ?_
  refine r_iadd iX7_layMean_9 ?_
  refine r_aload iX7_layMean_10 rfl ?_
  refine r_iconst (v := 0) iX7_layMean_11 rfl ?_
  refine r_iload iX7_layMean_12 rfl ?_
  refine r_iconst (v := 0) iX7_layMean_13 rfl ?_
  refine r_callV iX7_layMean_14 (cX7_77 _ rfl) (c7_mark h I J A me (l := 0) (by omega) (t := x) (by omega) (w := 0) (by omega) _) (by omega) (mOv_obj _ _) rfl rfl rfl (Nat.le_of_ble_eq_true rfl) (by first | exact Nat.le_of_ble_eq_true rfl | omega) (by first | exact Nat.le_of_ble_eq_true rfl | omega) ?_
  rintro v h' z' ⟨rfl, rfl, rfl⟩
  rw [show _ = t x 2 from H.mk (w := 0) hx (by omega)]
  refine r_iload iX7_layMean_17 rfl ?_
  refine r_iadd iX7_layMean_19 ?_
  refine r_callV iX7_layMean_20 (cX7_94 _ rfl) (c7_oddsOf h I J me (k := t x) (i := x) (by omega) (H.2.2 x hx).1.symm (H.2.2 x hx).2.1.symm hw (b + nI i) (nI q) _ rfl _) (by omega) (mOv_obj _ _) rfl rfl rfl (Nat.le_of_ble_eq_true rfl) (by first | exact Nat.le_of_ble_eq_true rfl | omega) (by first | exact Nat.le_of_ble_eq_true rfl | omega) ?_
  rintro v h' z' ⟨rfl, rfl, rfl⟩
  rw [hpe]
  refine r_istore_6 iX7_layMean_23 rfl ?_
  refine r_iconst (v := 3) iX7_layMean_25 rfl ?_
  refine r_iload iX7_layMean_26 rfl ?_
  refine r_iload iX7_layMean_27 rfl ?_
  refine r_isub iX7_layMean_28 ?_
  refine r_imul iX7_layMean_29 ?_
  refine r_iload iX7_layMean_30 rfl ?_
  refine r_isub iX7_layMean_32 ?_
  rw [show (3 : Int32) * (nI m - nI i) - nI r = nI (3 * (m - i) - r) by
    rw [pk_sub (by omega), show (3 : Int32) * nI (m - i) = nI (3 * (m - i)) from pk_mul 3 _, pk_sub (by omega)]]
  refine r_istore_7 iX7_layMean_33 rfl ?_
  refine r_iconst (v := 0) iX7_layMean_35 rfl ?_
  refine r_istore_8 iX7_layMean_36 rfl ?_
  have loop : ∀ (j k : Nat) (J1 : Nat → Int64) (w9 w11 : Value), k + j = m + 1 → J1 2 = J 2 → R MX7_layMean 2 0 0 (fun v h' z'_1 => v = none ∧ z'_1 = z' ∧ ∃ J', J' 2 = J 2 ∧ h' = mOv h (I, J', A, rowM P m me i r q (m + 1))) 38 [.ref 152, .int (nI x), .int (nI m), .int (nI i), .int (nI r), .int (nI q), .int (nI P), .int (nI (3 * (m - i) - r)), .int (nI k), w9, .null, w11, .null] [] (mOv h (I, J1, A, rowM P m me i r q k)) z' 0 0 := by
    intro j
    induction j with
    | zero =>
      intro k J1 w9 w11 hk hJ
      obtain rfl : k = m + 1 := by omega
      refine r_iload iX7_layMean_38 rfl ?_
      refine r_iload iX7_layMean_40 rfl ?_
      refine r_icmp_gt iX7_layMean_41 (fun _ => ?_) (fun g9 => absurd (nI_lt (by omega) (by omega)) g9)
      refine r_vret iX7_layMean_222 rfl ?_
      exact ⟨rfl, rfl, J1, hJ, rfl⟩
    | succ j ih =>
      intro k J1 w9 w11 hk hJ
      have part2 : ∀ (a : Int64), a = wMiss m me i r q k → R MX7_layMean 2 0 0 (fun v h' z'_1 => v = none ∧ z'_1 = z' ∧ ∃ J', J' 2 = J 2 ∧ h' = mOv h (I, J', A, rowM P m me i r q (m + 1))) 83 [.ref 152, .int (nI x), .int (nI m), .int (nI i), .int (nI r), .int (nI q), .int (nI P), .int (nI (3 * (m - i) - r)), .int (nI k), w9, .null, w11, .null] [.long a] (mOv h (I, J1, A, rowM P m me i r q k)) z' 0 0 := by
        intro a ha
        refine r_lstore_9 iX7_layMean_83 rfl ?_
        refine r_aload iX7_layMean_85 rfl ?_
        refine r_gmeans iX7_layMean_86 (flX7_25 _ rfl) ?_
        refine r_iload iX7_layMean_89 rfl ?_
        refine r_iconst (v := 1) iX7_layMean_90 rfl ?_
        refine r_iadd iX7_layMean_91 ?_
        rw [nI_1]
        refine r_iconst (v := 0) iX7_layMean_92 rfl ?_
        refine r_iload iX7_layMean_93 rfl ?_
        refine r_iconst (v := 1) iX7_layMean_95 rfl ?_
        refine r_iadd iX7_layMean_96 ?_
        rw [nI_1]
        refine r_iload iX7_layMean_97 rfl ?_
        refine r_iconst (v := 1) iX7_layMean_98 rfl ?_
        refine r_iadd iX7_layMean_99 ?_
        rw [nI_1]
        refine r_callS iX7_layMean_100 (cX7_143 _ rfl) (c7_place _ (i + 1) 0 (q + 1) (i + 1) _) (by omega) rfl rfl (Nat.le_of_ble_eq_true rfl) (by first | exact Nat.le_of_ble_eq_true rfl | omega) (by first | exact Nat.le_of_ble_eq_true rfl | omega) ?_
        rintro v h' z'' ⟨rfl, rfl, rfl⟩
        refine r_ldm iX7_layMean_103 (rfl) (pl_lt (by omega) (by omega) (by omega) (by omega)) ?_
        rw [rowM_out P m me (by unfold pl; omega)]
        refine r_iconst (v := 2) iX7_layMean_104 rfl ?_
        refine r_iload iX7_layMean_105 rfl ?_
        refine r_isub iX7_layMean_107 ?_
        rw [show (2 : Int32) - nI r = nI (2 - r) from nI_sub (a := 2) (by omega)]
        refine r_callS iX7_layMean_108 (cX7_124 _ rfl) (c7_tenTo _ (2 - r) (by omega) _) (by omega) rfl rfl (Nat.le_of_ble_eq_true rfl) (by first | exact Nat.le_of_ble_eq_true rfl | omega) (by first | exact Nat.le_of_ble_eq_true rfl | omega) ?_
        rintro v h' z'' ⟨rfl, rfl, rfl⟩
        refine r_lmul iX7_layMean_111 ?_
        refine r_lstore_11 iX7_layMean_112 rfl ?_
        refine r_aload iX7_layMean_114 rfl ?_
        refine r_lload iX7_layMean_115 rfl ?_
        refine r_iload iX7_layMean_117 rfl ?_
        refine r_i2l iX7_layMean_119 ?_
        rw [nI_l (by omega)]
        refine r_lmul iX7_layMean_120 ?_
        refine r_lload iX7_layMean_121 rfl ?_
        refine r_bipush (v := 10) iX7_layMean_123 rfl ?_
        refine r_iload iX7_layMean_125 rfl ?_
        refine r_isub iX7_layMean_127 ?_
        rw [show (10 : Int32) - nI P = nI (10 - P) from nI_sub (a := 10) (by omega)]
        refine r_i2l iX7_layMean_128 ?_
        rw [nI_l (by omega)]
        refine r_lmul iX7_layMean_129 ?_
        refine r_ladd iX7_layMean_130 ?_
        rw [show me (pl (i + 1) 0 (q + 1) (i + 1)) * lN (10 ^ (2 - r)) * lN P + a * lN (10 - P) = wTry P m me i r q k by rw [ha]; rfl]
        refine r_mtried iX7_layMean_131 (fpX7_151 _ rfl) ?_
        refine r_aload iX7_layMean_134 rfl ?_
        refine r_iload iX7_layMean_135 rfl ?_
        refine r_iload iX7_layMean_136 rfl ?_
        refine r_iconst (v := 1) iX7_layMean_137 rfl ?_
        refine r_isub iX7_layMean_138 ?_
        rw [show nI m - 1 = nI (m - 1) from nI_sub (b := 1) (by omega)]
        have part3 : ∀ (s : Int64) (w11 : Value), s = wSp m me i r q k → R MX7_layMean 2 0 0 (fun v h' z'_1 => v = none ∧ z'_1 = z'' ∧ ∃ J', J' 2 = J 2 ∧ h' = mOv h (I, J', A, rowM P m me i r q (m + 1))) 175 [.ref 152, .int (nI x), .int (nI m), .int (nI i), .int (nI r), .int (nI q), .int (nI P), .int (nI (3 * (m - i) - r)), .int (nI k), .long a, .null, w11, .null] [.long s, .ref 152] (mOv h (I, upL J1 0 (wTry P m me i r q k), A, rowM P m me i r q k)) z'' 0 0 := by
          intro s w11 hs
          refine r_mspared iX7_layMean_175 (fpX7_155 _ rfl) ?_
          refine r_aload iX7_layMean_178 rfl ?_
          refine r_gmeans iX7_layMean_179 (flX7_25 _ rfl) ?_
          refine r_iload iX7_layMean_182 rfl ?_
          refine r_iload iX7_layMean_183 rfl ?_
          refine r_iload iX7_layMean_185 rfl ?_
          refine r_iload iX7_layMean_187 rfl ?_
          refine r_callS iX7_layMean_189 (cX7_143 _ rfl) (c7_place _ i r q k _) (by omega) rfl rfl (Nat.le_of_ble_eq_true rfl) (by first | exact Nat.le_of_ble_eq_true rfl | omega) (by first | exact Nat.le_of_ble_eq_true rfl | omega) ?_
          rintro v h' z3 ⟨rfl, rfl, rfl⟩
          refine r_aload iX7_layMean_192 rfl ?_
          refine r_gtried iX7_layMean_193 (flX7_151 _ rfl) ?_
          refine r_aload iX7_layMean_196 rfl ?_
          refine r_gspared iX7_layMean_197 (flX7_155 _ rfl) ?_
          rw [show upL (upL J1 0 (wTry P m me i r q k)) 1 s 0 = wTry P m me i r q k from rfl, show upL (upL J1 0 (wTry P m me i r q k)) 1 s 1 = s from rfl]
          by_cases g : wTry P m me i r q k ≤ s
          · refine r_lcmp iX7_layMean_200 ?_
            refine r_if_le iX7_layMean_201 (fun _ => ?_) (fun g9 => absurd ((lg_cmp_le _ _).mpr g) g9)
            refine r_aload iX7_layMean_211 rfl ?_
            refine r_gspared iX7_layMean_212 (flX7_155 _ rfl) ?_
            rw [show upL (upL J1 0 (wTry P m me i r q k)) 1 s 1 = wMx P m me i r q k by rw [wMx, ← hs, if_pos g]; rfl]
            refine r_stm iX7_layMean_215 (rfl) (pl_lt (by omega) (by omega) (by omega) (by omega)) ?_
            rw [rowM_s]
            refine r_iinc_8 iX7_layMean_216 (by first | exact nI_inc _ | rfl) rfl ?_
            refine r_goto iX7_layMean_219 ?_
            exact ih (k + 1) _ _ _ (by omega) hJ
          · refine r_lcmp iX7_layMean_200 ?_
            refine r_if_le iX7_layMean_201 (fun g9 => absurd g9 (fun q => g ((lg_cmp_le _ _).mp q))) (fun _ => ?_)
            refine r_aload iX7_layMean_204 rfl ?_
            refine r_gtried iX7_layMean_205 (flX7_151 _ rfl) ?_
            refine r_goto iX7_layMean_208 ?_
            rw [show upL (upL J1 0 (wTry P m me i r q k)) 1 s 0 = wMx P m me i r q k by rw [wMx, ← hs, if_neg g]; rfl]
            refine r_stm iX7_layMean_215 (rfl) (pl_lt (by omega) (by omega) (by omega) (by omega)) ?_
            rw [rowM_s]
            refine r_iinc_8 iX7_layMean_216 (by first | exact nI_inc _ | rfl) rfl ?_
            refine r_goto iX7_layMean_219 ?_
            exact ih (k + 1) _ _ _ (by omega) hJ
        by_cases g : i + 1 = m
        · refine r_icmp_ne iX7_layMean_139 (fun g9 => absurd (congrArg nI (show i = m - 1 by omega)) g9) (fun _ => ?_)
          refine r_iload iX7_layMean_142 rfl ?_
          refine r_i2l iX7_layMean_144 ?_
          rw [nI_l (by omega)]
          refine r_iload iX7_layMean_145 rfl ?_
          refine r_callS iX7_layMean_147 (cX7_124 _ rfl) (c7_tenTo _ (3 * (m - i) - r) (by omega) _) (by omega) rfl rfl (Nat.le_of_ble_eq_true rfl) (by first | exact Nat.le_of_ble_eq_true rfl | omega) (by first | exact Nat.le_of_ble_eq_true rfl | omega) ?_
          rintro v h' z3 ⟨rfl, rfl, rfl⟩
          refine r_lmul iX7_layMean_150 ?_
          refine r_goto iX7_layMean_151 ?_
          exact part3 _ _ (by rw [wSp, if_pos g])
        · have g' : ¬ nI i = nI (m - 1) := fun q => g (by have := (nI_eq (by omega) (by omega)).mp q; omega)
          refine r_icmp_ne iX7_layMean_139 (fun _ => ?_) (fun g9 => absurd g9 (g'))
          refine r_aload iX7_layMean_154 rfl ?_
          refine r_gmeans iX7_layMean_155 (flX7_25 _ rfl) ?_
          refine r_iload iX7_layMean_158 rfl ?_
          refine r_iconst (v := 1) iX7_layMean_159 rfl ?_
          refine r_iadd iX7_layMean_160 ?_
          rw [nI_1]
          refine r_iload iX7_layMean_161 rfl ?_
          refine r_iload iX7_layMean_163 rfl ?_
          refine r_iload iX7_layMean_165 rfl ?_
          refine r_callS iX7_layMean_167 (cX7_143 _ rfl) (c7_place _ (i + 1) r q k _) (by omega) rfl rfl (Nat.le_of_ble_eq_true rfl) (by first | exact Nat.le_of_ble_eq_true rfl | omega) (by first | exact Nat.le_of_ble_eq_true rfl | omega) ?_
          rintro v h' z3 ⟨rfl, rfl, rfl⟩
          refine r_ldm iX7_layMean_170 (rfl) (pl_lt (by omega) (by omega) (by omega) (by omega)) ?_
          rw [rowM_out P m me (by unfold pl; omega)]
          refine r_ldc2 (v := 1000) iX7_layMean_171 (gt_3 190 rfl rfl) ?_
          refine r_lmul iX7_layMean_174 ?_
          exact part3 _ _ (by rw [wSp, if_neg g])
      by_cases g : r = 2
      · refine r_iload iX7_layMean_38 rfl ?_
        refine r_iload iX7_layMean_40 rfl ?_
        refine r_icmp_gt iX7_layMean_41 (fun g9 => absurd g9 (nI_nlt (by omega) (by omega))) (fun _ => ?_)
        refine r_iload iX7_layMean_44 rfl ?_
        refine r_iconst (v := 2) iX7_layMean_46 rfl ?_
        refine r_icmp_ne iX7_layMean_47 (fun g9 => absurd (congrArg nI g) g9) (fun _ => ?_)
        refine r_iload iX7_layMean_50 rfl ?_
        refine r_i2l iX7_layMean_52 ?_
        rw [nI_l (by omega)]
        refine r_iload iX7_layMean_53 rfl ?_
        refine r_iconst (v := 1) iX7_layMean_55 rfl ?_
        refine r_isub iX7_layMean_56 ?_
        rw [show nI (3 * (m - i) - r) - 1 = nI (3 * (m - i) - r - 1) from nI_sub (b := 1) (by omega)]
        refine r_callS iX7_layMean_57 (cX7_124 _ rfl) (c7_tenTo _ (3 * (m - i) - r - 1) (by omega) _) (by omega) rfl rfl (Nat.le_of_ble_eq_true rfl) (by first | exact Nat.le_of_ble_eq_true rfl | omega) (by first | exact Nat.le_of_ble_eq_true rfl | omega) ?_
        rintro v h' z3 ⟨rfl, rfl, rfl⟩
        refine r_lmul iX7_layMean_60 ?_
        refine r_goto iX7_layMean_61 ?_
        exact part2 _ (by rw [wMiss, if_pos g])
      · refine r_iload iX7_layMean_38 rfl ?_
        refine r_iload iX7_layMean_40 rfl ?_
        refine r_icmp_gt iX7_layMean_41 (fun g9 => absurd g9 (nI_nlt (by omega) (by omega))) (fun _ => ?_)
        refine r_iload iX7_layMean_44 rfl ?_
        refine r_iconst (v := 2) iX7_layMean_46 rfl ?_
        refine r_icmp_ne iX7_layMean_47 (fun _ => ?_) (fun g9 => absurd g9 (fun q => g ((nI_eq (b := 2) (by omega) (by omega)).mp q)))
        refine r_aload iX7_layMean_64 rfl ?_
        refine r_gmeans iX7_layMean_65 (flX7_25 _ rfl) ?_
        refine r_iload iX7_layMean_68 rfl ?_
        refine r_iload iX7_layMean_69 rfl ?_
        refine r_iconst (v := 1) iX7_layMean_71 rfl ?_
        refine r_iadd iX7_layMean_72 ?_
        rw [nI_1]
        refine r_iload iX7_layMean_73 rfl ?_
        refine r_iconst (v := 1) iX7_layMean_75 rfl ?_
        refine r_iadd iX7_layMean_76 ?_
        rw [nI_1]
        refine r_iload iX7_layMean_77 rfl ?_
        refine r_callS iX7_layMean_79 (cX7_143 _ rfl) (c7_place _ i (r + 1) (q + 1) k _) (by omega) rfl rfl (Nat.le_of_ble_eq_true rfl) (by first | exact Nat.le_of_ble_eq_true rfl | omega) (by first | exact Nat.le_of_ble_eq_true rfl | omega) ?_
        rintro v h' z3 ⟨rfl, rfl, rfl⟩
        refine r_ldm iX7_layMean_82 (rfl) (pl_lt (by omega) (by omega) (by omega) (by omega)) ?_
        rw [rowM_out P m me (by unfold pl; omega)]
        exact part2 _ (by rw [wMiss, if_neg g])
  have e := loop (m + 1) 0 J .null .null (by omega) rfl
  rw [rowM_0] at e
  exact e
