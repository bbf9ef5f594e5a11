/-! the greatest mean -/
def grt (k : Nat → Int32) (b : Int32) (n : Nat) : Nat → Nat → Nat → Nat → Nat → Nat
  | 0, _, _, q, last => last * 10 ^ (12 - q)
  | f + 1, st, r, q, last => if n ≤ st ∨ 3 ≤ r ∨ 12 ≤ q then last * 10 ^ (12 - q) else max (pN k (b + nI st) (nI q) * grt k b n f (st + 1) 0 (q + 1) (st + 1) + (10 - pN k (b + nI st) (nI q)) * grt k b n f st (r + 1) (q + 1) last) (grt k b n f (st + 1) r q last)
def tryN (k : Nat → Int32) (b : Int32) (n f st r q last : Nat) : Nat := pN k (b + nI st) (nI q) * grt k b n f (st + 1) 0 (q + 1) (st + 1) + (10 - pN k (b + nI st) (nI q)) * grt k b n f st (r + 1) (q + 1) last
theorem mix_le {p x y c : Nat} (hp : p ≤ 9) (hx : x ≤ c) (hy : y ≤ c) : p * x + (10 - p) * y ≤ 10 * c := by
  have h1 : p * x ≤ p * c := Nat.mul_le_mul_left _ hx
  have h2 : (10 - p) * y ≤ (10 - p) * c := Nat.mul_le_mul_left _ hy
  have h3 : p * c + (10 - p) * c = 10 * c := by rw [← Nat.add_mul]; congr 1; omega
  omega
theorem grt_le (k : Nat → Int32) (b : Int32) {n : Nat} (hn : n ≤ 4) : ∀ (f st r q last : Nat), last ≤ 4 → grt k b n f st r q last ≤ 4 * 10 ^ (12 - q)
  | 0, st, r, q, last, h => Nat.mul_le_mul_right _ h
  | f + 1, st, r, q, last, h => by
    rw [grt]
    split
    · exact Nat.mul_le_mul_right _ h
    · rename_i g
      have hq : q < 12 := by omega
      have e : 4 * 10 ^ (12 - q) = 10 * (4 * 10 ^ (12 - (q + 1))) := by
        rw [show 12 - q = 12 - (q + 1) + 1 by omega, Nat.pow_succ]; omega
      refine Nat.max_le.mpr ⟨?_, grt_le k b hn f _ _ _ _ h⟩
      rw [e]
      exact mix_le (pN_le _ _ _) (grt_le k b hn f _ _ _ _ (by omega)) (grt_le k b hn f _ _ _ _ h)
theorem small12 {x q : Nat} (h : x ≤ 4 * 10 ^ (12 - q)) : x < 2 ^ 63 := by
  have : 10 ^ (12 - q) ≤ 10 ^ 12 := Nat.pow_le_pow_right (by decide) (Nat.sub_le _ _)
  omega
theorem lmax_lN {x y : Nat} (hx : x < 2 ^ 63) (hy : y < 2 ^ 63) : lmax (lN x) (lN y) = lN (max x y) := by
  unfold lmax
  by_cases g : y < x
  · rw [if_pos ((pk_lLT hy hx).mpr g), Nat.max_eq_left (by omega)]
  · rw [if_neg (fun q => g ((pk_lLT hy hx).mp q)), Nat.max_eq_right (by omega)]
def PG (h : Hp) (a : Nat) (k : Nat → Int32) (b : Int32) (n f : Nat) : Prop := ∀ st r q last, st ≤ n → r ≤ 3 → q ≤ 12 → last ≤ 4 → (n - st) + (12 - q) ≤ f → Fn MX1_greatest (2 * f + 4) [.ref a, .int b, .int (nI n), .int (nI st), .int (nI r), .int (nI q), .int (nI last)] h (some (.long (lN (grt k b n f st r q last))))
theorem c1_byTrying {h : Hp} {a : Nat} {k : Nat → Int32} (hk : h a = some (thr k)) (b : Int32) {n f : Nat} (hn : n ≤ 4) (hG : PG h a k b n f) {st r q last : Nat} (hst : st < n) (hr : r < 3) (hq : q < 12) (hl : last ≤ 4) (hf : (n - st) + (12 - q) ≤ f + 1) : Fn MX1_byTrying (2 * f + 5) [.ref a, .int b, .int (nI n), .int (nI st), .int (nI r), .int (nI q), .int (nI last)] h (some (.long (lN (tryN k b n f st r q last)))) := by
  intro z
  have hp9 := pN_le k (b + nI st) (nI q)
  refine Cal_of_R (by decide +kernel) (L := [.ref a, .int b, .int (nI n), .int (nI st), .int (nI r), .int (nI q), .int (nI last), .null, .null, .null, .null, .null]) rfl (Nat.le_of_ble_eq_true rfl) ?_
  refine r_iload iX1_byTrying_0 rfl ?_
  refine r_bipush (v := 12) iX1_byTrying_2 rfl ?_
  refine r_icmp_lt iX1_byTrying_4 (fun _ => ?_) (fun g9 => absurd (nI_lt (b := 12) hq (by omega)) g9)
  refine r_aload iX1_byTrying_9 rfl ?_
  refine r_iload iX1_byTrying_10 rfl ?_
  refine r_iload iX1_byTrying_11 rfl ?_
  refine r_iadd iX1_byTrying_12 ?_
  refine r_iload iX1_byTrying_13 rfl ?_
  refine r_callV iX1_byTrying_15 (cX1_17 _ rfl) (c5_oddsAt h k hk _ _ _) (by omega) (hk) rfl rfl rfl (Nat.le_of_ble_eq_true rfl) (by first | exact Nat.le_of_ble_eq_true rfl | omega) (by first | exact Nat.le_of_ble_eq_true rfl | omega) ?_
  rintro v h' z' ⟨rfl, qh, rfl⟩
  rw [qh, pN_eq]
  have e1 : nI st + 1 = nI (st + 1) := nI_1 st
  have e2 : nI q + 1 = nI (q + 1) := nI_1 q
  have e3 : nI r + 1 = nI (r + 1) := nI_1 r
  refine r_istore_7 iX1_byTrying_18 rfl ?_
  refine r_aload iX1_byTrying_20 rfl ?_
  refine r_iload iX1_byTrying_21 rfl ?_
  refine r_iload iX1_byTrying_22 rfl ?_
  refine r_iload iX1_byTrying_23 rfl ?_
  refine r_iconst (v := 1) iX1_byTrying_24 rfl ?_
  refine r_iadd iX1_byTrying_25 ?_
  refine r_iconst (v := 0) iX1_byTrying_26 rfl ?_
  refine r_iload iX1_byTrying_27 rfl ?_
  refine r_iconst (v := 1) iX1_byTrying_29 rfl ?_
  refine r_iadd iX1_byTrying_30 ?_
  refine r_iload iX1_byTrying_31 rfl ?_
  refine r_iconst (v := 1) iX1_byTrying_32 rfl ?_
  refine r_iadd iX1_byTrying_33 ?_
  rw [e1, e2]
  refine r_callS iX1_byTrying_34 (cX1_40 _ rfl) (hG (st + 1) 0 (q + 1) (st + 1) (by omega) (by omega) (by omega) (by omega) (by omega) _) (by omega) rfl rfl (Nat.le_of_ble_eq_true rfl) (by first | exact Nat.le_of_ble_eq_true rfl | omega) (by first | exact Nat.le_of_ble_eq_true rfl | omega) ?_
  rintro v h' z' ⟨rfl, qh, rfl⟩
  rw [qh]
  refine r_lstore_8 iX1_byTrying_37 rfl ?_
  refine r_aload iX1_byTrying_39 rfl ?_
  refine r_iload iX1_byTrying_40 rfl ?_
  refine r_iload iX1_byTrying_41 rfl ?_
  refine r_iload iX1_byTrying_42 rfl ?_
  refine r_iload iX1_byTrying_43 rfl ?_
  refine r_iconst (v := 1) iX1_byTrying_45 rfl ?_
  refine r_iadd iX1_byTrying_46 ?_
  refine r_iload iX1_byTrying_47 rfl ?_
  refine r_iconst (v := 1) iX1_byTrying_49 rfl ?_
  refine r_iadd iX1_byTrying_50 ?_
  refine r_iload iX1_byTrying_51 rfl ?_
  rw [e2, e3]
  refine r_callS iX1_byTrying_53 (cX1_40 _ rfl) (hG st (r + 1) (q + 1) last (by omega) (by omega) (by omega) (by omega) (by omega) _) (by omega) rfl rfl (Nat.le_of_ble_eq_true rfl) (by first | exact Nat.le_of_ble_eq_true rfl | omega) (by first | exact Nat.le_of_ble_eq_true rfl | omega) ?_
  rintro v h' z' ⟨rfl, qh, rfl⟩
  rw [qh]
  refine r_lstore_10 iX1_byTrying_56 rfl ?_
  refine r_iload iX1_byTrying_58 rfl ?_
  refine r_i2l iX1_byTrying_60 ?_
  refine r_lload iX1_byTrying_61 rfl ?_
  refine r_lmul iX1_byTrying_63 ?_
  refine r_bipush (v := 10) iX1_byTrying_64 rfl ?_
  refine r_iload iX1_byTrying_66 rfl ?_
  refine r_isub iX1_byTrying_68 ?_
  rw [show (10 : Int32) - nI (pN k (b + nI st) (nI q)) = nI (10 - pN k (b + nI st) (nI q)) from pk_sub (a := 10) (by omega)]
  refine r_i2l iX1_byTrying_69 ?_
  refine r_lload iX1_byTrying_70 rfl ?_
  refine r_lmul iX1_byTrying_72 ?_
  refine r_ladd iX1_byTrying_73 ?_
  refine r_lret iX1_byTrying_74 rfl ?_
  refine ⟨?_, rfl, rfl⟩
  rw [nI_l (by omega), nI_l (by omega), lN_mul, lN_mul, lN_add]
  rfl
theorem c1_bySparing {h : Hp} {a : Nat} {k : Nat → Int32} (b : Int32) {n f : Nat} (hn : n ≤ 4) (hG : PG h a k b n f) {st r q last : Nat} (hst : st < n) (hr : r ≤ 3) (hq : q ≤ 12) (hl : last ≤ 4) (hf : (n - st) + (12 - q) ≤ f + 1) : Fn MX1_bySparing (2 * f + 5) [.ref a, .int b, .int (nI n), .int (nI st), .int (nI r), .int (nI q), .int (nI last)] h (some (.long (lN (grt k b n f (st + 1) r q last)))) := by
  intro z
  have e1 : nI st + 1 = nI (st + 1) := nI_1 st
  refine Cal_of_R (by decide +kernel) (L := [.ref a, .int b, .int (nI n), .int (nI st), .int (nI r), .int (nI q), .int (nI last)]) rfl (Nat.le_of_ble_eq_true rfl) ?_
  refine r_iload iX1_bySparing_0 rfl ?_
  refine r_iload iX1_bySparing_1 rfl ?_
  refine r_icmp_lt iX1_bySparing_2 (fun _ => ?_) (fun g9 => absurd (nI_lt hst (by omega)) g9)
  refine r_aload iX1_bySparing_7 rfl ?_
  refine r_iload iX1_bySparing_8 rfl ?_
  refine r_iload iX1_bySparing_9 rfl ?_
  refine r_iload iX1_bySparing_10 rfl ?_
  refine r_iconst (v := 1) iX1_bySparing_11 rfl ?_
  refine r_iadd iX1_bySparing_12 ?_
  rw [e1]
  refine r_iload iX1_bySparing_13 rfl ?_
  refine r_iload iX1_bySparing_15 rfl ?_
  refine r_iload iX1_bySparing_17 rfl ?_
  refine r_callS iX1_bySparing_19 (cX1_40 _ rfl) (hG (st + 1) r q last (by omega) (by omega) (by omega) (by omega) (by omega) _) (by omega) rfl rfl (Nat.le_of_ble_eq_true rfl) (by first | exact Nat.le_of_ble_eq_true rfl | omega) (by first | exact Nat.le_of_ble_eq_true rfl | omega) ?_
  rintro v h' z' ⟨rfl, qh, rfl⟩
  rw [qh]
  refine r_lret iX1_bySparing_22 rfl ?_
  exact ⟨rfl, rfl, rfl⟩
theorem c1_greatest {h : Hp} (hT : tenAt h) {a : Nat} {k : Nat → Int32} (hk : h a = some (thr k)) (b : Int32) {n : Nat} (hn : n ≤ 4) : ∀ f, PG h a k b n f := by
  have base : ∀ (f st r q last d : Nat) (w1 : Value), 1 ≤ d → q ≤ 12 → last ≤ 4 → ∀ z, R MX1_greatest d 0 0 (fun v h' z' => v = some (.long (lN (last * 10 ^ (12 - q)))) ∧ h' = h ∧ z' = z) 18 [.ref a, .int b, .int (nI n), .int (nI st), .int (nI r), .int (nI q), .int (nI last), .null, .null] [] h z 0 0 := by
    intro f st r q last d w1 hd hq hl z
    refine r_iload iX1_greatest_18 rfl ?_
    refine r_i2l iX1_greatest_20 ?_
    refine r_iload iX1_greatest_21 rfl ?_
    refine r_callS iX1_greatest_23 (cX1_21 _ rfl) (c1_unitsLeft hT hq _) (by omega) rfl rfl (Nat.le_of_ble_eq_true rfl) (by first | exact Nat.le_of_ble_eq_true rfl | omega) (by first | exact Nat.le_of_ble_eq_true rfl | omega) ?_
    rintro v h' z' ⟨rfl, qh, rfl⟩
    rw [qh]
    refine r_lmul iX1_greatest_26 ?_
    refine r_lret iX1_greatest_27 rfl ?_
    refine ⟨?_, rfl, rfl⟩
    rw [nI_l (by omega), lN_mul]
  intro f
  induction f with
  | zero =>
    intro st r q last hst hr hq hl hf z
    refine Cal_of_R (by decide +kernel) (L := [.ref a, .int b, .int (nI n), .int (nI st), .int (nI r), .int (nI q), .int (nI last), .null, .null]) rfl (Nat.le_of_ble_eq_true rfl) ?_
    refine r_iload iX1_greatest_0 rfl ?_
    refine r_iload iX1_greatest_1 rfl ?_
    refine r_icmp_ge iX1_greatest_2 (fun _ => ?_) (fun g9 => absurd (nI_le (by omega) (by omega)) g9)
    exact base 0 st r q last _ .null (by omega) hq hl z
  | succ f ih =>
    intro st r q last hst hr hq hl hf z
    rw [grt]
    by_cases g1 : n ≤ st
    · rw [if_pos (Or.inl g1)]
      refine Cal_of_R (by decide +kernel) (L := [.ref a, .int b, .int (nI n), .int (nI st), .int (nI r), .int (nI q), .int (nI last), .null, .null]) rfl (Nat.le_of_ble_eq_true rfl) ?_
      refine r_iload iX1_greatest_0 rfl ?_
      refine r_iload iX1_greatest_1 rfl ?_
      refine r_icmp_ge iX1_greatest_2 (fun _ => ?_) (fun g9 => absurd (nI_le g1 (by omega)) g9)
      exact base 0 st r q last _ .null (by omega) hq hl z
    · by_cases g2 : 3 ≤ r
      · rw [if_pos (Or.inr (Or.inl g2))]
        refine Cal_of_R (by decide +kernel) (L := [.ref a, .int b, .int (nI n), .int (nI st), .int (nI r), .int (nI q), .int (nI last), .null, .null]) rfl (Nat.le_of_ble_eq_true rfl) ?_
        refine r_iload iX1_greatest_0 rfl ?_
        refine r_iload iX1_greatest_1 rfl ?_
        refine r_icmp_ge iX1_greatest_2 (fun g9 => absurd g9 (nI_ge (by omega) (by omega))) (fun _ => ?_)
        refine r_iload iX1_greatest_5 rfl ?_
        refine r_iconst (v := 3) iX1_greatest_7 rfl ?_
        refine r_icmp_ge iX1_greatest_8 (fun _ => ?_) (fun g9 => absurd (nI_le (a := 3) g2 (by omega)) g9)
        exact base 0 st r q last _ .null (by omega) hq hl z
      · by_cases g3 : 12 ≤ q
        · rw [if_pos (Or.inr (Or.inr g3))]
          refine Cal_of_R (by decide +kernel) (L := [.ref a, .int b, .int (nI n), .int (nI st), .int (nI r), .int (nI q), .int (nI last), .null, .null]) rfl (Nat.le_of_ble_eq_true rfl) ?_
          refine r_iload iX1_greatest_0 rfl ?_
          refine r_iload iX1_greatest_1 rfl ?_
          refine r_icmp_ge iX1_greatest_2 (fun g9 => absurd g9 (nI_ge (by omega) (by omega))) (fun _ => ?_)
          refine r_iload iX1_greatest_5 rfl ?_
          refine r_iconst (v := 3) iX1_greatest_7 rfl ?_
          refine r_icmp_ge iX1_greatest_8 (fun g9 => absurd g9 (nI_ge (b := 3) (by omega) (by omega))) (fun _ => ?_)
          refine r_iload iX1_greatest_11 rfl ?_
          refine r_bipush (v := 12) iX1_greatest_13 rfl ?_
          refine r_icmp_lt iX1_greatest_15 (fun g9 => absurd g9 (nI_nlt (b := 12) g3 (by omega))) (fun _ => ?_)
          exact base 0 st r q last _ .null (by omega) hq hl z
        · rw [if_neg (by omega)]
          have P1 := c1_byTrying hk b hn ih (st := st) (r := r) (q := q) (last := last) (by omega) (by omega) (by omega) hl hf
          have P2 := c1_bySparing (a := a) b hn ih (st := st) (r := r) (q := q) (last := last) (by omega) hr hq hl (by omega)
          have b1 : tryN k b n f st r q last < 2 ^ 63 := by
            refine small12 (q := q) ?_
            have e : 4 * 10 ^ (12 - q) = 10 * (4 * 10 ^ (12 - (q + 1))) := by
              rw [show 12 - q = 12 - (q + 1) + 1 by omega, Nat.pow_succ]; omega
            rw [e]
            exact mix_le (pN_le _ _ _) (grt_le k b hn f _ _ _ _ (by omega)) (grt_le k b hn f _ _ _ _ hl)
          have b2 : grt k b n f (st + 1) r q last < 2 ^ 63 := small12 (grt_le k b hn f _ _ _ _ hl)
          refine Cal_of_R (by decide +kernel) (L := [.ref a, .int b, .int (nI n), .int (nI st), .int (nI r), .int (nI q), .int (nI last), .null, .null]) rfl (Nat.le_of_ble_eq_true rfl) ?_
          refine r_iload iX1_greatest_0 rfl ?_
          refine r_iload iX1_greatest_1 rfl ?_
          refine r_icmp_ge iX1_greatest_2 (fun g9 => absurd g9 (nI_ge (by omega) (by omega))) (fun _ => ?_)
          refine r_iload iX1_greatest_5 rfl ?_
          refine r_iconst (v := 3) iX1_greatest_7 rfl ?_
          refine r_icmp_ge iX1_greatest_8 (fun g9 => absurd g9 (nI_ge (b := 3) (by omega) (by omega))) (fun _ => ?_)
          refine r_iload iX1_greatest_11 rfl ?_
          refine r_bipush (v := 12) iX1_greatest_13 rfl ?_
          refine r_icmp_lt iX1_greatest_15 (fun _ => ?_) (fun g9 => absurd (nI_lt (b := 12) (by omega) (by omega)) g9)
          refine r_aload iX1_greatest_28 rfl ?_
          refine r_iload iX1_greatest_29 rfl ?_
          refine r_iload iX1_greatest_30 rfl ?_
          refine r_iload iX1_greatest_31 rfl ?_
          refine r_iload iX1_greatest_32 rfl ?_
          refine r_iload iX1_greatest_34 rfl ?_
          refine r_iload iX1_greatest_36 rfl ?_
          refine r_callS iX1_greatest_38 (cX1_27 _ rfl) (P1 _) (by omega) rfl rfl (Nat.le_of_ble_eq_true rfl) (by first | exact Nat.le_of_ble_eq_true rfl | omega) (by first | exact Nat.le_of_ble_eq_true rfl | omega) ?_
          rintro v h' z' ⟨rfl, qh, rfl⟩
          rw [qh]
          refine r_lstore_7 iX1_greatest_41 rfl ?_
          refine r_lload iX1_greatest_43 rfl ?_
          refine r_aload iX1_greatest_45 rfl ?_
          refine r_iload iX1_greatest_46 rfl ?_
          refine r_iload iX1_greatest_47 rfl ?_
          refine r_iload iX1_greatest_48 rfl ?_
          refine r_iload iX1_greatest_49 rfl ?_
          refine r_iload iX1_greatest_51 rfl ?_
          refine r_iload iX1_greatest_53 rfl ?_
          refine r_callS iX1_greatest_55 (cX1_31 _ rfl) (P2 _) (by omega) rfl rfl (Nat.le_of_ble_eq_true rfl) (by first | exact Nat.le_of_ble_eq_true rfl | omega) (by first | exact Nat.le_of_ble_eq_true rfl | omega) ?_
          rintro v h' z' ⟨rfl, qh, rfl⟩
          rw [qh]
          refine r_mmaxL iX1_greatest_58 (cX1_34 _ rfl) (by omega) (Nat.le_of_ble_eq_true rfl) ?_
          refine r_lret iX1_greatest_61 rfl ?_
          exact ⟨by rw [lmax_lN b1 b2]; rfl, rfl, rfl⟩
