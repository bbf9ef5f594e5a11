/-! first: nobody better, behind trying on and on -/
def allT (p : Nat → Bool) : Nat → Bool
  | 0 => true
  | i + 1 => allT p i && p i
theorem allT_of {p : Nat → Bool} : ∀ {n : Nat}, allT p n = true → ∀ i, i < n → p i = true
  | 0, _, i, hi => absurd hi (Nat.not_lt_zero i)
  | n + 1, h, i, hi => by
    rw [allT, Bool.and_eq_true] at h
    by_cases g : i = n
    · rw [g]; exact h.2
    · exact allT_of h.1 i (by omega)
theorem allT_in {p : Nat → Bool} : ∀ {n : Nat}, (∀ i, i < n → p i = true) → allT p n = true
  | 0, _ => rfl
  | n + 1, h => by rw [allT, Bool.and_eq_true]; exact ⟨allT_in fun i hi => h i (by omega), h n (by omega)⟩
def nobP (t : Nat → Nat → Int32) (num : Nat) (k : Nat → Int32) (i : Nat) : Bool := decide (i = num) || !kBetter (t i) k
theorem c1_noOtherBeats {h : Hp} {c n : Nat} (hn : n ≤ 4) {b u : Int32} {t : Nat → Nat → Int32} (hC : conAt h c (n, b, u, t)) {num : Nat} (hnum : num < 4) {a : Nat} {k : Nat → Int32} (hk : h a = some (thr k)) : Fn MX1_noOtherBeats 1 [.ref c, .int (nI num), .ref a] h (some (.int (b2i (allT (nobP t num k) n)))) := by
  intro z
  refine Cal_of_R (by decide +kernel) (L := [.ref c, .int (nI num), .ref a, .null]) rfl (Nat.le_of_ble_eq_true rfl) ?_
  have loop : ∀ (j p : Nat), p + j = n → allT (nobP t num k) p = true → ∀ z, R MX1_noOtherBeats 1 0 0 (fun v h' z' => v = some (.int (b2i (allT (nobP t num k) n))) ∧ h' = h ∧ z' = z) 2 [.ref c, .int (nI num), .ref a, .int (nI p)] [] h z 0 0 := by
    intro j
    induction j with
    | zero =>
      intro p hp ha z
      obtain rfl : p = n := by omega
      refine r_iload iX1_noOtherBeats_2 rfl ?_
      refine r_aload iX1_noOtherBeats_3 rfl ?_
      refine r_getfield iX1_noOtherBeats_4 (flX1_71 _ rfl) (hC.1) rfl ?_
      refine r_icmp_ge iX1_noOtherBeats_7 (fun _ => ?_) (fun g9 => absurd (nI_le (by omega) (by omega)) g9)
      refine r_iconst (v := 1) iX1_noOtherBeats_36 rfl ?_
      refine r_zret iX1_noOtherBeats_37 rfl (Or.inr rfl) ?_
      exact ⟨by rw [ha]; rfl, rfl, rfl⟩
    | succ j ih =>
      intro p hp ha z
      have hp4 : p < 4 := by omega
      by_cases g : p = num
      · subst g
        refine r_iload iX1_noOtherBeats_2 rfl ?_
        refine r_aload iX1_noOtherBeats_3 rfl ?_
        refine r_getfield iX1_noOtherBeats_4 (flX1_71 _ rfl) (hC.1) rfl ?_
        refine r_icmp_ge iX1_noOtherBeats_7 (fun g9 => absurd g9 (nI_ge (by omega) (by omega))) (fun _ => ?_)
        refine r_iload iX1_noOtherBeats_10 rfl ?_
        refine r_iload iX1_noOtherBeats_11 rfl ?_
        refine r_icmp_eq iX1_noOtherBeats_12 (fun _ => ?_) (fun g9 => absurd (rfl) g9)
        refine r_iinc_3 iX1_noOtherBeats_30 (by first | exact nI_inc _ | rfl) rfl ?_
        refine r_goto iX1_noOtherBeats_33 ?_
        exact ih (p + 1) (by omega) (by rw [allT, ha]; simp [nobP]) z
      · have hb := c5_isBetterThan h (t p) k (hC.2.2 p hp4) hk
        refine r_iload iX1_noOtherBeats_2 rfl ?_
        refine r_aload iX1_noOtherBeats_3 rfl ?_
        refine r_getfield iX1_noOtherBeats_4 (flX1_71 _ rfl) (hC.1) rfl ?_
        refine r_icmp_ge iX1_noOtherBeats_7 (fun g9 => absurd g9 (nI_ge (by omega) (by omega))) (fun _ => ?_)
        refine r_iload iX1_noOtherBeats_10 rfl ?_
        refine r_iload iX1_noOtherBeats_11 rfl ?_
        refine r_icmp_eq iX1_noOtherBeats_12 (fun g9 => absurd g9 ((fun q => g ((nI_eq (by omega) (by omega)).mp q)))) (fun _ => ?_)
        refine r_aload iX1_noOtherBeats_15 rfl ?_
        refine r_getfield iX1_noOtherBeats_16 (flX1_74 _ rfl) (hC.1) rfl ?_
        refine r_iload iX1_noOtherBeats_19 rfl ?_
        refine r_aaload iX1_noOtherBeats_20 rfl (hC.2.1) (in4 hp4) (thr_ix c hp4) ?_
        refine r_aload iX1_noOtherBeats_21 rfl ?_
        refine r_callV iX1_noOtherBeats_22 (cX1_78 _ rfl) (hb _) (by omega) (hC.2.2 p hp4) rfl rfl rfl (Nat.le_of_ble_eq_true rfl) (by first | exact Nat.le_of_ble_eq_true rfl | omega) (by first | exact Nat.le_of_ble_eq_true rfl | omega) ?_
        rintro v h' z' ⟨rfl, qh, rfl⟩
        rw [qh]
        cases g2 : kBetter (t p) k with
        | false =>
          refine r_if_eq iX1_noOtherBeats_25 (fun _ => ?_) (fun g9 => absurd (rfl) g9)
          refine r_iinc_3 iX1_noOtherBeats_30 (by first | exact nI_inc _ | rfl) rfl ?_
          refine r_goto iX1_noOtherBeats_33 ?_
          exact ih (p + 1) (by omega) (by rw [allT, ha]; simp [nobP, g2]) _
        | true =>
          refine r_if_eq iX1_noOtherBeats_25 (fun g9 => absurd g9 (by decide)) (fun _ => ?_)
          refine r_iconst (v := 0) iX1_noOtherBeats_28 rfl ?_
          refine r_zret iX1_noOtherBeats_29 rfl (Or.inl rfl) ?_
          refine ⟨?_, rfl, rfl⟩
          cases g3 : allT (nobP t num k) n with
          | false => rfl
          | true => exact absurd (allT_of g3 p (by omega)) (by simp [nobP, g, g2])
  refine r_iconst (v := 0) iX1_noOtherBeats_0 rfl ?_
  refine r_istore_3 iX1_noOtherBeats_1 rfl ?_
  exact loop n 0 (by omega) rfl z
def unb (n : Nat) (t : Nat → Nat → Int32) (num m : Nat) (b : Int32) : Nat → Nat → Nat → (Nat → Int32) → Nat
  | 0, _, q, k => if allT (nobP t num k) n = true then 10 ^ (12 - q) else 0
  | f + 1, st, q, k => if m ≤ st ∨ k 7 = 3 ∨ 12 ≤ q then (if allT (nobP t num k) n = true then 10 ^ (12 - q) else 0) else pN k (b + nI st) 0 * unb n t num m b f (st + 1) (q + 1) (kUp (kOver k (b + nI st))) + (10 - pN k (b + nI st) 0) * unb n t num m b f st (q + 1) (kMiss k)
theorem pt_ix {i : Nat} (hi : i < 13) : (fun j : Nat => Value.ref (130 + j)) (nI i).toNatClampNeg = .ref (130 + i) := by
  show Value.ref (130 + (nI i).toNatClampNeg) = _
  rw [nI_clamp (by omega)]
theorem ptAt.set {h : Hp} {pt : Nat → Nat → Int32} (H : ptAt h pt) {i : Nat} (hi : i < 13) (k : Nat → Int32) : ptAt (hset h (130 + i) (thr k)) (upT pt i k) := ⟨by rw [hset_ne _ _ (by omega)]; exact H.1, fun j hj => by
  by_cases g : j = i
  · subst g; rw [hset_eq, upT, if_pos rfl]
  · rw [hset_ne _ _ (by omega), upT, if_neg g]; exact H.2 j hj⟩
theorem c1_unbeaten {c n : Nat} (hn : n ≤ 4) {b u : Int32} {t : Nat → Nat → Int32} {num m : Nat} (hnum : num < 4) (hm : m ≤ 4) (hc : c + 6 ≤ 129 ∨ 143 ≤ c) : ∀ (f : Nat) (h : Hp) (pt : Nat → Nat → Int32) (st q z : Nat), tenAt h → conAt h c (n, b, u, t) → ptAt h pt → st ≤ m → q ≤ 12 → 12 - q ≤ f → Cal MX1_unbeaten (f + 2) 0 0 [.ref c, .int (nI num), .ref 129, .int (nI m), .int (nI st), .int (nI q)] h z (fun v h' z' => v = some (.long (lN (unb n t num m b f st q (pt q)))) ∧ z' = z ∧ (∃ pt' : Nat → Nat → Int32, ptAt h' pt' ∧ ∀ j, j ≤ q → pt' j = pt j) ∧ ∀ a, (a < 129 ∨ 143 ≤ a) → h' a = h a) := by
  have base : ∀ (d : Nat) (h : Hp) (pt : Nat → Nat → Int32) (st q z : Nat), 2 ≤ d → tenAt h → conAt h c (n, b, u, t) → ptAt h pt → q ≤ 12 → R MX1_unbeaten d 0 0 (fun v h' z' => v = some (.long (lN (if allT (nobP t num (pt q)) n = true then 10 ^ (12 - q) else 0))) ∧ z' = z ∧ (∃ pt' : Nat → Nat → Int32, ptAt h' pt' ∧ ∀ j, j ≤ q → pt' j = pt j) ∧ ∀ a, (a < 129 ∨ 143 ≤ a) → h' a = h a) 43 [.ref c, .int (nI num), .ref 129, .int (nI m), .int (nI st), .int (nI q), .ref (130 + q), .null, .null, .null, .null, .null, .null, .null] [] h z 0 0 := by
    intro d h pt st q z hd hT hC hP hq
    refine r_aload iX1_unbeaten_43 rfl ?_
    refine r_iload iX1_unbeaten_44 rfl ?_
    refine r_aload iX1_unbeaten_45 rfl ?_
    refine r_callS iX1_unbeaten_47 (cX1_47 _ rfl) (c1_noOtherBeats hn hC hnum (hP.2 q (by omega)) _) (by omega) rfl rfl (Nat.le_of_ble_eq_true rfl) (by first | exact Nat.le_of_ble_eq_true rfl | omega) (by first | exact Nat.le_of_ble_eq_true rfl | omega) ?_
    rintro v h' z' ⟨rfl, qh, rfl⟩
    rw [qh]
    cases g : allT (nobP t num (pt q)) n with
    | false =>
      refine r_if_eq iX1_unbeaten_50 (fun _ => ?_) (fun g9 => absurd (rfl) g9)
      refine r_lconst (v := 0) iX1_unbeaten_61 rfl ?_
      refine r_lret iX1_unbeaten_62 rfl ?_
      exact ⟨rfl, rfl, ⟨pt, hP, fun _ _ => rfl⟩, fun _ _ => rfl⟩
    | true =>
      refine r_if_eq iX1_unbeaten_50 (fun g9 => absurd g9 (by decide)) (fun _ => ?_)
      refine r_iload iX1_unbeaten_53 rfl ?_
      refine r_callS iX1_unbeaten_55 (cX1_21 _ rfl) (c1_unitsLeft hT hq _) (by omega) rfl rfl (Nat.le_of_ble_eq_true rfl) (by first | exact Nat.le_of_ble_eq_true rfl | omega) (by first | exact Nat.le_of_ble_eq_true rfl | omega) ?_
      rintro v h' z' ⟨rfl, qh, rfl⟩
      rw [qh]
      refine r_goto iX1_unbeaten_58 ?_
      refine r_lret iX1_unbeaten_62 rfl ?_
      exact ⟨rfl, rfl, ⟨pt, hP, fun _ _ => rfl⟩, fun _ _ => rfl⟩
  have out : ∀ k : Nat → Int32, (if k 7 = 3 then (1 : Int32) else 0) = b2i (decide (k 7 = 3)) := fun k => by
    by_cases g : k 7 = 3 <;> simp [g, b2i]
  intro f
  induction f with
  | zero =>
    intro h pt st q z hT hC hP hst hq hf
    obtain rfl : q = 12 := by omega
    rw [unb]
    refine Cal_of_R (by decide +kernel) (L := [.ref c, .int (nI num), .ref 129, .int (nI m), .int (nI st), .int (nI 12), .null, .null, .null, .null, .null, .null, .null, .null]) rfl (Nat.le_of_ble_eq_true rfl) ?_
    refine r_iload iX1_unbeaten_0 rfl ?_
    refine r_if_lt iX1_unbeaten_2 (fun g9 => absurd g9 (nI_pos (by omega))) (fun _ => ?_)
    refine r_iload iX1_unbeaten_5 rfl ?_
    refine r_aload iX1_unbeaten_7 rfl ?_
    refine r_arraylength iX1_unbeaten_8 (hP.1) rfl ?_
    refine r_icmp_lt iX1_unbeaten_9 (fun _ => ?_) (fun g9 => absurd (nI_lt (b := 13) (by omega) (by omega)) g9)
    refine r_aload iX1_unbeaten_14 rfl ?_
    refine r_iload iX1_unbeaten_15 rfl ?_
    refine r_aaload iX1_unbeaten_17 rfl (hP.1) (vp_in_nI (by omega) (by decide)) (pt_ix (by omega)) ?_
    refine r_astore_6 iX1_unbeaten_18 rfl ?_
    by_cases g1 : m ≤ st
    · refine r_iload iX1_unbeaten_20 rfl ?_
      refine r_iload iX1_unbeaten_22 rfl ?_
      refine r_icmp_ge iX1_unbeaten_23 (fun _ => ?_) (fun g9 => absurd (nI_le g1 (by omega)) g9)
      exact base _ h pt st 12 z (by omega) hT hC hP (by omega)
    · refine r_iload iX1_unbeaten_20 rfl ?_
      refine r_iload iX1_unbeaten_22 rfl ?_
      refine r_icmp_ge iX1_unbeaten_23 (fun g9 => absurd g9 (nI_ge (by omega) (by omega))) (fun _ => ?_)
      refine r_aload iX1_unbeaten_26 rfl ?_
      refine r_callV iX1_unbeaten_28 (cX1_43 _ rfl) (c5_isOut h (pt 12) (hP.2 12 (by omega)) _) (by omega) (hP.2 12 (by omega)) rfl rfl rfl (Nat.le_of_ble_eq_true rfl) (by first | exact Nat.le_of_ble_eq_true rfl | omega) (by first | exact Nat.le_of_ble_eq_true rfl | omega) ?_
      rintro v h' z' ⟨rfl, qh, rfl⟩
      rw [qh]
      by_cases g2 : pt 12 7 = 3
      · rw [if_pos g2]
        refine r_if_ne iX1_unbeaten_31 (fun _ => ?_) (fun g9 => absurd g9 (by decide))
        exact base _ h pt st 12 _ (by omega) hT hC hP (by omega)
      · rw [if_neg g2]
        refine r_if_ne iX1_unbeaten_31 (fun g9 => absurd (rfl) g9) (fun _ => ?_)
        refine r_iload iX1_unbeaten_34 rfl ?_
        refine r_iconst (v := 1) iX1_unbeaten_36 rfl ?_
        refine r_iadd iX1_unbeaten_37 ?_
        refine r_aload iX1_unbeaten_38 rfl ?_
        refine r_arraylength iX1_unbeaten_39 (hP.1) rfl ?_
        refine r_icmp_lt iX1_unbeaten_40 (fun g9 => absurd g9 (by decide)) (fun _ => ?_)
        exact base _ h pt st 12 _ (by omega) hT hC hP (by omega)
  | succ f ih =>
    intro h pt st q z hT hC hP hst hq hf
    rw [unb]
    refine Cal_of_R (by decide +kernel) (L := [.ref c, .int (nI num), .ref 129, .int (nI m), .int (nI st), .int (nI q), .null, .null, .null, .null, .null, .null, .null, .null]) rfl (Nat.le_of_ble_eq_true rfl) ?_
    refine r_iload iX1_unbeaten_0 rfl ?_
    refine r_if_lt iX1_unbeaten_2 (fun g9 => absurd g9 (nI_pos (by omega))) (fun _ => ?_)
    refine r_iload iX1_unbeaten_5 rfl ?_
    refine r_aload iX1_unbeaten_7 rfl ?_
    refine r_arraylength iX1_unbeaten_8 (hP.1) rfl ?_
    refine r_icmp_lt iX1_unbeaten_9 (fun _ => ?_) (fun g9 => absurd (nI_lt (b := 13) (by omega) (by omega)) g9)
    refine r_aload iX1_unbeaten_14 rfl ?_
    refine r_iload iX1_unbeaten_15 rfl ?_
    refine r_aaload iX1_unbeaten_17 rfl (hP.1) (vp_in_nI (by omega) (by decide)) (pt_ix (by omega)) ?_
    refine r_astore_6 iX1_unbeaten_18 rfl ?_
    by_cases g1 : m ≤ st
    · rw [if_pos (Or.inl g1)]
      refine r_iload iX1_unbeaten_20 rfl ?_
      refine r_iload iX1_unbeaten_22 rfl ?_
      refine r_icmp_ge iX1_unbeaten_23 (fun _ => ?_) (fun g9 => absurd (nI_le g1 (by omega)) g9)
      exact base _ h pt st q z (by omega) hT hC hP (by omega)
    · refine r_iload iX1_unbeaten_20 rfl ?_
      refine r_iload iX1_unbeaten_22 rfl ?_
      refine r_icmp_ge iX1_unbeaten_23 (fun g9 => absurd g9 (nI_ge (by omega) (by omega))) (fun _ => ?_)
      refine r_aload iX1_unbeaten_26 rfl ?_
      refine r_callV iX1_unbeaten_28 (cX1_43 _ rfl) (c5_isOut h (pt q) (hP.2 q (by omega)) _) (by omega) (hP.2 q (by omega)) rfl rfl rfl (Nat.le_of_ble_eq_true rfl) (by first | exact Nat.le_of_ble_eq_true rfl | omega) (by first | exact Nat.le_of_ble_eq_true rfl | omega) ?_
      rintro v h' z' ⟨rfl, qh, rfl⟩
      rw [qh]
      by_cases g2 : pt q 7 = 3
      · rw [if_pos g2, if_pos (Or.inr (Or.inl g2))]
        refine r_if_ne iX1_unbeaten_31 (fun _ => ?_) (fun g9 => absurd g9 (by decide))
        exact base _ h pt st q _ (by omega) hT hC hP (by omega)
      · rw [if_neg g2]
        have e1 : nI q + 1 = nI (q + 1) := nI_1 q
        have e2 : nI st + 1 = nI (st + 1) := nI_1 st
        refine r_if_ne iX1_unbeaten_31 (fun g9 => absurd (rfl) g9) (fun _ => ?_)
        refine r_iload iX1_unbeaten_34 rfl ?_
        refine r_iconst (v := 1) iX1_unbeaten_36 rfl ?_
        refine r_iadd iX1_unbeaten_37 ?_
        rw [e1]
        by_cases g3 : 12 ≤ q
        · rw [if_pos (Or.inr (Or.inr g3))]
          refine r_aload iX1_unbeaten_38 rfl ?_
          refine r_arraylength iX1_unbeaten_39 (hP.1) rfl ?_
          refine r_icmp_lt iX1_unbeaten_40 (fun g9 => absurd g9 (nI_nlt (b := 13) (by omega) (by omega))) (fun _ => ?_)
          exact base _ h pt st q _ (by omega) hT hC hP (by omega)
        · rw [if_neg (fun g => g.elim g1 fun g => g.elim g2 g3)]
          have hq1 : q + 1 < 13 := by omega
          have hp9 := pN_le (pt q) (b + nI st) 0
          refine r_aload iX1_unbeaten_38 rfl ?_
          refine r_arraylength iX1_unbeaten_39 (hP.1) rfl ?_
          refine r_icmp_lt iX1_unbeaten_40 (fun _ => ?_) (fun g9 => absurd (nI_lt (b := 13) (by omega) (by omega)) g9)
          refine r_aload iX1_unbeaten_63 rfl ?_
          refine r_getfield iX1_unbeaten_64 (flX1_51 _ rfl) (hC.1) rfl ?_
          refine r_iload iX1_unbeaten_67 rfl ?_
          refine r_iadd iX1_unbeaten_69 ?_
          refine r_istore_7 iX1_unbeaten_70 rfl ?_
          refine r_aload iX1_unbeaten_72 rfl ?_
          refine r_iload iX1_unbeaten_74 rfl ?_
          refine r_iconst (v := 0) iX1_unbeaten_76 rfl ?_
          refine r_callV iX1_unbeaten_77 (cX1_17 _ rfl) (c5_oddsAt h (pt q) (hP.2 q (by omega)) _ _ _) (by omega) (hP.2 q (by omega)) rfl rfl rfl (Nat.le_of_ble_eq_true rfl) (by first | exact Nat.le_of_ble_eq_true rfl | omega) (by first | exact Nat.le_of_ble_eq_true rfl | omega) ?_
          rintro v h' z' ⟨rfl, qh, rfl⟩
          rw [qh, pN_eq]
          refine r_istore_8 iX1_unbeaten_80 rfl ?_
          refine r_aload iX1_unbeaten_82 rfl ?_
          refine r_iload iX1_unbeaten_83 rfl ?_
          refine r_iconst (v := 1) iX1_unbeaten_85 rfl ?_
          refine r_iadd iX1_unbeaten_86 ?_
          rw [e1]
          refine r_aaload iX1_unbeaten_87 rfl (hP.1) (vp_in_nI hq1 (by decide)) (pt_ix hq1) ?_
          refine r_astore_9 iX1_unbeaten_88 rfl ?_
          have key : ∀ (k9 : Nat → Int32) (a : Nat), (a < 129 ∨ 143 ≤ a) → hset h (130 + (q + 1)) (thr k9) a = h a := fun k9 a ha => hset_ne _ _ (by omega)
          have hqb : h (130 + q) = some (thr (pt q)) := hP.2 q (by omega)
          refine R_heap (hset_self (hP.2 (q + 1) hq1)).symm ?_
          refine r_aload iX1_unbeaten_90 rfl ?_
          refine r_aload iX1_unbeaten_92 rfl ?_
          refine r_callV iX1_unbeaten_94 (cX1_56 _ rfl) (c5_copyFrom h (pt (q + 1)) (pt q) (by omega) hqb (by omega) _) (by omega) (hset_eq _ _ _) rfl rfl rfl (Nat.le_of_ble_eq_true rfl) (by first | exact Nat.le_of_ble_eq_true rfl | omega) (by first | exact Nat.le_of_ble_eq_true rfl | omega) ?_
          rintro v h' z' ⟨rfl, rfl, rfl⟩
          refine r_aload iX1_unbeaten_97 rfl ?_
          refine r_iconst (v := 1) iX1_unbeaten_99 rfl ?_
          refine r_iload iX1_unbeaten_100 rfl ?_
          refine r_callV iX1_unbeaten_102 (cX1_60 _ rfl) (c5_over h (pt q) (by omega) 1 _ (by decide) _) (by omega) (hset_eq _ _ _) rfl rfl rfl (Nat.le_of_ble_eq_true rfl) (by first | exact Nat.le_of_ble_eq_true rfl | omega) (by first | exact Nat.le_of_ble_eq_true rfl | omega) ?_
          rintro v h' z' ⟨rfl, rfl, rfl⟩
          refine r_aload iX1_unbeaten_105 rfl ?_
          refine r_callV iX1_unbeaten_107 (cX1_64 _ rfl) (c5_up h (kOver (pt q) (b + nI st)) (by omega) _) (by omega) (hset_eq _ _ _) rfl rfl rfl (Nat.le_of_ble_eq_true rfl) (by first | exact Nat.le_of_ble_eq_true rfl | omega) (by first | exact Nat.le_of_ble_eq_true rfl | omega) ?_
          rintro v h' z' ⟨rfl, rfl, rfl⟩
          refine r_aload iX1_unbeaten_110 rfl ?_
          refine r_iload iX1_unbeaten_111 rfl ?_
          refine r_aload iX1_unbeaten_112 rfl ?_
          refine r_iload iX1_unbeaten_113 rfl ?_
          refine r_iload iX1_unbeaten_114 rfl ?_
          refine r_iconst (v := 1) iX1_unbeaten_116 rfl ?_
          refine r_iadd iX1_unbeaten_117 ?_
          refine r_iload iX1_unbeaten_118 rfl ?_
          refine r_iconst (v := 1) iX1_unbeaten_120 rfl ?_
          refine r_iadd iX1_unbeaten_121 ?_
          rw [e1, e2]
          have hP2 := hP.set hq1 (kUp (kOver (pt q) (b + nI st)))
          have hT2 : ∀ k9, tenAt (hset h (130 + (q + 1)) (thr k9)) := fun k9 => (key k9 1 (by omega)).trans hT
          have hC2 : ∀ k9, conAt (hset h (130 + (q + 1)) (thr k9)) c (n, b, u, t) := fun k9 => hC.kept fun x q1 q2 => key k9 x (by omega)
          have I1 := ih _ _ (st + 1) (q + 1) z' (hT2 _) (hC2 _) hP2 (by omega) (by omega) (by omega)
          rw [show upT pt (q + 1) (kUp (kOver (pt q) (b + nI st))) (q + 1) = kUp (kOver (pt q) (b + nI st)) by simp [upT]] at I1
          refine r_callS iX1_unbeaten_122 (cX1_67 _ rfl) (I1) (by omega) rfl rfl (Nat.le_of_ble_eq_true rfl) (by first | exact Nat.le_of_ble_eq_true rfl | omega) (by first | exact Nat.le_of_ble_eq_true rfl | omega) ?_
          rintro v h3 z3 ⟨rfl, rfl, ⟨pt3, hP3, hj3⟩, ho3⟩
          have hq3 : h3 (130 + q) = some (thr (pt q)) := by rw [hP3.2 q (by omega), hj3 q (by omega), upT, if_neg (by omega)]
          have ho4 : ∀ a, (a < 129 ∨ 143 ≤ a) → h3 a = h a := fun a ha => (ho3 a ha).trans (key _ a ha)
          have hT3 : tenAt h3 := (ho4 1 (by omega)).trans hT
          have hC3 : conAt h3 c (n, b, u, t) := hC.kept fun x q1 q2 => ho4 x (by omega)
          refine r_lstore_10 iX1_unbeaten_125 rfl ?_
          refine R_heap (hset_self (hP3.2 (q + 1) hq1)).symm ?_
          refine r_aload iX1_unbeaten_127 rfl ?_
          refine r_aload iX1_unbeaten_129 rfl ?_
          refine r_callV iX1_unbeaten_131 (cX1_56 _ rfl) (c5_copyFrom h3 (pt3 (q + 1)) (pt q) (by omega) hq3 (by omega) _) (by omega) (hset_eq _ _ _) rfl rfl rfl (Nat.le_of_ble_eq_true rfl) (by first | exact Nat.le_of_ble_eq_true rfl | omega) (by first | exact Nat.le_of_ble_eq_true rfl | omega) ?_
          rintro v h' z' ⟨rfl, rfl, rfl⟩
          refine r_aload iX1_unbeaten_134 rfl ?_
          refine r_iconst (v := 0) iX1_unbeaten_136 rfl ?_
          refine r_iload iX1_unbeaten_137 rfl ?_
          refine r_callV iX1_unbeaten_139 (cX1_60 _ rfl) (c5_miss h3 (pt q) (by omega) _ _) (by omega) (hset_eq _ _ _) rfl rfl rfl (Nat.le_of_ble_eq_true rfl) (by first | exact Nat.le_of_ble_eq_true rfl | omega) (by first | exact Nat.le_of_ble_eq_true rfl | omega) ?_
          rintro v h' z' ⟨rfl, rfl, rfl⟩
          refine r_aload iX1_unbeaten_142 rfl ?_
          refine r_iload iX1_unbeaten_143 rfl ?_
          refine r_aload iX1_unbeaten_144 rfl ?_
          refine r_iload iX1_unbeaten_145 rfl ?_
          refine r_iload iX1_unbeaten_146 rfl ?_
          refine r_iload iX1_unbeaten_148 rfl ?_
          refine r_iconst (v := 1) iX1_unbeaten_150 rfl ?_
          refine r_iadd iX1_unbeaten_151 ?_
          rw [e1]
          have key5 : ∀ (k9 : Nat → Int32) (a : Nat), (a < 129 ∨ 143 ≤ a) → hset h3 (130 + (q + 1)) (thr k9) a = h3 a := fun k9 a ha => hset_ne _ _ (by omega)
          have hP5 := hP3.set hq1 (kMiss (pt q))
          have I2 := ih _ _ st (q + 1) z' ((key5 (kMiss (pt q)) 1 (by omega)).trans hT3) (hC3.kept fun x q1 q2 => key5 (kMiss (pt q)) x (by omega)) hP5 (by omega) (by omega) (by omega)
          rw [show upT pt3 (q + 1) (kMiss (pt q)) (q + 1) = kMiss (pt q) by simp [upT]] at I2
          refine r_callS iX1_unbeaten_152 (cX1_67 _ rfl) (I2) (by omega) rfl rfl (Nat.le_of_ble_eq_true rfl) (by first | exact Nat.le_of_ble_eq_true rfl | omega) (by first | exact Nat.le_of_ble_eq_true rfl | omega) ?_
          rintro v h6 z6 ⟨rfl, rfl, ⟨pt6, hP6, hj6⟩, ho6⟩
          refine r_lstore_12 iX1_unbeaten_155 rfl ?_
          refine r_iload iX1_unbeaten_157 rfl ?_
          refine r_i2l iX1_unbeaten_159 ?_
          refine r_lload iX1_unbeaten_160 rfl ?_
          refine r_lmul iX1_unbeaten_162 ?_
          refine r_bipush (v := 10) iX1_unbeaten_163 rfl ?_
          refine r_iload iX1_unbeaten_165 rfl ?_
          refine r_isub iX1_unbeaten_167 ?_
          rw [show (10 : Int32) - nI (pN (pt q) (b + nI st) 0) = nI (10 - pN (pt q) (b + nI st) 0) from pk_sub (a := 10) (by omega)]
          refine r_i2l iX1_unbeaten_168 ?_
          refine r_lload iX1_unbeaten_169 rfl ?_
          refine r_lmul iX1_unbeaten_171 ?_
          refine r_ladd iX1_unbeaten_172 ?_
          refine r_lret iX1_unbeaten_173 rfl ?_
          refine ⟨?_, rfl, ⟨pt6, hP6, fun j hj => ?_⟩, fun a ha => (ho6 a ha).trans ((key5 _ a ha).trans (ho4 a ha))⟩
          · dsimp only
            rw [nI_l (by omega), nI_l (by omega), lN_mul, lN_mul, lN_add]
          · rw [hj6 j (by omega), upT, if_neg (by omega), hj3 j (by omega), upT, if_neg (by omega)]
