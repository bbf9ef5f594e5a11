/-! sheets: what such counts -/
def gup (G : Nat → Nat → Int32) (j c : Nat) (v : Int32) : Nat → Nat → Int32 := fun x y => if x = j ∧ y = c then v else G x y
theorem updV_at {F : Nat → Value} {c : Nat} (hc : c < 2 ^ 31) (v : Value) (y : Nat) : updV F (nI c).toNatClampNeg v y = if y = c then v else F y := by
  rw [nI_clamp hc]; rfl
theorem gridAt.set {h : Hp} {a : Nat} {G G' : Nat → Nat → Int32} (H : gridAt h a G) {j c : Nat} (hj : j < 3) (hc : c < 19) {F : Nat → Value} (hF : h (a + 1 + j) = some (.inl (.int, 19, F))) (v : Int32) (e : ∀ x y, x < 3 → y < 19 → G' x y = gup G j c v x y) : gridAt (hset h (a + 1 + j) (.inl (.int, 19, updV F (nI c).toNatClampNeg (.int v)))) a G' := by
  refine ⟨by rw [hset_ne _ _ (by omega)]; exact H.1, fun i hi => ?_⟩
  obtain ⟨Fi, h1, h2⟩ := H.2 i hi
  by_cases g : i = j
  · subst g
    rw [hF] at h1
    obtain rfl : F = Fi := by injection h1 with h1; injection h1 with h1; injection h1 with _ h1; injection h1 with _ h1
    refine ⟨_, hset_eq _ _ _, fun y hy => ?_⟩
    rw [updV_at (by omega), e i y hi hy, gup]
    by_cases q : y = c
    · rw [if_pos q, if_pos ⟨rfl, q⟩]
    · rw [if_neg q, if_neg (fun r => q r.2), h2 y hy]
  · refine ⟨Fi, by rw [hset_ne _ _ (by omega)]; exact h1, fun y hy => ?_⟩
    rw [e i y hi hy, gup, if_neg (fun r => g r.1), h2 y hy]
theorem gr_ix (a : Nat) {j : Nat} (hj : j < 3) : (fun j : Nat => Value.ref (a + 1 + j)) (nI j).toNatClampNeg = .ref (a + 1 + j) := by
  show Value.ref (a + 1 + (nI j).toNatClampNeg) = _
  rw [nI_clamp (by omega)]
theorem gr_at {F : Nat → Value} {G : Nat → Int32} (h : ∀ c, c < 19 → F c = .int (G c)) {c : Nat} (hc : c < 19) : F (nI c).toNatClampNeg = .int (G c) := by
  rw [nI_clamp (by omega)]; exact h c hc
theorem in3 {j : Nat} (hj : j < 3) : vp_in (nI j) 3 := vp_in_nI hj (by decide)
theorem in19 {j : Nat} (hj : j < 19) : vp_in (nI j) 19 := vp_in_nI hj (by decide)
theorem gridAt.set_out {h : Hp} {a b : Nat} {G : Nat → Nat → Int32} (H : gridAt h a G) (e : aC) (hb : b < a ∨ a + 4 ≤ b) : gridAt (hset h b e) a G := H.kept fun x _ _ => hset_ne _ _ (by omega)
theorem c3_empty (h : Hp) (a : Nat) (ha : 2 ≤ a) (G : Nat → Nat → Int32) (H : gridAt h a G) (z : Nat) : Cal MX3_empty 1 0 0 [.ref a] h z (fun v h' z' => v = none ∧ z' = z ∧ gridAt h' a (fun _ _ => 0) ∧ ∀ x, (x < a ∨ a + 4 ≤ x) → h' x = h x) := by
  refine Cal_of_R (by decide +kernel) (L := [.ref a, .null, .null]) rfl (Nat.le_of_ble_eq_true rfl) ?_
  have loop : ∀ (j r c : Nat) (hh : Hp) (G : Nat → Nat → Int32), 20 * r + c + j = 60 → r ≤ 2 → c ≤ 19 → gridAt hh a G → (∀ x y, x < 3 → y < 19 → (x < r ∨ (x = r ∧ y < c)) → G x y = 0) → (∀ x, (x < a ∨ a + 4 ≤ x) → hh x = h x) → R MX3_empty 1 0 0 (fun v h' z' => v = none ∧ z' = z ∧ gridAt h' a (fun _ _ => 0) ∧ ∀ x, (x < a ∨ a + 4 ≤ x) → h' x = h x) 9 [.ref a, .int (nI r), .int (nI c)] [] hh z 0 0 := by
    intro j
    induction j with
    | zero => intro r c hh G hj hr hc; omega
    | succ j ih =>
      intro r c hh G hj hr hc HG hz ho
      by_cases g : c < 19
      · obtain ⟨F, hF, hFc⟩ := HG.2 r (by omega)
        refine r_iload iX3_empty_9 rfl ?_
        refine r_bipush (v := 18) iX3_empty_10 rfl ?_
        refine r_icmp_gt iX3_empty_12 (fun g9 => absurd g9 (nI_nlt (b := c) (a := 18) (by omega) (by omega))) (fun _ => ?_)
        refine r_aload iX3_empty_15 rfl ?_
        refine r_iload iX3_empty_16 rfl ?_
        refine r_aaload iX3_empty_17 rfl (HG.1) (in3 (by omega)) (gr_ix a (by omega)) ?_
        refine r_iload iX3_empty_18 rfl ?_
        refine r_iconst (v := 0) iX3_empty_19 rfl ?_
        refine r_iastore iX3_empty_20 (by omega) (hF) (in19 g) ?_
        refine r_iinc_2 iX3_empty_21 (by first | exact nI_inc _ | rfl) rfl ?_
        refine r_goto iX3_empty_24 ?_
        refine ih r (c + 1) _ _ (by omega) hr (by omega) (HG.set (by omega) g hF 0 (fun x y _ _ => rfl)) (fun x y hx hy hxy => ?_) (fun x hx => by rw [hset_ne _ _ (by omega)]; exact ho x hx)
        unfold gup
        by_cases q : x = r ∧ y = c
        · rw [if_pos q]
        · rw [if_neg q]; exact hz x y hx hy (by omega)
      · by_cases q : r = 2
        · refine r_iload iX3_empty_9 rfl ?_
          refine r_bipush (v := 18) iX3_empty_10 rfl ?_
          refine r_icmp_gt iX3_empty_12 (fun _ => ?_) (fun g9 => absurd (nI_lt (a := 18) (by omega) (by omega)) g9)
          refine r_iinc_1 iX3_empty_27 (by first | exact nI_inc _ | rfl) rfl ?_
          refine r_goto iX3_empty_30 ?_
          refine r_iload iX3_empty_2 rfl ?_
          refine r_iconst (v := 3) iX3_empty_3 rfl ?_
          refine r_icmp_ge iX3_empty_4 (fun _ => ?_) (fun g9 => absurd (nI_le (a := 3) (by omega) (by omega)) g9)
          refine r_vret iX3_empty_33 rfl ?_
          refine ⟨rfl, rfl, ⟨HG.1, fun i hi => ?_⟩, ho⟩
          obtain ⟨F, hF, hFc⟩ := HG.2 i hi
          exact ⟨F, hF, fun y hy => by rw [hFc y hy, hz i y hi hy (by omega)]⟩
        · refine r_iload iX3_empty_9 rfl ?_
          refine r_bipush (v := 18) iX3_empty_10 rfl ?_
          refine r_icmp_gt iX3_empty_12 (fun _ => ?_) (fun g9 => absurd (nI_lt (a := 18) (by omega) (by omega)) g9)
          refine r_iinc_1 iX3_empty_27 (by first | exact nI_inc _ | rfl) rfl ?_
          refine r_goto iX3_empty_30 ?_
          refine r_iload iX3_empty_2 rfl ?_
          refine r_iconst (v := 3) iX3_empty_3 rfl ?_
          refine r_icmp_ge iX3_empty_4 (fun g9 => absurd g9 (nI_ge (b := 3) (by omega) (by omega))) (fun _ => ?_)
          refine r_iconst (v := 0) iX3_empty_7 rfl ?_
          refine r_istore_2 iX3_empty_8 rfl ?_
          exact ih (r + 1) 0 hh G (by omega) (by omega) (by omega) HG (fun x y hx hy hxy => hz x y hx hy (by omega)) ho
  refine r_iconst (v := 0) iX3_empty_0 rfl ?_
  refine r_istore_1 iX3_empty_1 rfl ?_
  refine r_iload iX3_empty_2 rfl ?_
  refine r_iconst (v := 3) iX3_empty_3 rfl ?_
  refine r_icmp_ge iX3_empty_4 (fun g9 => absurd g9 (by decide)) (fun _ => ?_)
  refine r_iconst (v := 0) iX3_empty_7 rfl ?_
  refine r_istore_2 iX3_empty_8 rfl ?_
  exact loop 60 0 0 h G rfl (by omega) (by omega) H (fun x y _ _ q => by omega) (fun _ _ => rfl)
theorem nI_sub {a b : Nat} (h : b ≤ a) : nI a - nI b = nI (a - b) := by
  have e : nI a = nI (a - b) + nI b := by rw [nI_add, Nat.sub_add_cancel h]
  rw [e, Int32.add_sub_cancel]
def oT (W : Nat → Nat → Int32) (m : Nat) : Nat → Int32
  | 0 => 0
  | r + 1 => if m < 3 - r then oT W m r else oT W m r + W r (m - (3 - r))
theorem oneg : ∀ r, r < 3 → ∀ m, m < 3 - r → nI m - (3 - nI r) < 0 := by decide +kernel
theorem opos {r m : Nat} (hr : r < 3) (h : ¬ m < 3 - r) : nI m - (3 - nI r) = nI (m - (3 - r)) := by
  rw [show (3 : Int32) - nI r = nI (3 - r) from nI_sub (a := 3) (by omega), nI_sub (by omega)]
theorem c3_outHere (h : Hp) (o143 : h 143 = some (.inr (2, [.ref 144, .ref 148]))) (W : Nat → Nat → Int32) (H : gridAt h 144 W) (m : Nat) (hm : m ≤ 18) : Fn MX3_outHere 0 [.ref 143, .int (nI m)] h (some (.int (oT W m 3))) := by
  intro z
  refine Cal_of_R (by decide +kernel) (L := [.ref 143, .int (nI m), .null, .null, .null]) rfl (Nat.le_of_ble_eq_true rfl) ?_
  have loop : ∀ (j r : Nat) (w4 : Value), r + j = 3 → ∀ z, R MX3_outHere 0 0 0 (fun v h' z' => v = some (.int (oT W m 3)) ∧ h' = h ∧ z' = z) 4 [.ref 143, .int (nI m), .int (oT W m r), .int (nI r), w4] [] h z 0 0 := by
    intro j
    induction j with
    | zero =>
      intro r w4 hr z
      obtain rfl : r = 3 := by omega
      refine r_iload iX3_outHere_4 rfl ?_
      refine r_iconst (v := 3) iX3_outHere_5 rfl ?_
      refine r_icmp_ge iX3_outHere_6 (fun _ => ?_) (fun g9 => absurd (by decide) g9)
      refine r_iload iX3_outHere_39 rfl ?_
      refine r_iret iX3_outHere_40 rfl ?_
      exact ⟨rfl, rfl, rfl⟩
    | succ j ih =>
      intro r w4 hr z
      by_cases g : m < 3 - r
      · refine r_iload iX3_outHere_4 rfl ?_
        refine r_iconst (v := 3) iX3_outHere_5 rfl ?_
        refine r_icmp_ge iX3_outHere_6 (fun g9 => absurd g9 (nI_ge (b := 3) (by omega) (by omega))) (fun _ => ?_)
        refine r_iload iX3_outHere_9 rfl ?_
        refine r_iconst (v := 3) iX3_outHere_10 rfl ?_
        refine r_iload iX3_outHere_11 rfl ?_
        refine r_isub iX3_outHere_12 ?_
        refine r_isub iX3_outHere_13 ?_
        refine r_istore_4 iX3_outHere_14 rfl ?_
        refine r_iload iX3_outHere_16 rfl ?_
        refine r_if_lt iX3_outHere_18 (fun _ => ?_) (fun g9 => absurd (oneg r (by omega) m g) g9)
        refine r_iinc_3 iX3_outHere_33 (by first | exact nI_inc _ | rfl) rfl ?_
        refine r_goto iX3_outHere_36 ?_
        have e := ih (r + 1) (.int (nI m - (3 - nI r))) (by omega) z
        rw [show oT W m (r + 1) = oT W m r from if_pos g] at e
        exact e
      · obtain ⟨F, hF, hFc⟩ := H.2 r (by omega)
        refine r_iload iX3_outHere_4 rfl ?_
        refine r_iconst (v := 3) iX3_outHere_5 rfl ?_
        refine r_icmp_ge iX3_outHere_6 (fun g9 => absurd g9 (nI_ge (b := 3) (by omega) (by omega))) (fun _ => ?_)
        refine r_iload iX3_outHere_9 rfl ?_
        refine r_iconst (v := 3) iX3_outHere_10 rfl ?_
        refine r_iload iX3_outHere_11 rfl ?_
        refine r_isub iX3_outHere_12 ?_
        refine r_isub iX3_outHere_13 ?_
        refine r_istore_4 iX3_outHere_14 rfl ?_
        rw [opos (by omega) g]
        refine r_iload iX3_outHere_16 rfl ?_
        refine r_if_lt iX3_outHere_18 (fun g9 => absurd g9 (nI_pos (by omega))) (fun _ => ?_)
        refine r_iload iX3_outHere_21 rfl ?_
        refine r_aload iX3_outHere_22 rfl ?_
        refine r_getfield iX3_outHere_23 (flX3_11 _ rfl) o143 rfl ?_
        refine r_iload iX3_outHere_26 rfl ?_
        refine r_aaload iX3_outHere_27 rfl (H.1) (in3 (by omega)) (gr_ix 144 (by omega)) ?_
        refine r_iload iX3_outHere_28 rfl ?_
        refine r_iaload iX3_outHere_30 (hF) (in19 (by omega)) (gr_at hFc (by omega)) ?_
        refine r_iadd iX3_outHere_31 ?_
        refine r_istore_2 iX3_outHere_32 rfl ?_
        refine r_iinc_3 iX3_outHere_33 (by first | exact nI_inc _ | rfl) rfl ?_
        refine r_goto iX3_outHere_36 ?_
        have e := ih (r + 1) (.int (nI (m - (3 - r)))) (by omega) z
        rw [show oT W m (r + 1) = oT W m r + W r (m - (3 - r)) from if_neg g] at e
        exact e
  refine r_iconst (v := 0) iX3_outHere_0 rfl ?_
  refine r_istore_2 iX3_outHere_1 rfl ?_
  refine r_iconst (v := 0) iX3_outHere_2 rfl ?_
  refine r_istore_3 iX3_outHere_3 rfl ?_
  exact loop 3 0 .null rfl z
/-- a pass from r to b -/
def pS (W : Nat → Nat → Int32) (b1 b2 : Bool) (r b : Nat) (T : Nat → Nat → Int32) : Nat → Nat → Int32 := fun x y =>
  if b - r ≤ y then (T x y + (if b1 = true ∧ x = 0 then W r (y - (b - r)) else 0)) + (if b2 = true ∧ x = b then W r (y - (b - r)) else 0) else T x y
def goT (W : Nat → Nat → Int32) (b1 b2 : Bool) : Nat → Nat → Int32 := pS W b1 b2 2 2 (pS W b1 b2 1 2 (pS W b1 b2 1 1 (pS W b1 b2 0 2 (pS W b1 b2 0 1 (pS W b1 b2 0 0 (fun _ _ => 0))))))
/-- a pass up to the column c -/
def pC (W : Nat → Nat → Int32) (b1 b2 : Bool) (r b : Nat) (T : Nat → Nat → Int32) (c : Nat) : Nat → Nat → Int32 := fun x y => if y < c then pS W b1 b2 r b T x y else T x y
theorem c3_pass (h0 : Hp) (W : Nat → Nat → Int32) (b1 b2 : Bool) (r b : Nat) (hr : r ≤ b) (hb : b < 3) (Q : Option Value → Hp → Nat → Prop) (z : Nat) (w6 w7 : Value)
    (T : Nat → Nat → Int32) (h : Hp) (o143 : h 143 = some (.inr (2, [.ref 144, .ref 148]))) (hW : gridAt h 144 W) (hT : gridAt h 148 T) (ho : ∀ a, (a < 144 ∨ 152 ≤ a) → h a = h0 a)
    (K : ∀ w6 w7 h', h' 143 = some (.inr (2, [.ref 144, .ref 148])) → gridAt h' 144 W → gridAt h' 148 (pS W b1 b2 r b T) → (∀ a, (a < 144 ∨ 152 ≤ a) → h' a = h0 a) → R MX3_goOn 2 0 0 Q 17 [.ref 143, .int (b2i b1), .int (b2i b2), .int (nI r), .int (nI (b + 1)), .int (nI (b - r)), w6, w7] [] h' z 0 0)
    (w5 : Value) : R MX3_goOn 2 0 0 Q 17 [.ref 143, .int (b2i b1), .int (b2i b2), .int (nI r), .int (nI b), w5, w6, w7] [] h z 0 0 := by
  refine r_iload iX3_goOn_17 rfl ?_
  refine r_iconst (v := 3) iX3_goOn_19 rfl ?_
  refine r_icmp_ge iX3_goOn_20 (fun g9 => absurd g9 (nI_ge (b := 3) (by omega) (by omega))) (fun _ => ?_)
  refine r_iload iX3_goOn_23 rfl ?_
  refine r_iload iX3_goOn_25 rfl ?_
  refine r_isub iX3_goOn_26 ?_
  rw [nI_sub hr]
  refine r_istore_5 iX3_goOn_27 rfl ?_
  refine r_iload iX3_goOn_29 rfl ?_
  refine r_istore_6 iX3_goOn_31 rfl ?_
  have loop : ∀ (j c : Nat) (w7 : Value) (h : Hp), c + j = 19 → b - r ≤ c → h 143 = some (.inr (2, [.ref 144, .ref 148])) → gridAt h 144 W → gridAt h 148 (pC W b1 b2 r b T c) → (∀ a, (a < 144 ∨ 152 ≤ a) → h a = h0 a) → R MX3_goOn 2 0 0 Q 33 [.ref 143, .int (b2i b1), .int (b2i b2), .int (nI r), .int (nI b), .int (nI (b - r)), .int (nI c), w7] [] h z 0 0 := by
    intro j
    induction j with
    | zero =>
      intro c w7 h hc hcm o143 hW hT ho
      obtain rfl : c = 19 := by omega
      refine r_iload iX3_goOn_33 rfl ?_
      refine r_bipush (v := 18) iX3_goOn_35 rfl ?_
      refine r_icmp_gt iX3_goOn_37 (fun _ => ?_) (fun g9 => absurd (nI_lt (a := 18) (by omega) (by omega)) g9)
      refine r_iinc_4 iX3_goOn_97 (by first | exact nI_inc _ | rfl) rfl ?_
      refine r_goto iX3_goOn_100 ?_
      refine K _ _ h o143 hW ⟨hT.1, fun i hi => ?_⟩ ho
      obtain ⟨F, hF, hFc⟩ := hT.2 i hi
      exact ⟨F, hF, fun y hy => by rw [hFc y hy]; show Value.int (if y < 19 then _ else _) = _; rw [if_pos hy]⟩
    | succ j ih =>
      intro c w7 h hc hcm o143 hW hT ho
      obtain ⟨F, hF, hFc⟩ := hW.2 r (by omega)
      refine r_iload iX3_goOn_33 rfl ?_
      refine r_bipush (v := 18) iX3_goOn_35 rfl ?_
      refine r_icmp_gt iX3_goOn_37 (fun g9 => absurd g9 (nI_nlt (b := c) (a := 18) (by omega) (by omega))) (fun _ => ?_)
      refine r_aload iX3_goOn_40 rfl ?_
      refine r_getfield iX3_goOn_41 (flX3_11 _ rfl) o143 rfl ?_
      refine r_iload iX3_goOn_44 rfl ?_
      refine r_aaload iX3_goOn_45 rfl (hW.1) (in3 (by omega)) (gr_ix 144 (by omega)) ?_
      refine r_iload iX3_goOn_46 rfl ?_
      refine r_iload iX3_goOn_48 rfl ?_
      refine r_isub iX3_goOn_50 ?_
      rw [nI_sub hcm]
      refine r_iaload iX3_goOn_51 (hF) (in19 (by omega)) (gr_at hFc (by omega)) ?_
      refine r_istore_7 iX3_goOn_52 rfl ?_
      -- the first row
      have st1 : ∃ T1 h1, h1 143 = some (.inr (2, [.ref 144, .ref 148])) ∧ gridAt h1 144 W ∧ gridAt h1 148 T1 ∧ (∀ a, (a < 144 ∨ 152 ≤ a) → h1 a = h0 a) ∧ (∀ x y, x < 3 → y < 19 → T1 x y = if y = c ∧ b1 = true ∧ x = 0 then pC W b1 b2 r b T c x y + W r (c - (b - r)) else pC W b1 b2 r b T c x y) ∧ (R MX3_goOn 2 0 0 Q 72 [.ref 143, .int (b2i b1), .int (b2i b2), .int (nI r), .int (nI b), .int (nI (b - r)), .int (nI c), .int (W r (c - (b - r)))] [] h1 z 0 0 → R MX3_goOn 2 0 0 Q 54 [.ref 143, .int (b2i b1), .int (b2i b2), .int (nI r), .int (nI b), .int (nI (b - r)), .int (nI c), .int (W r (c - (b - r)))] [] h z 0 0) := by
        cases hb1 : b1 with
        | false =>
          refine ⟨pC W false b2 r b T c, h, o143, hW, by rw [hb1] at hT; exact hT, ho, fun x y _ _ => by rw [if_neg (fun q => by cases q.2.1)], fun K => ?_⟩
          refine r_iload iX3_goOn_54 rfl ?_
          refine r_if_eq iX3_goOn_55 (fun _ => ?_) (fun g9 => absurd (rfl) g9)
          exact K
        | true =>
          obtain ⟨F0, hF0, hF0c⟩ := hT.2 0 (by omega)
          refine ⟨gup (pC W true b2 r b T c) 0 c (pC W true b2 r b T c 0 c + W r (c - (b - r))), _, ?_, ?_, (show gridAt h 148 (pC W true b2 r b T c) by rw [hb1] at hT; exact hT).set (by omega) (by omega) hF0 _ (fun x y _ _ => rfl), fun a ha => ?_, fun x y _ _ => ?_, fun K => ?_⟩
          · rw [hset_ne _ _ (by omega)]; exact o143
          · exact hW.set_out _ (by omega)
          · rw [hset_ne _ _ (by omega)]; exact ho a ha
          · unfold gup
            by_cases q : x = 0 ∧ y = c
            · rw [if_pos q, if_pos ⟨q.2, rfl, q.1⟩, q.1, q.2]
            · rw [if_neg q, if_neg (fun e => q ⟨e.2.2, e.1⟩)]
          · refine r_iload iX3_goOn_54 rfl ?_
            refine r_if_eq iX3_goOn_55 (fun g9 => absurd g9 (by decide)) (fun _ => ?_)
            refine r_aload iX3_goOn_58 rfl ?_
            refine r_getfield iX3_goOn_59 (flX3_16 _ rfl) o143 rfl ?_
            refine r_iconst (v := 0) iX3_goOn_62 rfl ?_
            refine r_aaload iX3_goOn_63 rfl (hT.1) (in3 (j := 0) (by omega)) (gr_ix 148 (j := 0) (by omega)) ?_
            refine r_iload iX3_goOn_64 rfl ?_
            refine r_dup2 iX3_goOn_66 rfl rfl ?_
            refine r_iaload iX3_goOn_67 (hF0) (in19 (by omega)) (gr_at hF0c (by omega)) ?_
            refine r_iload iX3_goOn_68 rfl ?_
            refine r_iadd iX3_goOn_70 ?_
            refine r_iastore iX3_goOn_71 (by omega) (hF0) (in19 (by omega)) ?_
            rw [hb1]
            exact K
      obtain ⟨T1, h1, o1, hW1, hT1, ho1, e1, K1⟩ := st1
      refine K1 ?_
      clear K1
      have fin : ∀ (T2 : Nat → Nat → Int32) (h2 : Hp), h2 143 = some (.inr (2, [.ref 144, .ref 148])) → gridAt h2 144 W → gridAt h2 148 T2 → (∀ a, (a < 144 ∨ 152 ≤ a) → h2 a = h0 a) → (∀ x y, x < 3 → y < 19 → T2 x y = if y = c ∧ b2 = true ∧ x = b then T1 x y + W r (c - (b - r)) else T1 x y) → R MX3_goOn 2 0 0 Q 91 [.ref 143, .int (b2i b1), .int (b2i b2), .int (nI r), .int (nI b), .int (nI (b - r)), .int (nI c), .int (W r (c - (b - r)))] [] h2 z 0 0 := by
        intro T2 h2 o2 hW2 hT2 ho2 e2
        refine r_iinc_6 iX3_goOn_91 (by first | exact nI_inc _ | rfl) rfl ?_
        refine r_goto iX3_goOn_94 ?_
        refine ih (c + 1) _ h2 (by omega) (by omega) o2 hW2 ⟨hT2.1, fun i hi => ?_⟩ ho2
        obtain ⟨F, hF, hFc⟩ := hT2.2 i hi
        refine ⟨F, hF, fun y hy => ?_⟩
        rw [hFc y hy, e2 i y hi hy, e1 i y hi hy]
        unfold pC pS
        by_cases q : y = c
        · subst q
          simp only [Nat.lt_irrefl, if_false, true_and, if_true, Nat.lt_succ_self, if_pos hcm]
          by_cases q1 : b1 = true ∧ i = 0
          · by_cases q2 : b2 = true ∧ i = b
            · rw [if_pos q1, if_pos q2, if_pos q1, if_pos q2]
            · rw [if_pos q1, if_neg q2, if_pos q1, if_neg q2, Int32.add_zero]
          · by_cases q2 : b2 = true ∧ i = b
            · rw [if_neg q1, if_pos q2, if_neg q1, if_pos q2, Int32.add_zero]
            · rw [if_neg q1, if_neg q2, if_neg q1, if_neg q2, Int32.add_zero, Int32.add_zero]
        · rw [if_neg (fun e => q e.1), if_neg (fun e => q e.1)]
          by_cases q3 : y < c
          · rw [if_pos q3, if_pos (show y < c + 1 by omega)]
          · rw [if_neg q3, if_neg (by omega)]
      cases hb2 : b2 with
      | false =>
        rw [hb2] at fin
        refine r_iload iX3_goOn_72 rfl ?_
        refine r_if_eq iX3_goOn_73 (fun _ => ?_) (fun g9 => absurd (rfl) g9)
        exact fin T1 h1 o1 hW1 hT1 ho1 (fun x y _ _ => by rw [if_neg (fun q => by cases q.2.1)])
      | true =>
        rw [hb2] at fin
        obtain ⟨Fb, hFb, hFbc⟩ := hT1.2 b (by omega)
        refine r_iload iX3_goOn_72 rfl ?_
        refine r_if_eq iX3_goOn_73 (fun g9 => absurd g9 (by decide)) (fun _ => ?_)
        refine r_aload iX3_goOn_76 rfl ?_
        refine r_getfield iX3_goOn_77 (flX3_16 _ rfl) (o1) rfl ?_
        refine r_iload iX3_goOn_80 rfl ?_
        refine r_aaload iX3_goOn_82 rfl (hT1.1) (in3 (by omega)) (gr_ix 148 (by omega)) ?_
        refine r_iload iX3_goOn_83 rfl ?_
        refine r_dup2 iX3_goOn_85 rfl rfl ?_
        refine r_iaload iX3_goOn_86 (hFb) (in19 (by omega)) (gr_at hFbc (by omega)) ?_
        refine r_iload iX3_goOn_87 rfl ?_
        refine r_iadd iX3_goOn_89 ?_
        refine r_iastore iX3_goOn_90 (by omega) (hFb) (in19 (by omega)) ?_
        refine fin (gup T1 b c (T1 b c + W r (c - (b - r)))) _ ?_ ?_ (hT1.set (by omega) (by omega) hFb _ (fun x y _ _ => rfl)) (fun a ha => ?_) (fun x y _ _ => ?_)
        · rw [hset_ne _ _ (by omega)]; exact o1
        · exact hW1.set_out _ (by omega)
        · rw [hset_ne _ _ (by omega)]; exact ho1 a ha
        · unfold gup
          by_cases q : x = b ∧ y = c
          · rw [if_pos q, if_pos ⟨q.2, rfl, q.1⟩, q.1, q.2]
          · rw [if_neg q, if_neg (fun e => q ⟨e.2.2, e.1⟩)]
  refine loop (19 - (b - r)) (b - r) w7 h (by omega) (Nat.le_refl _) o143 hW ⟨hT.1, fun i hi => ?_⟩ ho
  obtain ⟨F, hF, hFc⟩ := hT.2 i hi
  refine ⟨F, hF, fun y hy => ?_⟩
  rw [hFc y hy]
  unfold pC
  by_cases q : y < b - r
  · rw [if_pos q, pS, if_neg (by omega)]
  · rw [if_neg q]
theorem c3_goOn (h : Hp) (o143 : h 143 = some (.inr (2, [.ref 144, .ref 148]))) (W G : Nat → Nat → Int32) (hW : gridAt h 144 W) (hG : gridAt h 148 G) (b1 b2 : Bool) (z : Nat) : Cal MX3_goOn 2 0 0 [.ref 143, .int (b2i b1), .int (b2i b2)] h z (fun v h' z' => v = none ∧ z' = z ∧ gridAt h' 144 (goT W b1 b2) ∧ (∃ G', gridAt h' 148 G') ∧ ∀ a, (a < 144 ∨ 152 ≤ a) → h' a = h a) := by
  refine Cal_of_R (by decide +kernel) (L := [.ref 143, .int (b2i b1), .int (b2i b2), .null, .null, .null, .null, .null]) rfl (Nat.le_of_ble_eq_true rfl) ?_
  refine r_aload iX3_goOn_0 rfl ?_
  refine r_getfield iX3_goOn_1 (flX3_16 _ rfl) o143 rfl ?_
  refine r_callS iX3_goOn_4 (cX3_19 _ rfl) (c3_empty h 148 (by omega) G hG z) (by omega) rfl rfl (Nat.le_of_ble_eq_true rfl) (by first | exact Nat.le_of_ble_eq_true rfl | omega) (by first | exact Nat.le_of_ble_eq_true rfl | omega) ?_
  rintro v h' z' ⟨rfl, rfl, hT, ho⟩
  replace o143 : h' 143 = some (.inr (2, [.ref 144, .ref 148])) := (ho 143 (by omega)).trans o143
  replace hW : gridAt h' 144 W := hW.kept fun x q1 q2 => ho x (by omega)
  replace ho : ∀ a, (a < 144 ∨ 152 ≤ a) → h' a = h a := fun a ha => ho a (by omega)
  refine r_iconst (v := 0) iX3_goOn_7 rfl ?_
  refine r_istore_3 iX3_goOn_8 rfl ?_
  refine r_iload iX3_goOn_9 rfl ?_
  refine r_iconst (v := 3) iX3_goOn_10 rfl ?_
  refine r_icmp_ge iX3_goOn_11 (fun g9 => absurd g9 (by decide)) (fun _ => ?_)
  refine r_iload iX3_goOn_14 rfl ?_
  refine r_istore_4 iX3_goOn_15 rfl ?_
  refine c3_pass h W b1 b2 0 0 (by omega) (by omega) _ z' .null .null _ h' o143 hW hT ho (fun w6 w7 h' o143 hW hT ho => ?_) .null
  refine c3_pass h W b1 b2 0 1 (by omega) (by omega) _ z' w6 w7 _ h' o143 hW hT ho (fun w6 w7 h' o143 hW hT ho => ?_) _
  refine c3_pass h W b1 b2 0 2 (by omega) (by omega) _ z' w6 w7 _ h' o143 hW hT ho (fun w6 w7 h' o143 hW hT ho => ?_) _
  refine r_iload iX3_goOn_17 rfl ?_
  refine r_iconst (v := 3) iX3_goOn_19 rfl ?_
  refine r_icmp_ge iX3_goOn_20 (fun _ => ?_) (fun g9 => absurd (by decide) g9)
  refine r_iinc_3 iX3_goOn_103 (by first | exact nI_inc _ | rfl) rfl ?_
  refine r_goto iX3_goOn_106 ?_
  refine r_iload iX3_goOn_9 rfl ?_
  refine r_iconst (v := 3) iX3_goOn_10 rfl ?_
  refine r_icmp_ge iX3_goOn_11 (fun g9 => absurd g9 (by decide)) (fun _ => ?_)
  refine r_iload iX3_goOn_14 rfl ?_
  refine r_istore_4 iX3_goOn_15 rfl ?_
  refine c3_pass h W b1 b2 1 1 (by omega) (by omega) _ z' w6 w7 _ h' o143 hW hT ho (fun w6 w7 h' o143 hW hT ho => ?_) _
  refine c3_pass h W b1 b2 1 2 (by omega) (by omega) _ z' w6 w7 _ h' o143 hW hT ho (fun w6 w7 h' o143 hW hT ho => ?_) _
  refine r_iload iX3_goOn_17 rfl ?_
  refine r_iconst (v := 3) iX3_goOn_19 rfl ?_
  refine r_icmp_ge iX3_goOn_20 (fun _ => ?_) (fun g9 => absurd (by decide) g9)
  refine r_iinc_3 iX3_goOn_103 (by first | exact nI_inc _ | rfl) rfl ?_
  refine r_goto iX3_goOn_106 ?_
  refine r_iload iX3_goOn_9 rfl ?_
  refine r_iconst (v := 3) iX3_goOn_10 rfl ?_
  refine r_icmp_ge iX3_goOn_11 (fun g9 => absurd g9 (by decide)) (fun _ => ?_)
  refine r_iload iX3_goOn_14 rfl ?_
  refine r_istore_4 iX3_goOn_15 rfl ?_
  refine c3_pass h W b1 b2 2 2 (by omega) (by omega) _ z' w6 w7 _ h' o143 hW hT ho (fun w6 w7 h' o143 hW hT ho => ?_) _
  refine r_iload iX3_goOn_17 rfl ?_
  refine r_iconst (v := 3) iX3_goOn_19 rfl ?_
  refine r_icmp_ge iX3_goOn_20 (fun _ => ?_) (fun g9 => absurd (by decide) g9)
  refine r_iinc_3 iX3_goOn_103 (by first | exact nI_inc _ | rfl) rfl ?_
  refine r_goto iX3_goOn_106 ?_
  refine r_iload iX3_goOn_9 rfl ?_
  refine r_iconst (v := 3) iX3_goOn_10 rfl ?_
  refine r_icmp_ge iX3_goOn_11 (fun _ => ?_) (fun g9 => absurd (by decide) g9)
  refine r_iconst (v := 0) iX3_goOn_109 rfl ?_
  refine r_istore_3 iX3_goOn_110 rfl ?_
  have loop : ∀ (j r : Nat) (hh : Hp), r + j = 3 → hh 143 = some (.inr (2, [.ref 144, .ref 148])) → gridAt hh 148 (goT W b1 b2) → (∃ G, gridAt hh 144 G ∧ ∀ x y, x < r → y < 19 → G x y = goT W b1 b2 x y) → (∀ a, (a < 144 ∨ 152 ≤ a) → hh a = h a) → R MX3_goOn 2 0 0 (fun v h' z'_1 => v = none ∧ z'_1 = z' ∧ gridAt h' 144 (goT W b1 b2) ∧ (∃ G', gridAt h' 148 G') ∧ ∀ a, (a < 144 ∨ 152 ≤ a) → h' a = h a) 111 [.ref 143, .int (b2i b1), .int (b2i b2), .int (nI r), .int (nI (2 + 1)), .int (nI (2 - 2)), w6, w7] [] hh z' 0 0 := by
    intro j
    induction j with
    | zero =>
      intro r hh hr o1 hT hW ho
      obtain rfl : r = 3 := by omega
      refine r_iload iX3_goOn_111 rfl ?_
      refine r_iconst (v := 3) iX3_goOn_112 rfl ?_
      refine r_icmp_ge iX3_goOn_113 (fun _ => ?_) (fun g9 => absurd (by decide) g9)
      refine r_vret iX3_goOn_141 rfl ?_
      obtain ⟨G, hG, e⟩ := hW
      refine ⟨rfl, rfl, ⟨hG.1, fun i hi => ?_⟩, ⟨_, hT⟩, ho⟩
      obtain ⟨F, hF, hFc⟩ := hG.2 i hi
      exact ⟨F, hF, fun y hy => by rw [hFc y hy, e i y hi hy]⟩
    | succ j ih =>
      intro r hh hr o143 hT hW ho
      obtain ⟨G, hG, e⟩ := hW
      obtain ⟨F, hF, hFc⟩ := hT.2 r (by omega)
      obtain ⟨F2, hF2, hF2c⟩ := hG.2 r (by omega)
      refine r_iload iX3_goOn_111 rfl ?_
      refine r_iconst (v := 3) iX3_goOn_112 rfl ?_
      refine r_icmp_ge iX3_goOn_113 (fun g9 => absurd g9 (nI_ge (b := 3) (by omega) (by omega))) (fun _ => ?_)
      refine r_aload iX3_goOn_116 rfl ?_
      refine r_getfield iX3_goOn_117 (flX3_16 _ rfl) o143 rfl ?_
      refine r_iload iX3_goOn_120 rfl ?_
      refine r_aaload iX3_goOn_121 rfl (hT.1) (in3 (by omega)) (gr_ix 148 (by omega)) ?_
      refine r_iconst (v := 0) iX3_goOn_122 rfl ?_
      refine r_aload iX3_goOn_123 rfl ?_
      refine r_getfield iX3_goOn_124 (flX3_11 _ rfl) o143 rfl ?_
      refine r_iload iX3_goOn_127 rfl ?_
      refine r_aaload iX3_goOn_128 rfl (hG.1) (in3 (by omega)) (gr_ix 144 (by omega)) ?_
      refine r_iconst (v := 0) iX3_goOn_129 rfl ?_
      refine r_bipush (v := 19) iX3_goOn_130 rfl ?_
      refine r_copy iX3_goOn_132 copyw (by omega) (by omega) (by omega) hF hF2 (fun i hi => ⟨_, hFc i hi⟩) (by omega) rfl (Nat.le_of_ble_eq_true rfl) ?_
      refine r_iinc_3 iX3_goOn_135 (by first | exact nI_inc _ | rfl) rfl ?_
      refine r_goto iX3_goOn_138 ?_
      refine ih (r + 1) _ (by omega) (by rw [hset_ne _ _ (by omega)]; exact o143) (hT.set_out _ (by omega)) ⟨fun x y => if x = r then goT W b1 b2 x y else G x y, ⟨by rw [hset_ne _ _ (by omega)]; exact hG.1, fun i hi => ?_⟩, fun x y hx hy => ?_⟩ (fun a ha => by rw [hset_ne _ _ (by omega)]; exact ho a ha)
      · by_cases g : i = r
        · subst g
          refine ⟨_, hset_eq _ _ _, fun y hy => ?_⟩
          show (if 0 ≤ y ∧ y < 0 + 19 then F (0 + (y - 0)) else F2 y) = _
          rw [if_pos ⟨Nat.zero_le _, by omega⟩]
          exact (congrArg F (show 0 + (y - 0) = y by omega)).trans ((hFc y hy).trans (congrArg Value.int (if_pos rfl).symm))
        · obtain ⟨Fi, h1, h2⟩ := hG.2 i hi
          exact ⟨Fi, by rw [hset_ne _ _ (by omega)]; exact h1, fun y hy => (h2 y hy).trans (congrArg Value.int (if_neg g).symm)⟩
      · by_cases g : x = r
        · exact if_pos g
        · exact (if_neg g).trans (e x y (by omega) hy)
  exact loop 3 0 h' (by omega) o143 hT ⟨W, hW, fun x y hx _ => absurd hx (Nat.not_lt_zero x)⟩ ho
def tb (k : Nat) : Nat → Nat → Nat → Int32
  | 0 => gup (fun _ _ => 0) 0 0 1
  | s + 1 => goT (tb k s) (decide (s + 1 ≤ k)) (decide (s + 1 ≠ k))
def en (k m : Nat) : Nat → Int32
  | 0 => 0
  | s + 1 => if k < s + 1 then en k m s + oT (tb k s) m 3 else en k m s
def suchOf (n k m : Nat) : Int32 := en k m n + tb k n 0 m + tb k n 1 m + tb k n 2 m
theorem en_s0 {k m s : Nat} (h : ¬ k < s + 1) : en k m (s + 1) = en k m s := by rw [en, if_neg h]
theorem en_s1 {k m s : Nat} (h : k < s + 1) : en k m (s + 1) = en k m s + oT (tb k s) m 3 := by rw [en, if_pos h]
theorem c3_such (h : Hp) (H : shAt h) (n k m : Nat) (hn : n ≤ 6) (hk : k ≤ 6) (hm : m ≤ 18) (z : Nat) : Cal MX3_such 3 0 0 [.ref 143, .int (nI n), .int (nI k), .int (nI m)] h z (fun v h' z' => v = some (.int (suchOf n k m)) ∧ z' = z ∧ shAt h' ∧ ∀ a, (a < 144 ∨ 152 ≤ a) → h' a = h a) := by
  obtain ⟨o143, ⟨G1, hW⟩, G2, hG⟩ := H
  refine Cal_of_R (by decide +kernel) (L := [.ref 143, .int (nI n), .int (nI k), .int (nI m), .null, .null]) rfl (Nat.le_of_ble_eq_true rfl) ?_
  refine r_aload iX3_such_0 rfl ?_
  refine r_getfield iX3_such_1 (flX3_11 _ rfl) o143 rfl ?_
  refine r_callS iX3_such_4 (cX3_19 _ rfl) (c3_empty h 144 (by omega) G1 hW z) (by omega) rfl rfl (Nat.le_of_ble_eq_true rfl) (by first | exact Nat.le_of_ble_eq_true rfl | omega) (by first | exact Nat.le_of_ble_eq_true rfl | omega) ?_
  rintro v h1 z' ⟨rfl, rfl, hT, ho⟩
  replace o143 : h1 143 = some (.inr (2, [.ref 144, .ref 148])) := (ho 143 (by omega)).trans o143
  replace hG : gridAt h1 148 G2 := hG.kept fun x q1 q2 => ho x (by omega)
  replace ho : ∀ a, (a < 144 ∨ 152 ≤ a) → h1 a = h a := fun a ha => ho a (by omega)
  obtain ⟨F, hF, hFc⟩ := hT.2 0 (by omega)
  refine r_aload iX3_such_7 rfl ?_
  refine r_getfield iX3_such_8 (flX3_11 _ rfl) o143 rfl ?_
  refine r_iconst (v := 0) iX3_such_11 rfl ?_
  refine r_aaload iX3_such_12 rfl (hT.1) (in3 (j := 0) (by omega)) (gr_ix 144 (j := 0) (by omega)) ?_
  refine r_iconst (v := 0) iX3_such_13 rfl ?_
  refine r_iconst (v := 1) iX3_such_14 rfl ?_
  refine r_iastore iX3_such_15 (by omega) (hF) (in19 (j := 0) (by omega)) ?_
  refine r_iconst (v := 0) iX3_such_16 rfl ?_
  refine r_istore_4 iX3_such_17 rfl ?_
  refine r_iconst (v := 1) iX3_such_19 rfl ?_
  refine r_istore_5 iX3_such_20 rfl ?_
  have o2 : hset h1 (144 + 1 + 0) (.inl (.int, 19, updV F (nI 0).toNatClampNeg (.int 1))) 143 = some (.inr (2, [.ref 144, .ref 148])) := by rw [hset_ne _ _ (by omega)]; exact o143
  have hW2 : gridAt (hset h1 (144 + 1 + 0) (.inl (.int, 19, updV F (nI 0).toNatClampNeg (.int 1)))) 144 (tb k 0) := hT.set (j := 0) (c := 0) (by omega) (by omega) hF 1 (fun x y _ _ => rfl)
  have hG2 : gridAt (hset h1 (144 + 1 + 0) (.inl (.int, 19, updV F (nI 0).toNatClampNeg (.int 1)))) 148 G2 := hG.set_out _ (by omega)
  have ho2 : ∀ a, (a < 144 ∨ 152 ≤ a) → hset h1 (144 + 1 + 0) (.inl (.int, 19, updV F (nI 0).toNatClampNeg (.int 1))) a = h a := fun a ha => by rw [hset_ne _ _ (by omega)]; exact ho a ha
  refine R_heap (show _ = hset h1 (144 + 1 + 0) (.inl (.int, 19, updV F (nI 0).toNatClampNeg (.int 1))) from rfl) ?_
  generalize hset h1 (144 + 1 + 0) (.inl (.int, 19, updV F (nI 0).toNatClampNeg (.int 1))) = h2 at o2 hW2 hG2 ho2 ⊢
  clear hF hFc hT hG ho o143 hW
  have loop : ∀ (j s : Nat) (hh : Hp), s + j = n → hh 143 = some (.inr (2, [.ref 144, .ref 148])) → gridAt hh 144 (tb k s) → (∃ G, gridAt hh 148 G) → (∀ a, (a < 144 ∨ 152 ≤ a) → hh a = h a) → R MX3_such 3 0 0 (fun v h' z'_1 => v = some (.int (suchOf n k m)) ∧ z'_1 = z' ∧ shAt h' ∧ ∀ a, (a < 144 ∨ 152 ≤ a) → h' a = h a) 22 [.ref 143, .int (nI n), .int (nI k), .int (nI m), .int (en k m s), .int (nI (s + 1))] [] hh z' 0 0 := by
    intro j
    induction j with
    | zero =>
      intro s hh hs o143 hW hG ho
      obtain rfl : s = n := by omega
      refine r_iload iX3_such_22 rfl ?_
      refine r_iload iX3_such_24 rfl ?_
      refine r_icmp_gt iX3_such_25 (fun _ => ?_) (fun g9 => absurd (nI_lt (by omega) (by omega)) g9)
      refine r_iconst (v := 0) iX3_such_76 rfl ?_
      refine r_istore_5 iX3_such_77 rfl ?_
      obtain ⟨F0, hF0, hF0c⟩ := hW.2 0 (by omega)
      obtain ⟨F1, hF1, hF1c⟩ := hW.2 1 (by omega)
      obtain ⟨F2, hF2, hF2c⟩ := hW.2 2 (by omega)
      refine r_iload iX3_such_79 rfl ?_
      refine r_iconst (v := 3) iX3_such_81 rfl ?_
      refine r_icmp_ge iX3_such_82 (fun g9 => absurd g9 (by decide)) (fun _ => ?_)
      refine r_iload iX3_such_85 rfl ?_
      refine r_aload iX3_such_87 rfl ?_
      refine r_getfield iX3_such_88 (flX3_11 _ rfl) o143 rfl ?_
      refine r_iload iX3_such_91 rfl ?_
      refine r_aaload iX3_such_93 rfl (hW.1) (in3 (j := 0) (by omega)) (gr_ix 144 (j := 0) (by omega)) ?_
      refine r_iload iX3_such_94 rfl ?_
      refine r_iaload iX3_such_95 (hF0) (in19 (by omega)) (gr_at hF0c (by omega)) ?_
      refine r_iadd iX3_such_96 ?_
      refine r_istore_4 iX3_such_97 rfl ?_
      refine r_iinc_5 iX3_such_99 (by first | exact nI_inc _ | rfl) rfl ?_
      refine r_goto iX3_such_102 ?_
      refine r_iload iX3_such_79 rfl ?_
      refine r_iconst (v := 3) iX3_such_81 rfl ?_
      refine r_icmp_ge iX3_such_82 (fun g9 => absurd g9 (by decide)) (fun _ => ?_)
      refine r_iload iX3_such_85 rfl ?_
      refine r_aload iX3_such_87 rfl ?_
      refine r_getfield iX3_such_88 (flX3_11 _ rfl) o143 rfl ?_
      refine r_iload iX3_such_91 rfl ?_
      refine r_aaload iX3_such_93 rfl (hW.1) (in3 (j := 1) (by omega)) (gr_ix 144 (j := 1) (by omega)) ?_
      refine r_iload iX3_such_94 rfl ?_
      refine r_iaload iX3_such_95 (hF1) (in19 (by omega)) (gr_at hF1c (by omega)) ?_
      refine r_iadd iX3_such_96 ?_
      refine r_istore_4 iX3_such_97 rfl ?_
      refine r_iinc_5 iX3_such_99 (by first | exact nI_inc _ | rfl) rfl ?_
      refine r_goto iX3_such_102 ?_
      refine r_iload iX3_such_79 rfl ?_
      refine r_iconst (v := 3) iX3_such_81 rfl ?_
      refine r_icmp_ge iX3_such_82 (fun g9 => absurd g9 (by decide)) (fun _ => ?_)
      refine r_iload iX3_such_85 rfl ?_
      refine r_aload iX3_such_87 rfl ?_
      refine r_getfield iX3_such_88 (flX3_11 _ rfl) o143 rfl ?_
      refine r_iload iX3_such_91 rfl ?_
      refine r_aaload iX3_such_93 rfl (hW.1) (in3 (j := 2) (by omega)) (gr_ix 144 (j := 2) (by omega)) ?_
      refine r_iload iX3_such_94 rfl ?_
      refine r_iaload iX3_such_95 (hF2) (in19 (by omega)) (gr_at hF2c (by omega)) ?_
      refine r_iadd iX3_such_96 ?_
      refine r_istore_4 iX3_such_97 rfl ?_
      refine r_iinc_5 iX3_such_99 (by first | exact nI_inc _ | rfl) rfl ?_
      refine r_goto iX3_such_102 ?_
      refine r_iload iX3_such_79 rfl ?_
      refine r_iconst (v := 3) iX3_such_81 rfl ?_
      refine r_icmp_ge iX3_such_82 (fun _ => ?_) (fun g9 => absurd (by decide) g9)
      refine r_iload iX3_such_105 rfl ?_
      refine r_iret iX3_such_107 rfl ?_
      exact ⟨rfl, rfl, ⟨o143, ⟨_, hW⟩, hG⟩, ho⟩
    | succ j ih =>
      intro s hh hs o143 hW hG ho
      obtain ⟨G, hG⟩ := hG
      have fin : R MX3_such 3 0 0 (fun v h' z'_1 => v = some (.int (suchOf n k m)) ∧ z'_1 = z' ∧ shAt h' ∧ ∀ a, (a < 144 ∨ 152 ≤ a) → h' a = h a) 44 [.ref 143, .int (nI n), .int (nI k), .int (nI m), .int (en k m (s + 1)), .int (nI (s + 1))] [] hh z' 0 0 := by
        have c67 := c3_goOn hh o143 (tb k s) G hW hG (decide (s + 1 ≤ k)) (decide (s + 1 ≠ k)) z'
        have fin2 : ∀ (v : Option Value) h' z'_1, (v = none ∧ z'_1 = z' ∧ gridAt h' 144 (goT (tb k s) (decide (s + 1 ≤ k)) (decide (s + 1 ≠ k))) ∧ (∃ G', gridAt h' 148 G') ∧ ∀ a, (a < 144 ∨ 152 ≤ a) → h' a = hh a) → R MX3_such 3 0 0 (fun v h' z'_1 => v = some (.int (suchOf n k m)) ∧ z'_1 = z' ∧ shAt h' ∧ ∀ a, (a < 144 ∨ 152 ≤ a) → h' a = h a) 70 [.ref 143, .int (nI n), .int (nI k), .int (nI m), .int (en k m (s + 1)), .int (nI (s + 1))] [] h' z'_1 0 0 := by
          rintro v h' z9 ⟨-, rfl, q1, q2, q3⟩
          refine r_iinc_5 iX3_such_70 (by first | exact nI_inc _ | rfl) rfl ?_
          refine r_goto iX3_such_73 ?_
          exact ih (s + 1) h' (by omega) ((q3 143 (by omega)).trans o143) q1 q2 (fun a ha => (q3 a ha).trans (ho a ha))
        by_cases g1 : s + 1 ≤ k
        · by_cases g2 : s + 1 = k
          · refine r_aload iX3_such_44 rfl ?_
            refine r_iload iX3_such_45 rfl ?_
            refine r_iload iX3_such_47 rfl ?_
            refine r_icmp_gt iX3_such_48 (fun g9 => absurd g9 (nI_nlt (by omega) (by omega))) (fun _ => ?_)
            refine r_iconst (v := 1) iX3_such_51 rfl ?_
            refine r_goto iX3_such_52 ?_
            refine r_iload iX3_such_56 rfl ?_
            refine r_iload iX3_such_58 rfl ?_
            refine r_icmp_eq iX3_such_59 (fun _ => ?_) (fun g9 => absurd (by rw [g2]) g9)
            refine r_iconst (v := 0) iX3_such_66 rfl ?_
            rw [decide_eq_true g1, decide_eq_false (fun q => q g2)] at c67
            refine r_callV iX3_such_67 (cX3_27 _ rfl) (c67) (by omega) (by assumption) rfl rfl rfl (Nat.le_of_ble_eq_true rfl) (by first | exact Nat.le_of_ble_eq_true rfl | omega) (by first | exact Nat.le_of_ble_eq_true rfl | omega) ?_
            rintro v h' z9 ⟨rfl, e⟩
            rw [decide_eq_true g1, decide_eq_false (fun q => q g2)] at fin2
            exact fin2 none h' z9 ⟨rfl, e⟩
          · refine r_aload iX3_such_44 rfl ?_
            refine r_iload iX3_such_45 rfl ?_
            refine r_iload iX3_such_47 rfl ?_
            refine r_icmp_gt iX3_such_48 (fun g9 => absurd g9 (nI_nlt (by omega) (by omega))) (fun _ => ?_)
            refine r_iconst (v := 1) iX3_such_51 rfl ?_
            refine r_goto iX3_such_52 ?_
            refine r_iload iX3_such_56 rfl ?_
            refine r_iload iX3_such_58 rfl ?_
            refine r_icmp_eq iX3_such_59 (fun g9 => absurd g9 (fun q => g2 ((nI_eq (by omega) (by omega)).mp q))) (fun _ => ?_)
            refine r_iconst (v := 1) iX3_such_62 rfl ?_
            refine r_goto iX3_such_63 ?_
            rw [decide_eq_true g1, decide_eq_true g2] at c67
            refine r_callV iX3_such_67 (cX3_27 _ rfl) (c67) (by omega) (by assumption) rfl rfl rfl (Nat.le_of_ble_eq_true rfl) (by first | exact Nat.le_of_ble_eq_true rfl | omega) (by first | exact Nat.le_of_ble_eq_true rfl | omega) ?_
            rintro v h' z9 ⟨rfl, e⟩
            rw [decide_eq_true g1, decide_eq_true g2] at fin2
            exact fin2 none h' z9 ⟨rfl, e⟩
        · have g2 : s + 1 ≠ k := by omega
          refine r_aload iX3_such_44 rfl ?_
          refine r_iload iX3_such_45 rfl ?_
          refine r_iload iX3_such_47 rfl ?_
          refine r_icmp_gt iX3_such_48 (fun _ => ?_) (fun g9 => absurd (nI_lt (by omega) (by omega)) g9)
          refine r_iconst (v := 0) iX3_such_55 rfl ?_
          refine r_iload iX3_such_56 rfl ?_
          refine r_iload iX3_such_58 rfl ?_
          refine r_icmp_eq iX3_such_59 (fun g9 => absurd g9 (fun q => g2 ((nI_eq (by omega) (by omega)).mp q))) (fun _ => ?_)
          refine r_iconst (v := 1) iX3_such_62 rfl ?_
          refine r_goto iX3_such_63 ?_
          rw [decide_eq_false g1, decide_eq_true g2] at c67
          refine r_callV iX3_such_67 (cX3_27 _ rfl) (c67) (by omega) (by assumption) rfl rfl rfl (Nat.le_of_ble_eq_true rfl) (by first | exact Nat.le_of_ble_eq_true rfl | omega) (by first | exact Nat.le_of_ble_eq_true rfl | omega) ?_
          rintro v h' z9 ⟨rfl, e⟩
          rw [decide_eq_false g1, decide_eq_true g2] at fin2
          exact fin2 none h' z9 ⟨rfl, e⟩
      by_cases g : k < s + 1
      · refine r_iload iX3_such_22 rfl ?_
        refine r_iload iX3_such_24 rfl ?_
        refine r_icmp_gt iX3_such_25 (fun g9 => absurd g9 (nI_nlt (by omega) (by omega))) (fun _ => ?_)
        refine r_iload iX3_such_28 rfl ?_
        refine r_iload iX3_such_30 rfl ?_
        refine r_icmp_le iX3_such_31 (fun g9 => absurd g9 (nI_ge (by omega) (by omega))) (fun _ => ?_)
        refine r_iload iX3_such_34 rfl ?_
        refine r_aload iX3_such_36 rfl ?_
        refine r_iload iX3_such_37 rfl ?_
        refine r_callV iX3_such_38 (cX3_23 _ rfl) (c3_outHere hh o143 (tb k s) hW m hm _) (by omega) (by assumption) rfl rfl rfl (Nat.le_of_ble_eq_true rfl) (by first | exact Nat.le_of_ble_eq_true rfl | omega) (by first | exact Nat.le_of_ble_eq_true rfl | omega) ?_
        rintro v h' z9 ⟨rfl, qh, rfl⟩
        rw [qh]
        refine r_iadd iX3_such_41 ?_
        refine r_istore_4 iX3_such_42 rfl ?_
        rw [en_s1 g] at fin
        exact fin
      · refine r_iload iX3_such_22 rfl ?_
        refine r_iload iX3_such_24 rfl ?_
        refine r_icmp_gt iX3_such_25 (fun g9 => absurd g9 (nI_nlt (by omega) (by omega))) (fun _ => ?_)
        refine r_iload iX3_such_28 rfl ?_
        refine r_iload iX3_such_30 rfl ?_
        refine r_icmp_le iX3_such_31 (fun _ => ?_) (fun g9 => absurd (nI_le (by omega) (by omega)) g9)
        rw [en_s0 g] at fin
        exact fin
  exact loop n 0 h2 (by omega) o2 hW2 ⟨_, hG2⟩ ho2
theorem c6_sheets_out {h : Hp} (n k m : Int32) (hx : n < 1 ∨ 6 < n ∨ k < 0 ∨ n < k ∨ m < 0 ∨ 18 < m) : PU MX6_sheets 4 [.ref 2, .int n, .int k, .int m] h (.int (-2)) (fun h' => h' = h) := by
  intro z
  refine Cal_of_R (by decide +kernel) (L := [.ref 2, .int n, .int k, .int m]) rfl (Nat.le_of_ble_eq_true rfl) ?_
  by_cases h1 : n < 1
  · refine r_iload iX6_sheets_0 rfl ?_
    refine r_iconst (v := 1) iX6_sheets_1 rfl ?_
    refine r_icmp_lt iX6_sheets_2 (fun _ => ?_) (fun g9 => absurd (h1) g9)
    refine r_bipush (v := (-2)) iX6_sheets_30 rfl ?_
    refine r_iret iX6_sheets_32 rfl ?_
    exact ⟨rfl, rfl, rfl, fun _ _ => rfl⟩
  by_cases h2 : 6 < n
  · refine r_iload iX6_sheets_0 rfl ?_
    refine r_iconst (v := 1) iX6_sheets_1 rfl ?_
    refine r_icmp_lt iX6_sheets_2 (fun g9 => absurd g9 (h1)) (fun _ => ?_)
    refine r_iload iX6_sheets_5 rfl ?_
    refine r_bipush (v := 6) iX6_sheets_6 rfl ?_
    refine r_icmp_gt iX6_sheets_8 (fun _ => ?_) (fun g9 => absurd (h2) g9)
    refine r_bipush (v := (-2)) iX6_sheets_30 rfl ?_
    refine r_iret iX6_sheets_32 rfl ?_
    exact ⟨rfl, rfl, rfl, fun _ _ => rfl⟩
  by_cases h3 : k < 0
  · refine r_iload iX6_sheets_0 rfl ?_
    refine r_iconst (v := 1) iX6_sheets_1 rfl ?_
    refine r_icmp_lt iX6_sheets_2 (fun g9 => absurd g9 (h1)) (fun _ => ?_)
    refine r_iload iX6_sheets_5 rfl ?_
    refine r_bipush (v := 6) iX6_sheets_6 rfl ?_
    refine r_icmp_gt iX6_sheets_8 (fun g9 => absurd g9 (h2)) (fun _ => ?_)
    refine r_iload iX6_sheets_11 rfl ?_
    refine r_if_lt iX6_sheets_12 (fun _ => ?_) (fun g9 => absurd (h3) g9)
    refine r_bipush (v := (-2)) iX6_sheets_30 rfl ?_
    refine r_iret iX6_sheets_32 rfl ?_
    exact ⟨rfl, rfl, rfl, fun _ _ => rfl⟩
  by_cases h4 : n < k
  · refine r_iload iX6_sheets_0 rfl ?_
    refine r_iconst (v := 1) iX6_sheets_1 rfl ?_
    refine r_icmp_lt iX6_sheets_2 (fun g9 => absurd g9 (h1)) (fun _ => ?_)
    refine r_iload iX6_sheets_5 rfl ?_
    refine r_bipush (v := 6) iX6_sheets_6 rfl ?_
    refine r_icmp_gt iX6_sheets_8 (fun g9 => absurd g9 (h2)) (fun _ => ?_)
    refine r_iload iX6_sheets_11 rfl ?_
    refine r_if_lt iX6_sheets_12 (fun g9 => absurd g9 (h3)) (fun _ => ?_)
    refine r_iload iX6_sheets_15 rfl ?_
    refine r_iload iX6_sheets_16 rfl ?_
    refine r_icmp_gt iX6_sheets_17 (fun _ => ?_) (fun g9 => absurd (h4) g9)
    refine r_bipush (v := (-2)) iX6_sheets_30 rfl ?_
    refine r_iret iX6_sheets_32 rfl ?_
    exact ⟨rfl, rfl, rfl, fun _ _ => rfl⟩
  by_cases h5 : m < 0
  · refine r_iload iX6_sheets_0 rfl ?_
    refine r_iconst (v := 1) iX6_sheets_1 rfl ?_
    refine r_icmp_lt iX6_sheets_2 (fun g9 => absurd g9 (h1)) (fun _ => ?_)
    refine r_iload iX6_sheets_5 rfl ?_
    refine r_bipush (v := 6) iX6_sheets_6 rfl ?_
    refine r_icmp_gt iX6_sheets_8 (fun g9 => absurd g9 (h2)) (fun _ => ?_)
    refine r_iload iX6_sheets_11 rfl ?_
    refine r_if_lt iX6_sheets_12 (fun g9 => absurd g9 (h3)) (fun _ => ?_)
    refine r_iload iX6_sheets_15 rfl ?_
    refine r_iload iX6_sheets_16 rfl ?_
    refine r_icmp_gt iX6_sheets_17 (fun g9 => absurd g9 (h4)) (fun _ => ?_)
    refine r_iload iX6_sheets_20 rfl ?_
    refine r_if_lt iX6_sheets_21 (fun _ => ?_) (fun g9 => absurd (h5) g9)
    refine r_bipush (v := (-2)) iX6_sheets_30 rfl ?_
    refine r_iret iX6_sheets_32 rfl ?_
    exact ⟨rfl, rfl, rfl, fun _ _ => rfl⟩
  · have h6 : ¬ m ≤ 18 := fun q => absurd q (Int32.not_le.mpr (by
      rcases hx with q | q | q | q | q | q
      · exact absurd q h1
      · exact absurd q h2
      · exact absurd q h3
      · exact absurd q h4
      · exact absurd q h5
      · exact q))
    refine r_iload iX6_sheets_0 rfl ?_
    refine r_iconst (v := 1) iX6_sheets_1 rfl ?_
    refine r_icmp_lt iX6_sheets_2 (fun g9 => absurd g9 (h1)) (fun _ => ?_)
    refine r_iload iX6_sheets_5 rfl ?_
    refine r_bipush (v := 6) iX6_sheets_6 rfl ?_
    refine r_icmp_gt iX6_sheets_8 (fun g9 => absurd g9 (h2)) (fun _ => ?_)
    refine r_iload iX6_sheets_11 rfl ?_
    refine r_if_lt iX6_sheets_12 (fun g9 => absurd g9 (h3)) (fun _ => ?_)
    refine r_iload iX6_sheets_15 rfl ?_
    refine r_iload iX6_sheets_16 rfl ?_
    refine r_icmp_gt iX6_sheets_17 (fun g9 => absurd g9 (h4)) (fun _ => ?_)
    refine r_iload iX6_sheets_20 rfl ?_
    refine r_if_lt iX6_sheets_21 (fun g9 => absurd g9 (h5)) (fun _ => ?_)
    refine r_iload iX6_sheets_24 rfl ?_
    refine r_bipush (v := 18) iX6_sheets_25 rfl ?_
    refine r_icmp_le iX6_sheets_27 (fun g9 => absurd g9 (h6)) (fun _ => ?_)
    refine r_bipush (v := (-2)) iX6_sheets_30 rfl ?_
    refine r_iret iX6_sheets_32 rfl ?_
    exact ⟨rfl, rfl, rfl, fun _ _ => rfl⟩
theorem c6_sheets {h : Hp} {T : Tx} {K : Cn} {sz nx : Nat} {W sl : Nat → Cn} {kp : Nat → Int32} {seed : Int64} (H : cls h T K sz nx W sl kp seed) (n k m : Nat) (h1 : 1 ≤ n) (h6 : n ≤ 6) (hk : k ≤ n) (hm : m ≤ 18) : PU MX6_sheets 4 [.ref 2, .int (nI n), .int (nI k), .int (nI m)] h (.int (suchOf n k m)) (fun h' => cls h' T K sz nx W sl kp seed) := by
  obtain ⟨tr, pt, h_obj, h_tx, h_cu, h_tr, h_ac, h_sl, h_kp, h_pt, h_sh⟩ := id H
  intro z
  refine Cal_of_R (by decide +kernel) (L := [.ref 2, .int (nI n), .int (nI k), .int (nI m)]) rfl (Nat.le_of_ble_eq_true rfl) ?_
  refine r_iload iX6_sheets_0 rfl ?_
  refine r_iconst (v := 1) iX6_sheets_1 rfl ?_
  refine r_icmp_lt iX6_sheets_2 (fun g9 => absurd g9 (nI_nlt (b := 1) (by omega) (by omega))) (fun _ => ?_)
  refine r_iload iX6_sheets_5 rfl ?_
  refine r_bipush (v := 6) iX6_sheets_6 rfl ?_
  refine r_icmp_gt iX6_sheets_8 (fun g9 => absurd g9 (nI_nlt (a := 6) (by omega) (by omega))) (fun _ => ?_)
  refine r_iload iX6_sheets_11 rfl ?_
  refine r_if_lt iX6_sheets_12 (fun g9 => absurd g9 (nI_pos (by omega))) (fun _ => ?_)
  refine r_iload iX6_sheets_15 rfl ?_
  refine r_iload iX6_sheets_16 rfl ?_
  refine r_icmp_gt iX6_sheets_17 (fun g9 => absurd g9 (nI_nlt (by omega) (by omega))) (fun _ => ?_)
  refine r_iload iX6_sheets_20 rfl ?_
  refine r_if_lt iX6_sheets_21 (fun g9 => absurd g9 (nI_pos (by omega))) (fun _ => ?_)
  refine r_iload iX6_sheets_24 rfl ?_
  refine r_bipush (v := 18) iX6_sheets_25 rfl ?_
  refine r_icmp_le iX6_sheets_27 (fun _ => ?_) (fun g9 => absurd (nI_le (b := 18) (by omega) (by omega)) g9)
  refine r_aload iX6_sheets_33 rfl ?_
  refine r_getfield iX6_sheets_34 (flX6_51 _ rfl) (h_obj) rfl ?_
  refine r_iload iX6_sheets_37 rfl ?_
  refine r_iload iX6_sheets_38 rfl ?_
  refine r_iload iX6_sheets_39 rfl ?_
  refine r_callV iX6_sheets_40 (cX6_178 _ rfl) (c3_such h h_sh n k m h6 (by omega) hm z) (by omega) (h_sh.1) rfl rfl rfl (Nat.le_of_ble_eq_true rfl) (by first | exact Nat.le_of_ble_eq_true rfl | omega) (by first | exact Nat.le_of_ble_eq_true rfl | omega) ?_
  rintro v h' z' ⟨rfl, rfl, hs, ho⟩
  refine r_iret iX6_sheets_43 rfl ?_
  exact ⟨rfl, rfl, H.sh (fun a ha => ho a (by omega)) hs, fun a ha => ho a (by omega)⟩
