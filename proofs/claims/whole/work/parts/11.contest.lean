/-! a contest: how many, the bar, who is on, the throwers; the class's Contest, six cells from c on -/
abbrev Cn : Type := Nat × Int32 × Int32 × (Nat → Nat → Int32)
def cOv (h : Hp) (c : Nat) (K : Cn) : Hp := fun a => if a < c then h a else if a = c then some (.inr (1, [.ref (c + 1), .int (nI K.1), .int K.2.1, .int K.2.2.1])) else if a = c + 1 then some (.inl (.object "UpWithSheaf$Thrower", 4, fun j => .ref (c + 2 + j))) else if a < c + 6 then some (thr (K.2.2.2 (a - (c + 2)))) else h a
theorem cOv_obj (h : Hp) (c : Nat) (K : Cn) : cOv h c K c = some (.inr (1, [.ref (c + 1), .int (nI K.1), .int K.2.1, .int K.2.2.1])) := by
  unfold cOv
  rw [if_neg (Nat.lt_irrefl c), if_pos rfl]
theorem cOv_arr (h : Hp) (c : Nat) (K : Cn) : cOv h c K (c + 1) = some (.inl (.object "UpWithSheaf$Thrower", 4, fun j => .ref (c + 2 + j))) := by
  unfold cOv
  rw [if_neg (by omega), if_neg (by omega), if_pos rfl]
theorem cOv_thr (h : Hp) (c : Nat) (K : Cn) {i : Nat} (hi : i < 4) : cOv h c K (c + 2 + i) = some (thr (K.2.2.2 i)) := by
  unfold cOv
  rw [if_neg (by omega), if_neg (by omega), if_neg (by omega), if_pos (by omega), show c + 2 + i - (c + 2) = i by omega]
theorem cOv_out (h : Hp) (c : Nat) (K : Cn) {a : Nat} (ha : a < c ∨ c + 6 ≤ a) : cOv h c K a = h a := by
  unfold cOv
  by_cases h1 : a < c
  · rw [if_pos h1]
  · rw [if_neg h1, if_neg (by omega), if_neg (by omega), if_neg (by omega)]
theorem cOv_set (h : Hp) (c n : Nat) (b u : Int32) (t : Nat → Nat → Int32) (n' : Nat) (b' u' : Int32) : hset (cOv h c (n, b, u, t)) c (.inr (1, [.ref (c + 1), .int (nI n'), .int b', .int u'])) = cOv h c (n', b', u', t) := by
  funext a
  by_cases ha : a = c
  · subst ha
    rw [hset_eq, cOv_obj]
  · rw [hset_ne _ _ ha]
    unfold cOv
    by_cases h1 : a < c
    · rw [if_pos h1, if_pos h1]
    · rw [if_neg h1, if_neg h1, if_neg ha, if_neg ha]
def upT (t : Nat → Nat → Int32) (i : Nat) (k : Nat → Int32) : Nat → Nat → Int32 := fun j => if j = i then k else t j
theorem cOv_setT (h : Hp) (c n : Nat) (b u : Int32) (t : Nat → Nat → Int32) {i : Nat} (hi : i < 4) (k : Nat → Int32) : hset (cOv h c (n, b, u, t)) (c + 2 + i) (thr k) = cOv h c (n, b, u, upT t i k) := by
  funext a
  by_cases ha : a = c + 2 + i
  · subst ha
    rw [hset_eq, cOv_thr h c _ hi]
    show _ = some (thr (upT t i k i))
    rw [upT, if_pos rfl]
  · rw [hset_ne _ _ ha]
    unfold cOv
    by_cases h1 : a < c
    · rw [if_pos h1, if_pos h1]
    · rw [if_neg h1, if_neg h1]
      by_cases h2 : a = c
      · rw [if_pos h2, if_pos h2]
      · rw [if_neg h2, if_neg h2]
        by_cases h3 : a = c + 1
        · rw [if_pos h3, if_pos h3]
        · rw [if_neg h3, if_neg h3]
          by_cases h4 : a < c + 6
          · rw [if_pos h4, if_pos h4]
            show some (thr (t (a - (c + 2)))) = some (thr (upT t i k (a - (c + 2))))
            rw [upT, if_neg (by omega)]
          · rw [if_neg h4, if_neg h4]
theorem cOv_self {h : Hp} {c : Nat} {K : Cn} (h0 : h c = some (.inr (1, [.ref (c + 1), .int (nI K.1), .int K.2.1, .int K.2.2.1]))) (h1 : h (c + 1) = some (.inl (.object "UpWithSheaf$Thrower", 4, fun j => .ref (c + 2 + j)))) (h2 : ∀ i, i < 4 → h (c + 2 + i) = some (thr (K.2.2.2 i))) : cOv h c K = h := by
  funext a
  unfold cOv
  by_cases g1 : a < c
  · rw [if_pos g1]
  · rw [if_neg g1]
    by_cases g2 : a = c
    · rw [if_pos g2, g2, h0]
    · rw [if_neg g2]
      by_cases g3 : a = c + 1
      · rw [if_pos g3, g3, h1]
      · rw [if_neg g3]
        by_cases g4 : a < c + 6
        · rw [if_pos g4, ← h2 (a - (c + 2)) (by omega), show c + 2 + (a - (c + 2)) = a by omega]
        · rw [if_neg g4]
theorem cOv_cOv (h : Hp) (c : Nat) (K K' : Cn) : cOv (cOv h c K) c K' = cOv h c K' := by
  funext a
  by_cases g : a < c ∨ c + 6 ≤ a
  · rw [cOv_out _ c K' g, cOv_out _ c K g, cOv_out _ c K' g]
  · have g1 : ¬ a < c := fun q => g (Or.inl q)
    have g4 : a < c + 6 := by omega
    by_cases g2 : a = c
    · subst g2; rw [cOv_obj, cOv_obj]
    · by_cases g3 : a = c + 1
      · subst g3; rw [cOv_arr, cOv_arr]
      · obtain ⟨i, rfl⟩ : ∃ i, a = c + 2 + i := ⟨a - (c + 2), by omega⟩
        rw [cOv_thr _ _ _ (by omega), cOv_thr _ _ _ (by omega)]
theorem r_csize {M : MD} {d mc ms pc pc' z k m : Nat} {Q : Option Value → Hp → Nat → Prop} {L S : List Value} {h : Hp} {idx c n n' : Nat} {b u : Int32} {t : Nat → Nat → Int32} (hi : Ins M pc (.putfield idx) 3 pc') (hl : FP M idx 1 1 .int) (hc : 2 ≤ c) (K : R M d mc ms Q pc' L S (cOv h c (n', b, u, t)) z k m) : R M d mc ms Q pc L (.int (nI n') :: .ref c :: S) (cOv h c (n, b, u, t)) z k m :=
  r_putfield hi hl hc (cOv_obj _ _ _) (Nat.le_of_ble_eq_true rfl) ⟨rfl, rfl⟩ (by have e := cOv_set h c n b u t n' b u; exact e ▸ K)
theorem r_cbar {M : MD} {d mc ms pc pc' z k m : Nat} {Q : Option Value → Hp → Nat → Prop} {L S : List Value} {h : Hp} {idx c n : Nat} {b b' u : Int32} {t : Nat → Nat → Int32} (hi : Ins M pc (.putfield idx) 3 pc') (hl : FP M idx 1 2 .int) (hc : 2 ≤ c) (K : R M d mc ms Q pc' L S (cOv h c (n, b', u, t)) z k m) : R M d mc ms Q pc L (.int b' :: .ref c :: S) (cOv h c (n, b, u, t)) z k m :=
  r_putfield hi hl hc (cOv_obj _ _ _) (Nat.le_of_ble_eq_true rfl) ⟨rfl, rfl⟩ (by have e := cOv_set h c n b u t n b' u; exact e ▸ K)
theorem r_cturn {M : MD} {d mc ms pc pc' z k m : Nat} {Q : Option Value → Hp → Nat → Prop} {L S : List Value} {h : Hp} {idx c n : Nat} {b u u' : Int32} {t : Nat → Nat → Int32} (hi : Ins M pc (.putfield idx) 3 pc') (hl : FP M idx 1 3 .int) (hc : 2 ≤ c) (K : R M d mc ms Q pc' L S (cOv h c (n, b, u', t)) z k m) : R M d mc ms Q pc L (.int u' :: .ref c :: S) (cOv h c (n, b, u, t)) z k m :=
  r_putfield hi hl hc (cOv_obj _ _ _) (Nat.le_of_ble_eq_true rfl) ⟨rfl, rfl⟩ (by have e := cOv_set h c n b u t n b u'; exact e ▸ K)
theorem thr_ix (c : Nat) {i : Nat} (hi : i < 4) : (fun j : Nat => Value.ref (c + 2 + j)) (nI i).toNatClampNeg = .ref (c + 2 + i) := by
  show Value.ref (c + 2 + (nI i).toNatClampNeg) = _
  rw [nI_clamp (by omega)]
theorem in4 {i : Nat} (hi : i < 4) : vp_in (nI i) 4 := vp_in_nI hi (by decide)
theorem Pr_to {M : MD} {d : Nat} {A : List Value} {h h1 h2 : Hp} {r : Option Value} (e : h1 = h2) (H : Pr M d A h r h1) : Pr M d A h r h2 := e ▸ H
theorem c2_knows (h : Hp) (c : Nat) {n : Nat} (hn : n ≤ 4) (b u : Int32) (t : Nat → Nat → Int32) (x : Int32) : Fn MX2_knows 0 [.ref c, .int x] (cOv h c (n, b, u, t)) (some (.int (if 0 ≤ x ∧ x < nI n then 1 else 0))) := by
  intro z
  refine Cal_of_R (by decide +kernel) (L := [.ref c, .int x]) rfl (Nat.le_of_ble_eq_true rfl) ?_
  refine r_iload iX2_knows_0 rfl ?_
  refine r_if_lt iX2_knows_1 (fun g1 => ?_) (fun g1 => ?_)
  · refine r_iconst (v := 0) iX2_knows_16 rfl ?_
    refine r_zret iX2_knows_17 rfl (Or.inl rfl) ?_
    rw [if_neg (fun q => Int32.not_lt.mpr q.1 g1)]; exact ⟨rfl, rfl, rfl⟩
  · refine r_iload iX2_knows_4 rfl ?_
    refine r_aload iX2_knows_5 rfl ?_
    refine r_getfield iX2_knows_6 (flX2_18 _ rfl) (cOv_obj _ _ _) rfl ?_
    refine r_icmp_ge iX2_knows_9 (fun g2 => ?_) (fun g2 => ?_)
    · refine r_iconst (v := 0) iX2_knows_16 rfl ?_
      refine r_zret iX2_knows_17 rfl (Or.inl rfl) ?_
      rw [if_neg (fun q => Int32.not_le.mpr q.2 g2)]; exact ⟨rfl, rfl, rfl⟩
    · refine r_iconst (v := 1) iX2_knows_12 rfl ?_
      refine r_goto iX2_knows_13 ?_
      refine r_zret iX2_knows_17 rfl (Or.inr rfl) ?_
      rw [if_pos ⟨Int32.not_lt.mp g1, Int32.not_le.mp g2⟩]; exact ⟨rfl, rfl, rfl⟩
/-- who is on next, from f on round and round -/
def nxt (n : Nat) (t : Nat → Nat → Int32) (f : Nat) : Nat → Int32
  | 0 => -9
  | j + 1 => if t ((f + (n - (j + 1))) % n) 7 = 0 then nI ((f + (n - (j + 1))) % n) else nxt n t f j
theorem i_ks {n i : Nat} (hn : n ≤ 4) (hi : i < n) : (if 0 ≤ nI i ∧ nI i < nI n then (1 : Int32) else 0) = 1 := if_pos ⟨nI_pos' (by omega), nI_lt hi (by omega)⟩
theorem c2_nextBehind (h : Hp) (c : Nat) {n : Nat} (hn : n ≤ 4) (b u : Int32) (t : Nat → Nat → Int32) (x : Int32) {f : Nat} (hx : x + 1 = nI f) (hf : f ≤ n) : Fn MX2_nextBehind 1 [.ref c, .int x] (cOv h c (n, b, u, t)) (some (.int (nxt n t f n))) := by
  intro z
  refine Cal_of_R (by decide +kernel) (L := [.ref c, .int x, .null, .null]) rfl (Nat.le_of_ble_eq_true rfl) ?_
  have loop : ∀ (j p : Nat) (w : Value), p + j = n → nxt n t f j = nxt n t f n → R MX2_nextBehind 1 0 0 (fun v h' z' => v = some (.int (nxt n t f n)) ∧ h' = cOv h c (n, b, u, t) ∧ z' = z) 2 [.ref c, .int x, .int (nI (p + 1)), w] [] (cOv h c (n, b, u, t)) z 0 0 := by
    intro j
    induction j with
    | zero =>
      intro p w hp hr
      refine r_iload iX2_nextBehind_2 rfl ?_
      refine r_aload iX2_nextBehind_3 rfl ?_
      refine r_getfield iX2_nextBehind_4 (flX2_18 _ rfl) (cOv_obj _ _ _) rfl ?_
      refine r_icmp_gt iX2_nextBehind_7 (fun _ => ?_) (fun g9 => absurd (nI_lt (by omega) (by omega)) g9)
      refine r_bipush (v := (-9)) iX2_nextBehind_57 rfl ?_
      refine r_iret iX2_nextBehind_59 rfl ?_
      exact ⟨by rw [← hr]; rfl, rfl, rfl⟩
    | succ j ih =>
      intro p w hp hr
      have hq0 : n - (j + 1) = p := by omega
      rw [nxt, hq0] at hr
      have tail : ∀ q : Nat, q = (f + p) % n → R MX2_nextBehind 1 0 0 (fun v h' z' => v = some (.int (nxt n t f n)) ∧ h' = cOv h c (n, b, u, t) ∧ z' = z) 29 [.ref c, .int x, .int (nI (p + 1)), .int (nI q)] [] (cOv h c (n, b, u, t)) z 0 0 := by
        intro q hq
        have hqn : q < n := by rw [hq]; exact Nat.mod_lt _ (by omega)
        rw [← hq] at hr
        refine r_aload iX2_nextBehind_29 rfl ?_
        refine r_iload iX2_nextBehind_30 rfl ?_
        refine r_callV iX2_nextBehind_31 (cX2_55 _ rfl) (c2_knows h c hn b u t (nI q) z) (by omega) (cOv_obj _ _ _) rfl rfl rfl (Nat.le_of_ble_eq_true rfl) (by first | exact Nat.le_of_ble_eq_true rfl | omega) (by first | exact Nat.le_of_ble_eq_true rfl | omega) ?_
        rintro v h' z' ⟨rfl, rfl, rfl⟩
        rw [i_ks hn hqn]
        refine r_if_eq iX2_nextBehind_34 (fun g9 => absurd g9 (by decide)) (fun _ => ?_)
        refine r_aload iX2_nextBehind_37 rfl ?_
        refine r_getfield iX2_nextBehind_38 (flX2_11 _ rfl) (cOv_obj _ _ _) rfl ?_
        refine r_iload iX2_nextBehind_41 rfl ?_
        refine r_aaload iX2_nextBehind_42 rfl (cOv_arr _ _ _) (in4 (by omega)) (thr_ix c (by omega)) ?_
        refine r_callV iX2_nextBehind_43 (cX2_75 _ rfl) (c5_mayTry _ (t q) (cOv_thr h c (n, b, u, t) (by omega)) _) (by omega) (cOv_thr _ _ _ (by omega)) rfl rfl rfl (Nat.le_of_ble_eq_true rfl) (by first | exact Nat.le_of_ble_eq_true rfl | omega) (by first | exact Nat.le_of_ble_eq_true rfl | omega) ?_
        rintro v h' z' ⟨rfl, rfl, rfl⟩
        by_cases g : t q 7 = 0
        · rw [if_pos g]
          rw [if_pos g] at hr
          refine r_if_eq iX2_nextBehind_46 (fun g9 => absurd g9 (by decide)) (fun _ => ?_)
          refine r_iload iX2_nextBehind_49 rfl ?_
          refine r_iret iX2_nextBehind_50 rfl ?_
          exact ⟨by rw [← hr], rfl, rfl⟩
        · rw [if_neg g]
          rw [if_neg g] at hr
          refine r_if_eq iX2_nextBehind_46 (fun _ => ?_) (fun g9 => absurd (rfl) g9)
          refine r_iinc_2 iX2_nextBehind_51 (by first | exact nI_inc _ | rfl) rfl ?_
          refine r_goto iX2_nextBehind_54 ?_
          exact ih (p + 1) _ (by omega) hr
      refine r_iload iX2_nextBehind_2 rfl ?_
      refine r_aload iX2_nextBehind_3 rfl ?_
      refine r_getfield iX2_nextBehind_4 (flX2_18 _ rfl) (cOv_obj _ _ _) rfl ?_
      refine r_icmp_gt iX2_nextBehind_7 (fun g9 => absurd g9 (nI_nlt (by omega) (by omega))) (fun _ => ?_)
      refine r_iload iX2_nextBehind_10 rfl ?_
      refine r_iload iX2_nextBehind_11 rfl ?_
      refine r_iadd iX2_nextBehind_12 ?_
      have e1 : x + nI (p + 1) = nI (f + p) := by rw [nI_succ, ← nI_add, ← hx]; ac_rfl
      rw [e1]
      refine r_istore_3 iX2_nextBehind_13 rfl ?_
      refine r_iload iX2_nextBehind_14 rfl ?_
      refine r_aload iX2_nextBehind_15 rfl ?_
      refine r_getfield iX2_nextBehind_16 (flX2_18 _ rfl) (cOv_obj _ _ _) rfl ?_
      refine r_icmp_lt iX2_nextBehind_19 (fun g => ?_) (fun g => ?_)
      · have g2 := (nI_ltI (by omega) (by omega)).mp g
        exact tail (f + p) (Nat.mod_eq_of_lt g2).symm
      · have g2 : ¬ f + p < n := fun q => g ((nI_ltI (by omega) (by omega)).mpr q)
        refine r_iload iX2_nextBehind_22 rfl ?_
        refine r_aload iX2_nextBehind_23 rfl ?_
        refine r_getfield iX2_nextBehind_24 (flX2_18 _ rfl) (cOv_obj _ _ _) rfl ?_
        refine r_isub iX2_nextBehind_27 ?_
        rw [pk_sub (show n ≤ f + p by omega)]
        refine r_istore_3 iX2_nextBehind_28 rfl ?_
        exact tail (f + p - n) (by rw [Nat.mod_eq_sub_mod (by omega), Nat.mod_eq_of_lt (by omega)])
  refine r_iconst (v := 1) iX2_nextBehind_0 rfl ?_
  refine r_istore_2 iX2_nextBehind_1 rfl ?_
  exact loop n 0 _ (by omega) rfl
theorem c2_isEnded (h : Hp) (c : Nat) {n : Nat} (hn : n ≤ 4) (b u : Int32) (t : Nat → Nat → Int32) : Fn MX2_isEnded 1 [.ref c] (cOv h c (n, b, u, t)) (some (.int (if 0 ≤ u ∧ u < nI n then 0 else 1))) := by
  intro z
  refine Cal_of_R (by decide +kernel) (L := [.ref c]) rfl (Nat.le_of_ble_eq_true rfl) ?_
  refine r_aload iX2_isEnded_0 rfl ?_
  refine r_aload iX2_isEnded_1 rfl ?_
  refine r_getfield iX2_isEnded_2 (flX2_25 _ rfl) (cOv_obj _ _ _) rfl ?_
  refine r_callV iX2_isEnded_5 (cX2_55 _ rfl) (c2_knows h c hn b u t u _) (by omega) (cOv_obj _ _ _) rfl rfl rfl (Nat.le_of_ble_eq_true rfl) (by first | exact Nat.le_of_ble_eq_true rfl | omega) (by first | exact Nat.le_of_ble_eq_true rfl | omega) ?_
  rintro v h' z' ⟨rfl, rfl, rfl⟩
  by_cases g : 0 ≤ u ∧ u < nI n
  · rw [if_pos g, if_pos g]
    refine r_if_ne iX2_isEnded_8 (fun _ => ?_) (fun g9 => absurd g9 (by decide))
    refine r_iconst (v := 0) iX2_isEnded_15 rfl ?_
    refine r_zret iX2_isEnded_16 rfl (Or.inl rfl) ?_
    exact ⟨rfl, rfl, rfl⟩
  · rw [if_neg g, if_neg g]
    refine r_if_ne iX2_isEnded_8 (fun g9 => absurd (rfl) g9) (fun _ => ?_)
    refine r_iconst (v := 1) iX2_isEnded_11 rfl ?_
    refine r_goto iX2_isEnded_12 ?_
    refine r_zret iX2_isEnded_16 rfl (Or.inr rfl) ?_
    exact ⟨rfl, rfl, rfl⟩
/-- who of the first ones, as bits -/
def bitsI (p : Nat → Bool) : Nat → Int32
  | 0 => 0
  | i + 1 => if p i = true then bitsI p i ||| ((1 : Int32) <<< (nI i &&& 31)) else bitsI p i
theorem c2_who (h : Hp) (c : Nat) {n : Nat} (hn : n ≤ 4) (b u : Int32) (t : Nat → Nat → Int32) (x : Int32) : Fn MX2_who 0 [.ref c, .int x] (cOv h c (n, b, u, t)) (some (.int (bitsI (fun j => decide (t j 7 = x)) n))) := by
  intro z
  refine Cal_of_R (by decide +kernel) (L := [.ref c, .int x, .null, .null]) rfl (Nat.le_of_ble_eq_true rfl) ?_
  have loop : ∀ (j p : Nat), p + j = n → R MX2_who 0 0 0 (fun v h' z' => v = some (.int (bitsI (fun j => decide (t j 7 = x)) n)) ∧ h' = cOv h c (n, b, u, t) ∧ z' = z) 4 [.ref c, .int x, .int (bitsI (fun j => decide (t j 7 = x)) p), .int (nI p)] [] (cOv h c (n, b, u, t)) z 0 0 := by
    intro j
    induction j with
    | zero =>
      intro p hp
      refine r_iload iX2_who_4 rfl ?_
      refine r_aload iX2_who_5 rfl ?_
      refine r_getfield iX2_who_6 (flX2_18 _ rfl) (cOv_obj _ _ _) rfl ?_
      refine r_icmp_ge iX2_who_9 (fun _ => ?_) (fun g9 => absurd (nI_le (by omega) (by omega)) g9)
      refine r_iload iX2_who_37 rfl ?_
      refine r_iret iX2_who_38 rfl ?_
      exact ⟨by rw [show p = n by omega], rfl, rfl⟩
    | succ j ih =>
      intro p hp
      refine r_iload iX2_who_4 rfl ?_
      refine r_aload iX2_who_5 rfl ?_
      refine r_getfield iX2_who_6 (flX2_18 _ rfl) (cOv_obj _ _ _) rfl ?_
      refine r_icmp_ge iX2_who_9 (fun g9 => absurd g9 (nI_ge (by omega) (by omega))) (fun _ => ?_)
      refine r_aload iX2_who_12 rfl ?_
      refine r_getfield iX2_who_13 (flX2_11 _ rfl) (cOv_obj _ _ _) rfl ?_
      refine r_iload iX2_who_16 rfl ?_
      refine r_aaload iX2_who_17 rfl (cOv_arr _ _ _) (in4 (by omega)) (thr_ix c (by omega)) ?_
      refine r_getfield iX2_who_18 (flX2_91 _ rfl) (cOv_thr _ _ _ (by omega)) rfl ?_
      refine r_iload iX2_who_21 rfl ?_
      refine r_icmp_ne iX2_who_22 (fun g => ?_) (fun g => ?_)
      · have e : bitsI (fun j => decide (t j 7 = x)) p = bitsI (fun j => decide (t j 7 = x)) (p + 1) := by rw [bitsI, if_neg (by simpa using g)]
        rw [e]
        refine r_iinc_3 iX2_who_31 (by first | exact nI_inc _ | rfl) rfl ?_
        refine r_goto iX2_who_34 ?_
        exact ih (p + 1) (by omega)
      · refine r_iload iX2_who_25 rfl ?_
        refine r_iconst (v := 1) iX2_who_26 rfl ?_
        refine r_iload iX2_who_27 rfl ?_
        refine r_ishl iX2_who_28 ?_
        refine r_ior iX2_who_29 ?_
        have e : bitsI (fun j => decide (t j 7 = x)) p ||| ((1 : Int32) <<< (nI p &&& 31)) = bitsI (fun j => decide (t j 7 = x)) (p + 1) := by rw [bitsI, if_pos (by simpa using g)]
        rw [e]
        refine r_istore_2 iX2_who_30 rfl ?_
        refine r_iinc_3 iX2_who_31 (by first | exact nI_inc _ | rfl) rfl ?_
        refine r_goto iX2_who_34 ?_
        exact ih (p + 1) (by omega)
  refine r_iconst (v := 0) iX2_who_0 rfl ?_
  refine r_istore_2 iX2_who_1 rfl ?_
  refine r_iconst (v := 0) iX2_who_2 rfl ?_
  refine r_istore_3 iX2_who_3 rfl ?_
  exact loop n 0 (by omega)
theorem bits_not (p : Nat → Bool) : ∀ n, n ≤ 4 → (((1 : Int32) <<< (nI n &&& 31)) - 1) &&& (bitsI p n ^^^ (-1)) = bitsI (fun j => !p j) n := by
  intro n hn
  match n, hn with
  | 0, _ => simp only [bitsI, Bool.false_eq_true, if_false, if_true, Bool.not_true, Bool.not_false] <;> decide
  | 1, _ => cases h0 : p 0 <;> simp only [bitsI, h0, Bool.false_eq_true, if_false, if_true, Bool.not_true, Bool.not_false] <;> decide
  | 2, _ => cases h0 : p 0 <;> cases h1 : p 1 <;> simp only [bitsI, h0, h1, Bool.false_eq_true, if_false, if_true, Bool.not_true, Bool.not_false] <;> decide
  | 3, _ => cases h0 : p 0 <;> cases h1 : p 1 <;> cases h2 : p 2 <;> simp only [bitsI, h0, h1, h2, Bool.false_eq_true, if_false, if_true, Bool.not_true, Bool.not_false] <;> decide
  | 4, _ => cases h0 : p 0 <;> cases h1 : p 1 <;> cases h2 : p 2 <;> cases h3 : p 3 <;> simp only [bitsI, h0, h1, h2, h3, Bool.false_eq_true, if_false, if_true, Bool.not_true, Bool.not_false] <;> decide
def anyT (p : Nat → Bool) : Nat → Bool
  | 0 => false
  | i + 1 => anyT p i || p i
theorem bits_any (p : Nat → Bool) : ∀ n, n ≤ 4 → (bitsI p n = 0 ↔ anyT p n = false) := by
  intro n hn
  match n, hn with
  | 0, _ => simp only [bitsI, anyT, Bool.false_eq_true, if_false, if_true, Bool.not_true, Bool.not_false] <;> decide
  | 1, _ => cases h0 : p 0 <;> simp only [bitsI, anyT, h0, Bool.false_eq_true, if_false, if_true, Bool.not_true, Bool.not_false] <;> decide
  | 2, _ => cases h0 : p 0 <;> cases h1 : p 1 <;> simp only [bitsI, anyT, h0, h1, Bool.false_eq_true, if_false, if_true, Bool.not_true, Bool.not_false] <;> decide
  | 3, _ => cases h0 : p 0 <;> cases h1 : p 1 <;> cases h2 : p 2 <;> simp only [bitsI, anyT, h0, h1, h2, Bool.false_eq_true, if_false, if_true, Bool.not_true, Bool.not_false] <;> decide
  | 4, _ => cases h0 : p 0 <;> cases h1 : p 1 <;> cases h2 : p 2 <;> cases h3 : p 3 <;> simp only [bitsI, anyT, h0, h1, h2, h3, Bool.false_eq_true, if_false, if_true, Bool.not_true, Bool.not_false] <;> decide
def notOutP (t : Nat → Nat → Int32) (j : Nat) : Bool := !decide (t j 7 = 3)
theorem c2_notOut (h : Hp) (c : Nat) {n : Nat} (hn : n ≤ 4) (b u : Int32) (t : Nat → Nat → Int32) : Fn MX2_notOut 1 [.ref c] (cOv h c (n, b, u, t)) (some (.int (bitsI (notOutP t) n))) := by
  intro z
  refine Cal_of_R (by decide +kernel) (L := [.ref c]) rfl (Nat.le_of_ble_eq_true rfl) ?_
  refine r_iconst (v := 1) iX2_notOut_0 rfl ?_
  refine r_aload iX2_notOut_1 rfl ?_
  refine r_getfield iX2_notOut_2 (flX2_18 _ rfl) (cOv_obj _ _ _) rfl ?_
  refine r_ishl iX2_notOut_5 ?_
  refine r_iconst (v := 1) iX2_notOut_6 rfl ?_
  refine r_isub iX2_notOut_7 ?_
  refine r_aload iX2_notOut_8 rfl ?_
  refine r_iconst (v := 3) iX2_notOut_9 rfl ?_
  refine r_callV iX2_notOut_10 (cX2_94 _ rfl) (c2_who h c hn b u t 3 _) (by omega) (cOv_obj _ _ _) rfl rfl rfl (Nat.le_of_ble_eq_true rfl) (by first | exact Nat.le_of_ble_eq_true rfl | omega) (by first | exact Nat.le_of_ble_eq_true rfl | omega) ?_
  rintro v h' z' ⟨rfl, rfl, rfl⟩
  refine r_iconst (v := (-1)) iX2_notOut_13 rfl ?_
  refine r_ixor iX2_notOut_14 ?_
  refine r_iand iX2_notOut_15 ?_
  refine r_iret iX2_notOut_16 rfl ?_
  exact ⟨by rw [bits_not _ n hn]; rfl, rfl, rfl⟩
def cnt (p : Nat → Bool) : Nat → Nat
  | 0 => 0
  | i + 1 => if p i = true then cnt p i + 1 else cnt p i
theorem cnt_le (p : Nat → Bool) : ∀ n, cnt p n ≤ n
  | 0 => Nat.le_refl 0
  | i + 1 => by rw [cnt]; have := cnt_le p i; split <;> omega
theorem c2_betterThan (h : Hp) (c : Nat) {n : Nat} (hn : n ≤ 4) (b u : Int32) (t : Nat → Nat → Int32) {a : Nat} {k : Nat → Int32} (hk : cOv h c (n, b, u, t) a = some (thr k)) : Fn MX2_betterThan 1 [.ref c, .ref a] (cOv h c (n, b, u, t)) (some (.int (nI (cnt (fun j => kBetter (t j) k) n)))) := by
  intro z
  refine Cal_of_R (by decide +kernel) (L := [.ref c, .ref a, .null, .null]) rfl (Nat.le_of_ble_eq_true rfl) ?_
  have loop : ∀ (j p : Nat), p + j = n → ∀ z, R MX2_betterThan 1 0 0 (fun v h' z' => v = some (.int (nI (cnt (fun j => kBetter (t j) k) n))) ∧ h' = cOv h c (n, b, u, t) ∧ z' = z) 4 [.ref c, .ref a, .int (nI (cnt (fun j => kBetter (t j) k) p)), .int (nI p)] [] (cOv h c (n, b, u, t)) z 0 0 := by
    intro j
    induction j with
    | zero =>
      intro p hp z
      refine r_iload iX2_betterThan_4 rfl ?_
      refine r_aload iX2_betterThan_5 rfl ?_
      refine r_getfield iX2_betterThan_6 (flX2_18 _ rfl) (cOv_obj _ _ _) rfl ?_
      refine r_icmp_ge iX2_betterThan_9 (fun _ => ?_) (fun g9 => absurd (nI_le (by omega) (by omega)) g9)
      refine r_iload iX2_betterThan_34 rfl ?_
      refine r_iret iX2_betterThan_35 rfl ?_
      exact ⟨by rw [show p = n by omega], rfl, rfl⟩
    | succ j ih =>
      intro p hp z
      have hp4 : p < 4 := by omega
      refine r_iload iX2_betterThan_4 rfl ?_
      refine r_aload iX2_betterThan_5 rfl ?_
      refine r_getfield iX2_betterThan_6 (flX2_18 _ rfl) (cOv_obj _ _ _) rfl ?_
      refine r_icmp_ge iX2_betterThan_9 (fun g9 => absurd g9 (nI_ge (by omega) (by omega))) (fun _ => ?_)
      refine r_aload iX2_betterThan_12 rfl ?_
      refine r_getfield iX2_betterThan_13 (flX2_11 _ rfl) (cOv_obj _ _ _) rfl ?_
      refine r_iload iX2_betterThan_16 rfl ?_
      refine r_aaload iX2_betterThan_17 rfl (cOv_arr _ _ _) (in4 hp4) (thr_ix c hp4) ?_
      refine r_aload iX2_betterThan_18 rfl ?_
      refine r_callV iX2_betterThan_19 (cX2_83 _ rfl) (c5_isBetterThan _ (t p) k (cOv_thr h c (n, b, u, t) hp4) hk _) (by omega) (cOv_thr h c (n, b, u, t) hp4) rfl rfl rfl (Nat.le_of_ble_eq_true rfl) (by first | exact Nat.le_of_ble_eq_true rfl | omega) (by first | exact Nat.le_of_ble_eq_true rfl | omega) ?_
      rintro v h' z' ⟨rfl, rfl, rfl⟩
      have ih := ih (p + 1) (by omega) z'
      simp only [cnt] at ih
      cases g : kBetter (t p) k with
      | false =>
        rw [if_neg (by simp [g])] at ih
        refine r_if_eq iX2_betterThan_22 (fun _ => ?_) (fun g9 => absurd (rfl) g9)
        refine r_iinc_3 iX2_betterThan_28 (by first | exact nI_inc _ | rfl) rfl ?_
        refine r_goto iX2_betterThan_31 ?_
        exact ih
      | true =>
        rw [if_pos g] at ih
        refine r_if_eq iX2_betterThan_22 (fun g9 => absurd g9 (by decide)) (fun _ => ?_)
        refine r_iinc_2 iX2_betterThan_25 (by first | exact nI_inc _ | rfl) rfl ?_
        refine r_iinc_3 iX2_betterThan_28 (by first | exact nI_inc _ | rfl) rfl ?_
        refine r_goto iX2_betterThan_31 ?_
        exact ih
  refine r_iconst (v := 0) iX2_betterThan_0 rfl ?_
  refine r_istore_2 iX2_betterThan_1 rfl ?_
  refine r_iconst (v := 0) iX2_betterThan_2 rfl ?_
  refine r_istore_3 iX2_betterThan_3 rfl ?_
  exact loop n 0 (by omega) z
def leadP (n : Nat) (t : Nat → Nat → Int32) (j : Nat) : Bool := decide (cnt (fun o => kBetter (t o) (t j)) n = 0)
theorem c2_leaders (h : Hp) (c : Nat) {n : Nat} (hn : n ≤ 4) (b u : Int32) (t : Nat → Nat → Int32) : Fn MX2_leaders 2 [.ref c] (cOv h c (n, b, u, t)) (some (.int (bitsI (leadP n t) n))) := by
  intro z
  refine Cal_of_R (by decide +kernel) (L := [.ref c, .null, .null]) rfl (Nat.le_of_ble_eq_true rfl) ?_
  have loop : ∀ (j p : Nat), p + j = n → ∀ z, R MX2_leaders 2 0 0 (fun v h' z' => v = some (.int (bitsI (leadP n t) n)) ∧ h' = cOv h c (n, b, u, t) ∧ z' = z) 4 [.ref c, .int (bitsI (leadP n t) p), .int (nI p)] [] (cOv h c (n, b, u, t)) z 0 0 := by
    intro j
    induction j with
    | zero =>
      intro p hp z
      refine r_iload iX2_leaders_4 rfl ?_
      refine r_aload iX2_leaders_5 rfl ?_
      refine r_getfield iX2_leaders_6 (flX2_18 _ rfl) (cOv_obj _ _ _) rfl ?_
      refine r_icmp_ge iX2_leaders_9 (fun _ => ?_) (fun g9 => absurd (nI_le (by omega) (by omega)) g9)
      refine r_iload iX2_leaders_37 rfl ?_
      refine r_iret iX2_leaders_38 rfl ?_
      exact ⟨by rw [show p = n by omega], rfl, rfl⟩
    | succ j ih =>
      intro p hp z
      have hp4 : p < 4 := by omega
      refine r_iload iX2_leaders_4 rfl ?_
      refine r_aload iX2_leaders_5 rfl ?_
      refine r_getfield iX2_leaders_6 (flX2_18 _ rfl) (cOv_obj _ _ _) rfl ?_
      refine r_icmp_ge iX2_leaders_9 (fun g9 => absurd g9 (nI_ge (by omega) (by omega))) (fun _ => ?_)
      refine r_aload iX2_leaders_12 rfl ?_
      refine r_aload iX2_leaders_13 rfl ?_
      refine r_getfield iX2_leaders_14 (flX2_11 _ rfl) (cOv_obj _ _ _) rfl ?_
      refine r_iload iX2_leaders_17 rfl ?_
      refine r_aaload iX2_leaders_18 rfl (cOv_arr _ _ _) (in4 hp4) (thr_ix c hp4) ?_
      refine r_callV iX2_leaders_19 (cX2_87 _ rfl) (c2_betterThan h c hn b u t (cOv_thr h c (n, b, u, t) hp4) _) (by omega) (cOv_obj _ _ _) rfl rfl rfl (Nat.le_of_ble_eq_true rfl) (by first | exact Nat.le_of_ble_eq_true rfl | omega) (by first | exact Nat.le_of_ble_eq_true rfl | omega) ?_
      rintro v h' z' ⟨rfl, rfl, rfl⟩
      have ih := ih (p + 1) (by omega) z'
      simp only [bitsI] at ih
      have hc := cnt_le (fun o => kBetter (t o) (t p)) n
      by_cases g : cnt (fun o => kBetter (t o) (t p)) n = 0
      · rw [if_pos (show leadP n t p = true by simp [leadP, g])] at ih
        refine r_if_ne iX2_leaders_22 (fun g9 => absurd ((by rw [g] : nI (cnt (fun o => kBetter (t o) (t p)) n) = nI 0)) g9) (fun _ => ?_)
        refine r_iload iX2_leaders_25 rfl ?_
        refine r_iconst (v := 1) iX2_leaders_26 rfl ?_
        refine r_iload iX2_leaders_27 rfl ?_
        refine r_ishl iX2_leaders_28 ?_
        refine r_ior iX2_leaders_29 ?_
        refine r_istore_1 iX2_leaders_30 rfl ?_
        refine r_iinc_2 iX2_leaders_31 (by first | exact nI_inc _ | rfl) rfl ?_
        refine r_goto iX2_leaders_34 ?_
        exact ih
      · rw [if_neg (show ¬ leadP n t p = true by simp [leadP, g])] at ih
        refine r_if_ne iX2_leaders_22 (fun _ => ?_) (fun g9 => absurd g9 (nI_ne0 (n := cnt (fun o => kBetter (t o) (t p)) n) (Nat.pos_of_ne_zero g) (by omega)))
        refine r_iinc_2 iX2_leaders_31 (by first | exact nI_inc _ | rfl) rfl ?_
        refine r_goto iX2_leaders_34 ?_
        exact ih
  refine r_iconst (v := 0) iX2_leaders_0 rfl ?_
  refine r_istore_1 iX2_leaders_1 rfl ?_
  refine r_iconst (v := 0) iX2_leaders_2 rfl ?_
  refine r_istore_2 iX2_leaders_3 rfl ?_
  exact loop n 0 (by omega) z
theorem c2_oddsOfTurn (h : Hp) (c : Nat) {n i : Nat} (hn : n ≤ 4) (hi : i < n) (b : Int32) (t : Nat → Nat → Int32) : Fn MX2_oddsOfTurn 2 [.ref c] (cOv h c (n, b, nI i, t)) (some (.int (kOdds (t i) b 0))) := by
  intro z
  refine Cal_of_R (by decide +kernel) (L := [.ref c]) rfl (Nat.le_of_ble_eq_true rfl) ?_
  refine r_aload iX2_oddsOfTurn_0 rfl ?_
  refine r_aload iX2_oddsOfTurn_1 rfl ?_
  refine r_getfield iX2_oddsOfTurn_2 (flX2_25 _ rfl) (cOv_obj _ _ _) rfl ?_
  refine r_callV iX2_oddsOfTurn_5 (cX2_55 _ rfl) (c2_knows h c hn b (nI i) t (nI i) _) (by omega) (cOv_obj _ _ _) rfl rfl rfl (Nat.le_of_ble_eq_true rfl) (by first | exact Nat.le_of_ble_eq_true rfl | omega) (by first | exact Nat.le_of_ble_eq_true rfl | omega) ?_
  rintro v h' z' ⟨rfl, rfl, rfl⟩
  rw [i_ks hn hi]
  refine r_if_eq iX2_oddsOfTurn_8 (fun g9 => absurd g9 (by decide)) (fun _ => ?_)
  refine r_aload iX2_oddsOfTurn_11 rfl ?_
  refine r_getfield iX2_oddsOfTurn_12 (flX2_11 _ rfl) (cOv_obj _ _ _) rfl ?_
  refine r_aload iX2_oddsOfTurn_15 rfl ?_
  refine r_getfield iX2_oddsOfTurn_16 (flX2_25 _ rfl) (cOv_obj _ _ _) rfl ?_
  refine r_aaload iX2_oddsOfTurn_19 rfl (cOv_arr _ _ _) (in4 (by omega)) (thr_ix c (by omega)) ?_
  refine r_aload iX2_oddsOfTurn_20 rfl ?_
  refine r_getfield iX2_oddsOfTurn_21 (flX2_22 _ rfl) (cOv_obj _ _ _) rfl ?_
  refine r_iconst (v := 0) iX2_oddsOfTurn_24 rfl ?_
  refine r_callV iX2_oddsOfTurn_25 (cX2_79 _ rfl) (c5_oddsAt _ (t i) (cOv_thr h c (n, b, nI i, t) (by omega)) b 0 _) (by omega) (cOv_thr _ _ _ (by omega)) rfl rfl rfl (Nat.le_of_ble_eq_true rfl) (by first | exact Nat.le_of_ble_eq_true rfl | omega) (by first | exact Nat.le_of_ble_eq_true rfl | omega) ?_
  rintro v h' z' ⟨rfl, rfl, rfl⟩
  refine r_goto iX2_oddsOfTurn_28 ?_
  refine r_iret iX2_oddsOfTurn_32 rfl ?_
  exact ⟨rfl, rfl, rfl⟩
