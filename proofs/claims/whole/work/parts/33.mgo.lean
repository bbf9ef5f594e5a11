/-! the model goes on -/
theorem c7_nextIn (h : Hp) {I : Nat → Int32} (J : Nat → Int64) {A : Nat → Nat → Int32} (me : Nat → Int64) {l n : Nat} {b u : Int32} {t : Nat → Nat → Int32} (h0 : I 0 = nI n) (H : En A l n b u t) (hl : l < 2) (hn : n ≤ 4) {f : Nat} (hf : f ≤ n) : Fn MX7_nextIn 1 [.ref 152, .int (nI l), .int (nI f)] (mOv h (I, J, A, me)) (some (.int (nxt n t f n))) := by
  intro z
  refine Cal_of_R (by decide +kernel) (L := [.ref 152, .int (nI l), .int (nI f), .null]) rfl (Nat.le_of_ble_eq_true rfl) ?_
  have loop : ∀ (j p : Nat), p + j = n → nxt n t f n = nxt n t f j → ∀ z, R MX7_nextIn 1 0 0 (fun v h' z' => v = some (.int (nxt n t f n)) ∧ h' = mOv h (I, J, A, me) ∧ z' = z) 2 [.ref 152, .int (nI l), .int (nI f), .int (nI p)] [] (mOv h (I, J, A, me)) z 0 0 := by
    intro j
    induction j with
    | zero =>
      intro p hp he z
      refine r_iload iX7_nextIn_2 rfl ?_
      refine r_aload iX7_nextIn_3 rfl ?_
      refine r_gthrowers iX7_nextIn_4 (flX7_68 _ rfl) ?_
      rw [h0]
      refine r_icmp_ge iX7_nextIn_7 (fun _ => ?_) (fun g9 => absurd (nI_le (by omega) (by omega)) g9)
      refine r_bipush (v := (-9)) iX7_nextIn_42 rfl ?_
      refine r_iret iX7_nextIn_44 rfl ?_
      exact ⟨by rw [he]; rfl, rfl, rfl⟩
    | succ j ih =>
      intro p hp he z
      have hn0 : 0 < n := by omega
      have hm : (f + p) % n < n := Nat.mod_lt _ hn0
      have er : nI (f + p) - nI (f + p) / nI n * nI n = nI ((f + p) % n) := pk_rem (by omega) hn0 (by omega)
      have e1 : n - (j + 1) = p := by omega
      rw [nxt, e1] at he
      refine r_iload iX7_nextIn_2 rfl ?_
      refine r_aload iX7_nextIn_3 rfl ?_
      refine r_gthrowers iX7_nextIn_4 (flX7_68 _ rfl) ?_
      rw [h0]
      refine r_icmp_ge iX7_nextIn_7 (fun g9 => absurd g9 (nI_ge (by omega) (by omega))) (fun _ => ?_)
      refine r_aload iX7_nextIn_10 rfl ?_
      refine r_iload iX7_nextIn_11 rfl ?_
      refine r_iload iX7_nextIn_12 rfl ?_
      refine r_iload iX7_nextIn_13 rfl ?_
      refine r_iadd iX7_nextIn_14 ?_
      refine r_aload iX7_nextIn_15 rfl ?_
      refine r_gthrowers iX7_nextIn_16 (flX7_68 _ rfl) ?_
      rw [h0, nI_add]
      refine r_irem iX7_nextIn_19 (nI_ne0 hn0 (by omega)) ?_
      rw [er]
      refine r_iconst (v := 5) iX7_nextIn_20 rfl ?_
      refine r_callV iX7_nextIn_21 (cX7_77 _ rfl) (c7_mark h I J A me hl (t := (f + p) % n) (by omega) (w := 5) (by omega) _) (by omega) (mOv_obj _ _) rfl rfl rfl (Nat.le_of_ble_eq_true rfl) (by first | exact Nat.le_of_ble_eq_true rfl | omega) (by first | exact Nat.le_of_ble_eq_true rfl | omega) ?_
      rintro v h' z' ⟨rfl, rfl, rfl⟩
      rw [H.mk hm (by omega)]
      by_cases g : t ((f + p) % n) 7 = 0
      · rw [if_pos g] at he
        refine r_if_ne iX7_nextIn_24 (fun g9 => absurd (g) g9) (fun _ => ?_)
        refine r_iload iX7_nextIn_27 rfl ?_
        refine r_iload iX7_nextIn_28 rfl ?_
        refine r_iadd iX7_nextIn_29 ?_
        refine r_aload iX7_nextIn_30 rfl ?_
        refine r_gthrowers iX7_nextIn_31 (flX7_68 _ rfl) ?_
        rw [h0, nI_add]
        refine r_irem iX7_nextIn_34 (nI_ne0 hn0 (by omega)) ?_
        rw [er]
        refine r_iret iX7_nextIn_35 rfl ?_
        exact ⟨by rw [he], rfl, rfl⟩
      · rw [if_neg g] at he
        refine r_if_ne iX7_nextIn_24 (fun _ => ?_) (fun g9 => absurd g9 (g))
        refine r_iinc_3 iX7_nextIn_36 (by first | exact nI_inc _ | rfl) rfl ?_
        refine r_goto iX7_nextIn_39 ?_
        exact ih (p + 1) (by omega) he z'
  refine r_iconst (v := 0) iX7_nextIn_0 rfl ?_
  refine r_istore_3 iX7_nextIn_1 rfl ?_
  exact loop n 0 (by omega) rfl z
/-- all but one level of now stays -/
def fr (l : Nat) (A A' : Nat → Nat → Int32) : Prop := (∀ k, k ≠ 3 → A' k = A k) ∧ ∀ q, (q < 30 * l ∨ 30 * l + 30 ≤ q) → A' 3 q = A 3 q
theorem fr_refl (l : Nat) (A : Nat → Nat → Int32) : fr l A A := ⟨fun _ _ => rfl, fun _ _ => rfl⟩
theorem fr.upd {l : Nat} {A A' : Nat → Nat → Int32} (H : fr l A A') {p : Nat} (v : Int32) (h1 : 30 * l ≤ p) (h2 : p < 30 * l + 30) : fr l A (upA A' 3 p v) :=
  ⟨fun k hk => (upA_ne hk).trans (H.1 k hk), fun q hq => by rw [upA_eq, upd_at, if_neg (by omega)]; exact H.2 q hq⟩
def kset (k : Nat → Int32) (j : Nat) (v : Int32) : Nat → Int32 := fun q => if q = j then v else k q
theorem En.set {A : Nat → Nat → Int32} {l n : Nat} {b u : Int32} {t : Nat → Nat → Int32} (H : En A l n b u t) {i w : Nat} (v : Int32) (hi : i < n) (hw : w < 7) : En (sA A l i w v) l n b u (upT t i (kset (t i) (w + 2) v)) := by
  unfold sA
  refine ⟨?_, ?_, fun i' hi' => ⟨?_, ?_, fun w' hw' => ?_⟩⟩
  · rw [upA_eq, upd_at, if_neg (by omega)]; exact H.1
  · rw [upA_eq, upd_at, if_neg (by omega)]; exact H.2.1
  · rw [upA_ne (by omega), upT]
    by_cases g : i' = i
    · rw [if_pos g, kset, if_neg (by omega), ← g]; exact (H.2.2 i' hi').1
    · rw [if_neg g]; exact (H.2.2 i' hi').1
  · rw [upA_ne (by omega), upT]
    by_cases g : i' = i
    · rw [if_pos g, kset, if_neg (by omega), ← g]; exact (H.2.2 i' hi').2.1
    · rw [if_neg g]; exact (H.2.2 i' hi').2.1
  · rw [upA_eq, upd_at, upT]
    by_cases g : i' = i
    · subst g
      rw [if_pos rfl, kset]
      by_cases g2 : w' = w
      · rw [if_pos (by rw [g2]), if_pos (by rw [g2])]
      · rw [if_neg (by omega), if_neg (by omega)]; exact (H.2.2 i' hi').2.2 w' hw'
    · rw [if_neg g, if_neg (by omega)]; exact (H.2.2 i' hi').2.2 w' hw'
theorem En.congr {A : Nat → Nat → Int32} {l n : Nat} {b u : Int32} {t t' : Nat → Nat → Int32} (H : En A l n b u t) (e : ∀ i, i < n → ∀ j, j < 9 → t' i j = t i j) : En A l n b u t' :=
  ⟨H.1, H.2.1, fun i hi => ⟨(e i hi 0 (by omega)).trans (H.2.2 i hi).1, (e i hi 1 (by omega)).trans (H.2.2 i hi).2.1, fun w hw => (e i hi (w + 2) (by omega)).trans ((H.2.2 i hi).2.2 w hw)⟩⟩
theorem En.up {A : Nat → Nat → Int32} {l n : Nat} {b u : Int32} {t : Nat → Nat → Int32} (H : En A l n b u t) (v : Int32) : En (upA A 3 (30 * l + 1) v) l n b v t :=
  ⟨by rw [upA_eq, upd_at, if_neg (by omega)]; exact H.1, by rw [upA_eq, upd_at, if_pos rfl], fun i hi => ⟨(H.2.2 i hi).1, (H.2.2 i hi).2.1, fun w hw => by rw [upA_eq, upd_at, if_neg (by omega)]; exact (H.2.2 i hi).2.2 w hw⟩⟩
theorem En.bar {A : Nat → Nat → Int32} {l n : Nat} {b u : Int32} {t : Nat → Nat → Int32} (H : En A l n b u t) (v : Int32) : En (upA A 3 (30 * l) v) l n v u t :=
  ⟨by rw [upA_eq, upd_at, if_pos rfl], by rw [upA_eq, upd_at, if_neg (by omega)]; exact H.2.1, fun i hi => ⟨(H.2.2 i hi).1, (H.2.2 i hi).2.1, fun w hw => by rw [upA_eq, upd_at, if_neg (by omega)]; exact (H.2.2 i hi).2.2 w hw⟩⟩
theorem ix0 (l : Nat) : (30 : Int32) * nI l = nI (30 * l) := by rw [← nI_mul]; rfl
theorem ix1 (l : Nat) : (30 : Int32) * nI l + 1 = nI (30 * l + 1) := by rw [← nI_add, ← nI_mul]; rfl
theorem fr.sA {l : Nat} {A A' : Nat → Nat → Int32} (H : fr l A A') {i w : Nat} (v : Int32) (hi : i < 4) (hw : w < 7) : fr l A (sA A' l i w v) := H.upd v (by omega) (by omega)
theorem c7_goOn (h : Hp) {I : Nat → Int32} (J : Nat → Int64) {A0 A : Nat → Nat → Int32} (me : Nat → Int64) {l n : Nat} {b : Int32} {i : Nat} {t : Nat → Nat → Int32} (h0 : I 0 = nI n) (hfr : fr l A0 A) (H : En A l n b (nI i) t) (hl : l < 2) (hn : n ≤ 4) (hi : i < n) (z : Nat) : Cal MX7_goOn 2 0 0 [.ref 152, .int (nI l)] (mOv h (I, J, A, me)) z (fun v h' z' => v = none ∧ z' = z ∧ ∃ A', h' = mOv h (I, J, A', me) ∧ fr l A0 A' ∧ En A' l n (goOnC n b i t).2.1 (goOnC n b i t).2.2.1 (goOnC n b i t).2.2.2) := by
  refine Cal_of_R (by decide +kernel) (L := [.ref 152, .int (nI l), .null, .null, .null]) rfl (Nat.le_of_ble_eq_true rfl) ?_
  refine r_aload iX7_goOn_0 rfl ?_
  refine r_iload iX7_goOn_1 rfl ?_
  refine r_aload iX7_goOn_2 rfl ?_
  refine r_gnow iX7_goOn_3 (flX7_19 _ rfl) ?_
  refine r_bipush (v := 30) iX7_goOn_6 rfl ?_
  refine r_iload iX7_goOn_8 rfl ?_
  refine r_imul iX7_goOn_9 ?_
  refine r_iconst (v := 1) iX7_goOn_10 rfl ?_
  refine r_iadd iX7_goOn_11 ?_
  refine r_ld3 iX7_goOn_12 (ix1 l) (by omega) ?_
  rw [H.2.1]
  refine r_iconst (v := 1) iX7_goOn_13 rfl ?_
  refine r_iadd iX7_goOn_14 ?_
  rw [nI_1]
  refine r_callV iX7_goOn_15 (cX7_100 _ rfl) (c7_nextIn h J me h0 H hl hn (f := i + 1) (by omega) _) (by omega) (mOv_obj _ _) rfl rfl rfl (Nat.le_of_ble_eq_true rfl) (by first | exact Nat.le_of_ble_eq_true rfl | omega) (by first | exact Nat.le_of_ble_eq_true rfl | omega) ?_
  rintro v h' z' ⟨rfl, rfl, rfl⟩
  have fin : ∀ (u : Int32) (A1 : Nat → Nat → Int32) (b1 u1 : Int32) (t1 : Nat → Nat → Int32) (w3 w4 : Value), fr l A0 A1 → En A1 l n b1 u1 t1 → goOnC n b i t = (n, b1, u, t1) → R MX7_goOn 2 0 0 (fun v h' z'_1 => v = none ∧ z'_1 = z' ∧ ∃ A', h' = mOv h (I, J, A', me) ∧ fr l A0 A' ∧ En A' l n (goOnC n b i t).2.1 (goOnC n b i t).2.2.1 (goOnC n b i t).2.2.2) 158 [.ref 152, .int (nI l), .int u, w3, w4] [] (mOv h (I, J, A1, me)) z' 0 0 := by
    intro u A1 b1 u1 t1 w3 w4 hf1 H1 e
    refine r_aload iX7_goOn_158 rfl ?_
    refine r_gnow iX7_goOn_159 (flX7_19 _ rfl) ?_
    refine r_bipush (v := 30) iX7_goOn_162 rfl ?_
    refine r_iload iX7_goOn_164 rfl ?_
    refine r_imul iX7_goOn_165 ?_
    refine r_iconst (v := 1) iX7_goOn_166 rfl ?_
    refine r_iadd iX7_goOn_167 ?_
    refine r_iload iX7_goOn_168 rfl ?_
    refine r_st3 iX7_goOn_169 (ix1 l) (by omega) ?_
    refine r_vret iX7_goOn_170 rfl ?_
    refine ⟨rfl, rfl, _, rfl, hf1.upd u (by omega) (by omega), ?_⟩
    rw [e]
    exact H1.up u
  by_cases g1 : nxt n t (i + 1) n = -9
  case neg =>
    refine r_istore_2 iX7_goOn_18 rfl ?_
    refine r_iload iX7_goOn_19 rfl ?_
    refine r_bipush (v := (-9)) iX7_goOn_20 rfl ?_
    refine r_icmp_ne iX7_goOn_22 (fun _ => ?_) (fun g9 => absurd g9 (g1))
    exact fin _ A b _ t _ _ hfr H (by rw [goOnC, if_neg (fun q => g1 q.1)])
  refine r_istore_2 iX7_goOn_18 rfl ?_
  refine r_iload iX7_goOn_19 rfl ?_
  refine r_bipush (v := (-9)) iX7_goOn_20 rfl ?_
  refine r_icmp_ne iX7_goOn_22 (fun g9 => absurd (g1) g9) (fun _ => ?_)
  refine r_aload iX7_goOn_25 rfl ?_
  refine r_gnow iX7_goOn_26 (flX7_19 _ rfl) ?_
  refine r_bipush (v := 30) iX7_goOn_29 rfl ?_
  refine r_iload iX7_goOn_31 rfl ?_
  refine r_imul iX7_goOn_32 ?_
  refine r_ld3 iX7_goOn_33 (ix0 l) (by omega) ?_
  rw [H.1]
  by_cases g2 : b < 11
  case neg =>
    refine r_bipush (v := 11) iX7_goOn_34 rfl ?_
    refine r_icmp_ge iX7_goOn_36 (fun _ => ?_) (fun g9 => absurd (Int32.not_lt.mp g2) g9)
    exact fin _ A b _ t _ _ hfr H (by rw [goOnC, if_neg (fun q => g2 q.2.1)])
  refine r_bipush (v := 11) iX7_goOn_34 rfl ?_
  refine r_icmp_ge iX7_goOn_36 (fun g9 => absurd g9 (Int32.not_le.mpr g2)) (fun _ => ?_)
  refine r_iconst (v := 0) iX7_goOn_39 rfl ?_
  refine r_istore_3 iX7_goOn_40 rfl ?_
  refine r_iconst (v := 0) iX7_goOn_41 rfl ?_
  refine r_istore_4 iX7_goOn_42 rfl ?_
  -- any
  have anyl : ∀ (j p : Nat), p + j = n → ∀ z'', (∀ w3 w4 z'', w3 = b2i (anyT (notOutP t) n) → z'' = z' → R MX7_goOn 2 0 0 (fun v h' z'_1 => v = none ∧ z'_1 = z' ∧ ∃ A', h' = mOv h (I, J, A', me) ∧ fr l A0 A' ∧ En A' l n (goOnC n b i t).2.1 (goOnC n b i t).2.2.1 (goOnC n b i t).2.2.2) 81 [.ref 152, .int (nI l), .int (nxt n t (i + 1) n), .int w3, w4] [] (mOv h (I, J, A, me)) z'' 0 0) → z'' = z' → R MX7_goOn 2 0 0 (fun v h' z'_1 => v = none ∧ z'_1 = z' ∧ ∃ A', h' = mOv h (I, J, A', me) ∧ fr l A0 A' ∧ En A' l n (goOnC n b i t).2.1 (goOnC n b i t).2.2.1 (goOnC n b i t).2.2.2) 44 [.ref 152, .int (nI l), .int (nxt n t (i + 1) n), .int (b2i (anyT (notOutP t) p)), .int (nI p)] [] (mOv h (I, J, A, me)) z'' 0 0 := by
    intro j
    induction j with
    | zero =>
      intro p hp z'' K ez
      obtain rfl : p = n := by omega
      refine r_iload iX7_goOn_44 rfl ?_
      refine r_aload iX7_goOn_46 rfl ?_
      refine r_gthrowers iX7_goOn_47 (flX7_68 _ rfl) ?_
      rw [h0]
      refine r_icmp_ge iX7_goOn_50 (fun _ => ?_) (fun g9 => absurd (nI_le (by omega) (by omega)) g9)
      exact K _ _ _ rfl ez
    | succ j ih =>
      intro p hp z'' K ez
      refine r_iload iX7_goOn_44 rfl ?_
      refine r_aload iX7_goOn_46 rfl ?_
      refine r_gthrowers iX7_goOn_47 (flX7_68 _ rfl) ?_
      rw [h0]
      refine r_icmp_ge iX7_goOn_50 (fun g9 => absurd g9 (nI_ge (by omega) (by omega))) (fun _ => ?_)
      cases ga : anyT (notOutP t) p with
      | true =>
        refine r_iload iX7_goOn_53 rfl ?_
        refine r_if_ne iX7_goOn_54 (fun _ => ?_) (fun g9 => absurd g9 (by decide))
        refine r_iconst (v := 1) iX7_goOn_69 rfl ?_
        refine r_goto iX7_goOn_70 ?_
        refine r_istore_3 iX7_goOn_74 rfl ?_
        refine r_iinc_4 iX7_goOn_75 (by first | exact nI_inc _ | rfl) rfl ?_
        refine r_goto iX7_goOn_78 ?_
        have e := ih (p + 1) (by omega) z'' K ez
        rw [show anyT (notOutP t) (p + 1) = true by rw [anyT, ga]; rfl] at e
        exact e
      | false =>
        refine r_iload iX7_goOn_53 rfl ?_
        refine r_if_ne iX7_goOn_54 (fun g9 => absurd (rfl) g9) (fun _ => ?_)
        refine r_aload iX7_goOn_57 rfl ?_
        refine r_iload iX7_goOn_58 rfl ?_
        refine r_iload iX7_goOn_59 rfl ?_
        refine r_iconst (v := 5) iX7_goOn_61 rfl ?_
        refine r_callV iX7_goOn_62 (cX7_77 _ rfl) (c7_mark h I J A me hl (t := p) (by omega) (w := 5) (by omega) _) (by omega) (mOv_obj _ _) rfl rfl rfl (Nat.le_of_ble_eq_true rfl) (by first | exact Nat.le_of_ble_eq_true rfl | omega) (by first | exact Nat.le_of_ble_eq_true rfl | omega) ?_
        rintro v h' z9 ⟨rfl, rfl, rfl⟩
        rw [H.mk (show p < n by omega) (by omega)]
        by_cases g3 : t p 7 = 3
        · refine r_iconst (v := 3) iX7_goOn_65 rfl ?_
          refine r_icmp_eq iX7_goOn_66 (fun _ => ?_) (fun g9 => absurd (g3) g9)
          refine r_iconst (v := 0) iX7_goOn_73 rfl ?_
          refine r_istore_3 iX7_goOn_74 rfl ?_
          refine r_iinc_4 iX7_goOn_75 (by first | exact nI_inc _ | rfl) rfl ?_
          refine r_goto iX7_goOn_78 ?_
          have e := ih (p + 1) (by omega) z9 K ez
          rw [show anyT (notOutP t) (p + 1) = false by rw [anyT, ga, notOutP, decide_eq_true g3]; rfl] at e
          exact e
        · refine r_iconst (v := 3) iX7_goOn_65 rfl ?_
          refine r_icmp_eq iX7_goOn_66 (fun g9 => absurd g9 (g3)) (fun _ => ?_)
          refine r_iconst (v := 1) iX7_goOn_69 rfl ?_
          refine r_goto iX7_goOn_70 ?_
          refine r_istore_3 iX7_goOn_74 rfl ?_
          refine r_iinc_4 iX7_goOn_75 (by first | exact nI_inc _ | rfl) rfl ?_
          refine r_goto iX7_goOn_78 ?_
          have e := ih (p + 1) (by omega) z9 K ez
          rw [show anyT (notOutP t) (p + 1) = true by rw [anyT, ga, notOutP, decide_eq_false g3]; rfl] at e
          exact e
  refine anyl n 0 (by omega) z' (fun w3 w4 z'' ew ez => ?_) rfl
  subst ew
  subst ez
  by_cases g3 : anyT (notOutP t) n = true
  case neg =>
    rw [Bool.not_eq_true] at g3
    rw [g3]
    refine r_iload iX7_goOn_81 rfl ?_
    refine r_if_eq iX7_goOn_82 (fun _ => ?_) (fun g9 => absurd (rfl) g9)
    exact fin _ A b _ t _ _ hfr H (by rw [goOnC, if_neg (fun q => by rw [g3] at q; cases q.2.2)])
  have eg : goOnC n b i t = (n, b + 1, nxt n (upAll t n) 0 n, upAll t n) := by rw [goOnC, if_pos ⟨g1, g2, g3⟩]
  rw [g3]
  refine r_iload iX7_goOn_81 rfl ?_
  refine r_if_eq iX7_goOn_82 (fun g9 => absurd g9 (by decide)) (fun _ => ?_)
  refine r_aload iX7_goOn_85 rfl ?_
  refine r_gnow iX7_goOn_86 (flX7_19 _ rfl) ?_
  refine r_bipush (v := 30) iX7_goOn_89 rfl ?_
  refine r_iload iX7_goOn_91 rfl ?_
  refine r_imul iX7_goOn_92 ?_
  refine r_dup2 iX7_goOn_93 rfl rfl ?_
  refine r_ld3 iX7_goOn_94 (ix0 l) (by omega) ?_
  rw [H.1]
  refine r_iconst (v := 1) iX7_goOn_95 rfl ?_
  refine r_iadd iX7_goOn_96 ?_
  refine r_st3 iX7_goOn_97 (ix0 l) (by omega) ?_
  refine r_iconst (v := 0) iX7_goOn_98 rfl ?_
  refine r_istore_4 iX7_goOn_99 rfl ?_
  have raise : ∀ (j p : Nat) (A1 : Nat → Nat → Int32), p + j = n → fr l A0 A1 → En A1 l n (b + 1) (nI i) (mapT (fun _ k => kUp k) t p) → R MX7_goOn 2 0 0 (fun v h' z'_1 => v = none ∧ z'_1 = z'' ∧ ∃ A', h' = mOv h (I, J, A', me) ∧ fr l A0 A' ∧ En A' l n (goOnC n b i t).2.1 (goOnC n b i t).2.2.1 (goOnC n b i t).2.2.2) 101 [.ref 152, .int (nI l), .int (nxt n t (i + 1) n), .int (b2i true), .int (nI p)] [] (mOv h (I, J, A1, me)) z'' 0 0 := by
    intro j
    induction j with
    | zero =>
      intro p A1 hp hf1 H1
      obtain rfl : p = n := by omega
      refine r_iload iX7_goOn_101 rfl ?_
      refine r_aload iX7_goOn_103 rfl ?_
      refine r_gthrowers iX7_goOn_104 (flX7_68 _ rfl) ?_
      rw [h0]
      refine r_icmp_ge iX7_goOn_107 (fun _ => ?_) (fun g9 => absurd (nI_le (by omega) (by omega)) g9)
      refine r_aload iX7_goOn_151 rfl ?_
      refine r_iload iX7_goOn_152 rfl ?_
      refine r_iconst (v := 0) iX7_goOn_153 rfl ?_
      refine r_callV iX7_goOn_154 (cX7_100 _ rfl) (c7_nextIn h J me h0 H1 hl hn (f := 0) (by omega) _) (by omega) (mOv_obj _ _) rfl rfl rfl (Nat.le_of_ble_eq_true rfl) (by first | exact Nat.le_of_ble_eq_true rfl | omega) (by first | exact Nat.le_of_ble_eq_true rfl | omega) ?_
      rintro v h' z9 ⟨rfl, rfl, rfl⟩
      refine r_istore_2 iX7_goOn_157 rfl ?_
      exact fin _ A1 (b + 1) _ _ _ _ hf1 H1 eg
    | succ j ih =>
      intro p A1 hp hf1 H1
      have hpn : p < n := by omega
      have ep : mapT (fun _ k => kUp k) t p p = t p := by unfold mapT; rw [if_neg (by omega)]
      refine r_iload iX7_goOn_101 rfl ?_
      refine r_aload iX7_goOn_103 rfl ?_
      refine r_gthrowers iX7_goOn_104 (flX7_68 _ rfl) ?_
      rw [h0]
      refine r_icmp_ge iX7_goOn_107 (fun g9 => absurd g9 (nI_ge (by omega) (by omega))) (fun _ => ?_)
      refine r_aload iX7_goOn_110 rfl ?_
      refine r_iload iX7_goOn_111 rfl ?_
      refine r_iload iX7_goOn_112 rfl ?_
      refine r_iconst (v := 5) iX7_goOn_114 rfl ?_
      refine r_aload iX7_goOn_115 rfl ?_
      refine r_iload iX7_goOn_116 rfl ?_
      refine r_iload iX7_goOn_117 rfl ?_
      refine r_iconst (v := 5) iX7_goOn_119 rfl ?_
      refine r_callV iX7_goOn_120 (cX7_77 _ rfl) (c7_mark h I J A1 me hl (t := p) (by omega) (w := 5) (by omega) _) (by omega) (mOv_obj _ _) rfl rfl rfl (Nat.le_of_ble_eq_true rfl) (by first | exact Nat.le_of_ble_eq_true rfl | omega) (by first | exact Nat.le_of_ble_eq_true rfl | omega) ?_
      rintro v h' z9 ⟨rfl, rfl, rfl⟩
      rw [H1.mk hpn (by omega), ep]
      have nxtR : ∀ s, s = (if t p 7 = 3 then (3 : Int32) else 0) → R MX7_goOn 2 0 0 (fun v h' z'_1 => v = none ∧ z'_1 = z9 ∧ ∃ A', h' = mOv h (I, J, A', me) ∧ fr l A0 A' ∧ En A' l n (goOnC n b i t).2.1 (goOnC n b i t).2.2.1 (goOnC n b i t).2.2.2) 132 [.ref 152, .int (nI l), .int (nxt n t (i + 1) n), .int (b2i true), .int (nI p)] [.int s, .int 5, .int (nI p), .int (nI l), .ref 152] (mOv h (I, J, A1, me)) z9 0 0 := by
        intro s es
        refine r_callV iX7_goOn_132 (cX7_103 _ rfl) (c7_set h I J A1 me s hl (t := p) (by omega) (w := 5) (by omega) _) (by omega) (mOv_obj _ _) rfl rfl rfl (Nat.le_of_ble_eq_true rfl) (by first | exact Nat.le_of_ble_eq_true rfl | omega) (by first | exact Nat.le_of_ble_eq_true rfl | omega) ?_
        rintro v h' z8 ⟨rfl, rfl, rfl⟩
        refine r_aload iX7_goOn_135 rfl ?_
        refine r_iload iX7_goOn_136 rfl ?_
        refine r_iload iX7_goOn_137 rfl ?_
        refine r_bipush (v := 6) iX7_goOn_139 rfl ?_
        refine r_iconst (v := 0) iX7_goOn_141 rfl ?_
        refine r_callV iX7_goOn_142 (cX7_103 _ rfl) (c7_set h I J _ me 0 hl (t := p) (by omega) (w := 6) (by omega) _) (by omega) (mOv_obj _ _) rfl rfl rfl (Nat.le_of_ble_eq_true rfl) (by first | exact Nat.le_of_ble_eq_true rfl | omega) (by first | exact Nat.le_of_ble_eq_true rfl | omega) ?_
        rintro v h' z8 ⟨rfl, rfl, rfl⟩
        refine r_iinc_4 iX7_goOn_145 (by first | exact nI_inc _ | rfl) rfl ?_
        refine r_goto iX7_goOn_148 ?_
        refine ih (p + 1) _ (by omega) ((hf1.sA s (by omega) (by omega)).sA 0 (by omega) (by omega)) (((H1.set s hpn (w := 5) (by omega)).set 0 hpn (w := 6) (by omega)).congr (fun i' hi' j' hj' => ?_))
        rw [← mapT_s]
        unfold upT
        by_cases g : i' = p
        · rw [if_pos g, if_pos g, if_pos rfl, ep]
          match j', hj' with
          | 0, _ => rfl
          | 1, _ => rfl
          | 2, _ => rfl
          | 3, _ => rfl
          | 4, _ => rfl
          | 5, _ => rfl
          | 6, _ => rfl
          | 7, _ => exact es.symm
          | 8, _ => rfl
        · rw [if_neg g, if_neg g, if_neg g]
      by_cases g : t p 7 = 3
      · refine r_iconst (v := 3) iX7_goOn_123 rfl ?_
        refine r_icmp_ne iX7_goOn_124 (fun g9 => absurd (g) g9) (fun _ => ?_)
        refine r_iconst (v := 3) iX7_goOn_127 rfl ?_
        refine r_goto iX7_goOn_128 ?_
        exact nxtR 3 (by rw [if_pos g])
      · refine r_iconst (v := 3) iX7_goOn_123 rfl ?_
        refine r_icmp_ne iX7_goOn_124 (fun _ => ?_) (fun g9 => absurd g9 (g))
        refine r_iconst (v := 0) iX7_goOn_131 rfl ?_
        exact nxtR 0 (by rw [if_neg g])
  exact raise n 0 _ (by omega) (hfr.upd _ (by omega) (by omega)) (by rw [mapT_0]; exact H.bar (b + 1))
