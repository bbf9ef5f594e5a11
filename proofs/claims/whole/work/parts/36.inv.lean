/-! what holds of every contest: the figures' bounds -/
def OkT (bb : Nat) (k : Nat → Int32) : Prop := (∃ s, s ≤ 9 ∧ k 0 = nI s) ∧ (∃ w, 1 ≤ w ∧ w ≤ 9 ∧ k 1 = nI w) ∧ ((k 4 = -9 ∧ k 5 = -9) ∨ ∃ x y, x ≤ 11 ∧ y ≤ 3 ∧ k 4 = nI x ∧ k 5 = nI y) ∧ ∃ r a e q, k 3 = nI r ∧ k 6 = nI a ∧ k 8 = nI e ∧ k 7 = nI q ∧ r ≤ 3 ∧ e ≤ 3 ∧ q ≤ 3 ∧ a ≤ 3 * bb + e ∧ (q = 3 → r = 3) ∧ (r = 3 → q = 3) ∧ (q ≠ 1 → e ≤ r)
def OkC (n bb : Nat) (u : Int32) (t : Nat → Nat → Int32) : Prop := n ≤ 4 ∧ bb ≤ 11 ∧ (u = -9 ∨ ∃ i, i < n ∧ t i 7 = 0 ∧ u = nI i) ∧ ∀ i, i < n → OkT bb (t i)
theorem OkT.v {bb : Nat} {k : Nat → Int32} (H : OkT bb k) (hb : bb ≤ 11) : VOk k := by
  obtain ⟨-, -, h, r, a, e, q, -, h6, -, -, -, he, -, ha, -⟩ := H
  refine ⟨?_, a, by omega, h6⟩
  rcases h with h | ⟨x, y, hx, hy, h4, h5⟩
  · exact Or.inl h
  · exact Or.inr ⟨x, y, by omega, by omega, h4, h5⟩
theorem OkT.w {bb : Nat} {k : Nat → Int32} (H : OkT bb k) : 0 < k 1 := by
  obtain ⟨-, ⟨w, h1, h9, e⟩, -⟩ := H
  rw [e]; exact nI_lt (a := 0) h1 (by omega)
theorem nI_inj {a b : Nat} (h : nI a = nI b) (ha : a ≤ 100) (hb : b ≤ 100) : a = b := (nI_eq (by omega) (by omega)).mp h
/-- a waiting thrower has two misses running at most -/
theorem OkT.run {bb : Nat} {k : Nat → Int32} (H : OkT bb k) (h7 : k 7 = 0) : ∃ r, k 3 = nI r ∧ r ≤ 2 := by
  obtain ⟨-, -, -, r, a, e, q, h3, -, -, hq7, hr, -, hq, -, -, g, -⟩ := H
  have : q = 0 := nI_inj (hq7.symm.trans h7) (by omega) (by omega)
  refine ⟨r, h3, ?_⟩
  by_cases g3 : r = 3
  · have := g g3; omega
  · omega
theorem OkT.over {bb : Nat} {k : Nat → Int32} (H : OkT bb k) (hb : bb ≤ 11) (h7 : k 7 = 0) : OkT bb (kOver k (nI bb)) := by
  obtain ⟨h0, h1, h4, r, a, e, q, h3, h6, h8, hq7, hr, he, hq, ha, g1, g2, g3⟩ := H
  exact ⟨h0, h1, Or.inr ⟨bb, e, hb, he, rfl, h8⟩, 0, a, e, 1, rfl, h6, h8, rfl, by omega, he, by omega, ha, by omega, by omega, fun q => absurd rfl q⟩
theorem OkT.miss {bb : Nat} {k : Nat → Int32} (H : OkT bb k) (h7 : k 7 = 0) : OkT bb (kMiss k) := by
  obtain ⟨r', h3', hr2⟩ := H.run h7
  obtain ⟨h0, h1, h4, r, a, e, q, h3, h6, h8, hq7, hr, he, hq, ha, g1, g2, g3⟩ := H
  obtain rfl : r = r' := nI_inj (h3.symm.trans h3') (by omega) (by omega)
  have hq0 : q = 0 := nI_inj (hq7.symm.trans h7) (by omega) (by omega)
  have her : e ≤ r := g3 (by omega)
  have e3 : k 3 + 1 = nI (r + 1) := by rw [h3, nI_1]
  refine ⟨h0, h1, h4, r + 1, a + 1, e + 1, if r + 1 < 3 then 0 else 3, e3, ?_, ?_, ?_, by omega, by omega, by split <;> omega, by omega, ?_, ?_, ?_⟩
  · show k 6 + 1 = _; rw [h6, nI_1]
  · show k 8 + 1 = _; rw [h8, nI_1]
  · show (if k 3 + 1 < 3 then k 7 else 3) = _
    rw [e3]
    by_cases g : r + 1 < 3
    · rw [if_pos (show nI (r + 1) < (3 : Int32) from nI_lt (b := 3) g (by omega)), if_pos g, h7]; rfl
    · rw [if_neg (show ¬ nI (r + 1) < (3 : Int32) from nI_nlt (b := 3) (by omega) (by omega)), if_neg g]; rfl
  · split <;> omega
  · split <;> omega
  · intro _; omega
theorem OkT.rest {bb : Nat} {k : Nat → Int32} (H : OkT bb k) (h7 : k 7 = 0) : OkT bb (kRest k) := by
  obtain ⟨r', h3', hr2⟩ := H.run h7
  obtain ⟨h0, h1, h4, r, a, e, q, h3, h6, h8, hq7, hr, he, hq, ha, g1, g2, g3⟩ := H
  obtain rfl : r = r' := nI_inj (h3.symm.trans h3') (by omega) (by omega)
  have hq0 : q = 0 := nI_inj (hq7.symm.trans h7) (by omega) (by omega)
  exact ⟨h0, h1, h4, r, a, e, 2, h3, h6, h8, rfl, hr, he, by omega, ha, by omega, by omega, fun _ => g3 (by omega)⟩
theorem OkT.act {bb : Nat} {k : Nat → Int32} (H : OkT bb k) (hb : bb ≤ 11) (h7 : k 7 = 0) (w : Nat) : OkT bb (kAct k (nI bb) w) := by
  unfold kAct
  split
  · exact H.rest h7
  · split
    · exact H.over hb h7
    · exact H.miss h7
theorem OkT.up {bb : Nat} {k : Nat → Int32} (H : OkT bb k) : OkT (bb + 1) (kUp k) := by
  obtain ⟨h0, h1, h4, r, a, e, q, h3, h6, h8, hq7, hr, he, hq, ha, g1, g2, g3⟩ := H
  refine ⟨h0, h1, h4, r, a, 0, if q = 3 then 3 else 0, h3, h6, rfl, ?_, hr, by omega, by split <;> omega, by omega, ?_, ?_, ?_⟩
  · show (if k 7 = 3 then (3 : Int32) else 0) = _
    rw [hq7]
    by_cases g : q = 3
    · rw [if_pos (by rw [g]; rfl), if_pos g]; rfl
    · rw [if_neg (show ¬ nI q = (3 : Int32) from fun e => g (nI_inj (b := 3) e (by omega) (by omega))), if_neg g]; rfl
  · split
    · intro _; exact g1 (by assumption)
    · omega
  · intro g
    rw [if_pos (g2 g)]
  · intro _; omega
theorem OkT.le {bb bb' : Nat} {k : Nat → Int32} (H : OkT bb k) (hb : bb ≤ bb') : OkT bb' k := by
  obtain ⟨h0, h1, h4, r, a, e, q, h3, h6, h8, hq7, hr, he, hq, ha, g1, g2, g3⟩ := H
  exact ⟨h0, h1, h4, r, a, e, q, h3, h6, h8, hq7, hr, he, hq, by omega, g1, g2, g3⟩
theorem OkC_nxt {n : Nat} (t : Nat → Nat → Int32) (f : Nat) (hn : 0 < n) : nxt n t f n = -9 ∨ ∃ i, i < n ∧ t i 7 = 0 ∧ nxt n t f n = nI i := nxt_ok n t f hn n
theorem b_lt {bb : Nat} (hb : bb ≤ 11) : nI bb < (11 : Int32) ↔ bb < 11 := nI_ltI (b := 11) (by omega) (by omega)
theorem OkC_goOn {n bb i : Nat} {t : Nat → Nat → Int32} (hn : n ≤ 4) (hb : bb ≤ 11) (hi : i < n) (H : ∀ i, i < n → OkT bb (t i)) : ∃ bb', (goOnC n (nI bb) i t).2.1 = nI bb' ∧ OkC n bb' (goOnC n (nI bb) i t).2.2.1 (goOnC n (nI bb) i t).2.2.2 := by
  unfold goOnC
  split
  case isTrue g =>
    have hb2 : bb < 11 := (b_lt hb).mp g.2.1
    refine ⟨bb + 1, nI_1 bb, hn, by omega, OkC_nxt _ _ (by omega), fun j hj => ?_⟩
    show OkT (bb + 1) (upAll t n j)
    unfold upAll mapT
    rw [if_pos hj]
    exact (H j hj).up
  case isFalse g => exact ⟨bb, rfl, hn, hb, OkC_nxt _ _ (by omega), H⟩
theorem OkC_act {n bb i : Nat} {t : Nat → Nat → Int32} (H : OkC n bb (nI i) t) (hi : i < n) (h7 : t i 7 = 0) (w : Nat) : ∃ bb', (actC n (nI bb) i t w).2.1 = nI bb' ∧ OkC n bb' (actC n (nI bb) i t w).2.2.1 (actC n (nI bb) i t w).2.2.2 := by
  refine OkC_goOn H.1 H.2.1 hi (fun j hj => ?_)
  unfold upT
  by_cases g : j = i
  · rw [if_pos g]; exact (H.2.2.2 i hi).act H.2.1 h7 w
  · rw [if_neg g]; exact H.2.2.2 j hj
theorem OkC.turn {n bb i : Nat} {t : Nat → Nat → Int32} (H : OkC n bb (nI i) t) (hi : i < 4) : i < n ∧ t i 7 = 0 := by
  have hn := H.1
  rcases H.2.2.1 with g | ⟨j, hj, h7, e⟩
  · exact absurd g (nI_9 (by omega))
  · obtain rfl : i = j := (nI_eq (by omega) (by omega)).mp e
    exact ⟨hj, h7⟩
theorem OkC.okU {n bb : Nat} {u : Int32} {t : Nat → Nat → Int32} (H : OkC n bb u t) : okU n u := by
  rcases H.2.2.1 with g | ⟨j, hj, h7, e⟩
  · exact Or.inl g
  · exact Or.inr ⟨j, hj, e⟩
theorem OkC.congr {n bb : Nat} {u : Int32} {t t' : Nat → Nat → Int32} (H : OkC n bb u t) (e : ∀ i, i < n → t' i = t i) : OkC n bb u t' := by
  refine ⟨H.1, H.2.1, ?_, fun i hi => by rw [e i hi]; exact H.2.2.2 i hi⟩
  rcases H.2.2.1 with g | ⟨j, hj, h7, e2⟩
  · exact Or.inl g
  · exact Or.inr ⟨j, hj, by rw [e j hj]; exact h7, e2⟩
/-- how far off the end is -/
def pot (k : Nat → Int32) : Nat := if k 7 = 0 then 4 - (k 3).toNatClampNeg else 0
def sumP (t : Nat → Nat → Int32) : Nat → Nat
  | 0 => 0
  | i + 1 => sumP t i + pot (t i)
def mu (n bb : Nat) (t : Nat → Nat → Int32) : Nat := 17 * (11 - bb) + sumP t n
theorem pot_le (k : Nat → Int32) : pot k ≤ 4 := by unfold pot; split <;> omega
theorem sumP_le (t : Nat → Nat → Int32) : ∀ n, sumP t n ≤ 4 * n
  | 0 => Nat.le_refl _
  | n + 1 => by rw [sumP]; have := sumP_le t n; have := pot_le (t n); omega
theorem sumP_congr {t t' : Nat → Nat → Int32} : ∀ n, (∀ i, i < n → t' i = t i) → sumP t' n = sumP t n
  | 0, _ => rfl
  | n + 1, h => by rw [sumP, sumP, sumP_congr n (fun i hi => h i (by omega)), h n (by omega)]
theorem sumP_upT {t : Nat → Nat → Int32} {i : Nat} {k : Nat → Int32} : ∀ n, i < n → sumP (upT t i k) n + pot (t i) = sumP t n + pot k
  | 0, h => absurd h (Nat.not_lt_zero i)
  | n + 1, h => by
    rw [sumP, sumP]
    by_cases g : i = n
    · subst g
      rw [show upT t i k i = k from if_pos rfl, sumP_congr i (t := t) (t' := upT t i k) (fun j hj => if_neg (by omega))]
      omega
    · have := sumP_upT (t := t) (k := k) n (show i < n by omega)
      rw [show upT t i k n = t n from if_neg (by omega)]
      omega
theorem pot_turn {bb : Nat} {k : Nat → Int32} (H : OkT bb k) (h7 : k 7 = 0) {w : Nat} (hw : w < 2) : pot (kAct k (nI bb) w) < pot k := by
  obtain ⟨r, h3, hr⟩ := H.run h7
  have e : pot k = 4 - r := by unfold pot; rw [if_pos h7, h3, nI_clamp (by omega)]
  rw [e]
  match w, hw with
  | 1, _ => show (if (1 : Int32) = 0 then _ else 0) < _; rw [if_neg (by decide)]; omega
  | 0, _ =>
    show (if (if k 3 + 1 < 3 then k 7 else 3) = 0 then 4 - (k 3 + 1).toNatClampNeg else 0) < _
    rw [h3, nI_1, nI_clamp (by omega)]
    by_cases g : nI (r + 1) < (3 : Int32)
    · rw [if_pos g, if_pos h7]; omega
    · rw [if_neg g, if_neg (by decide)]; omega
theorem mu_act {n bb i : Nat} {t : Nat → Nat → Int32} (H : OkC n bb (nI i) t) (hi : i < n) (h7 : t i 7 = 0) {w : Nat} (hw : w < 2) {bb' : Nat} (hb' : (actC n (nI bb) i t w).2.1 = nI bb') (hb2 : bb' ≤ 11) : mu n bb' (actC n (nI bb) i t w).2.2.2 < mu n bb t := by
  have h1 := sumP_upT (t := t) (k := kAct (t i) (nI bb) w) n hi
  have h2 := pot_turn (H.2.2.2 i hi) h7 hw
  have hb := H.2.1
  have hn := H.1
  have hs := sumP_le (actC n (nI bb) i t w).2.2.2 n
  unfold actC goOnC at hb' ⊢ hs
  split at hb'
  case isTrue g =>
    have hb3 : bb < 11 := (b_lt hb).mp g.2.1
    have : bb' = bb + 1 := nI_inj (hb'.symm.trans (nI_1 bb)) (by omega) (by omega)
    rw [if_pos g] at hs ⊢
    unfold mu
    dsimp only at hs ⊢
    omega
  case isFalse g =>
    have : bb' = bb := nI_inj hb'.symm (by omega) (by omega)
    rw [if_neg g]
    unfold mu
    dsimp only
    omega
