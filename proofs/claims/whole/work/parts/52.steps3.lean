/-! the steps that change the text and the field -/
theorem wI_self {I : Nat → Int32} {l : Nat} (h : I 1 = nI l) (B : Nat → Int32) : wI I (l, B) = I := by
  funext j
  show (if j = 1 then nI l else I j) = I j
  by_cases g : j = 1
  · rw [if_pos g, g, h]
  · rw [if_neg g]
theorem wA_self {A : Nat → Nat → Int32} {B : Nat → Int32} (h : A 2 = B) (l : Nat) : wA A (l, B) = A := by
  funext j
  show (if j = 2 then B else A j) = A j
  by_cases g : j = 2
  · rw [if_pos g, g, h]
  · rw [if_neg g]
theorem step_write (sc : aC) (x : Int32) (v : Int64) : Step sc MX6_write MX7_write 4 3 [.int x, .long v] isI := by
  rintro h z ⟨l, B, K, sz, nx, W, sl, kp, seed, ⟨I, J, A, me⟩, hc, hm, h0, hT, hS⟩
  obtain ⟨nxm, r1, r2, r3, r4, r5, e0, e1, e2, e3, e4, e5, e6, T1, T2, T3⟩ := id hS
  by_cases g : x < nI 1 ∨ nI 8 < x
  · exact pair hm h0 hT ⟨_, rfl⟩ (PU_id (c6_write_no hc x v g) hc) fun h' z => Fn_pair (c7_write_no h' _ x v g) hS z
  obtain ⟨n, h1, h8, rfl⟩ := inR g (by omega) (by omega)
  by_cases g2 : 16 < l + n
  · exact pair hm h0 hT ⟨_, rfl⟩ (PU_id (c6_write_full hc r1 n v h1 h8 g2) hc) fun h' z => Fn_pair (c7_write_full h' J A me e1 r1 h1 h8 g2 v) hS z
  · have g3 : l + n ≤ 16 := by omega
    have P6 := c6_write_ok hc n v h1 h8 g3
    have P7 := fun h' => c7_write_ok h' I J A me B h1 h8 g3 v
    simp only [wI_self e1, wA_self e5] at P7
    have hlen : (app v n (l, B)).1 ≤ 16 := by rw [app_len]; exact g3
    generalize app v n (l, B) = T9 at P6 P7 hlen
    obtain ⟨l9, B9⟩ := T9
    exact pair hm h0 hT ⟨_, rfl⟩ P6 fun h' z => Pr_pair (P7 h') ⟨nxm, hlen, r2, r3, r4, r5, e0, rfl, e2, e3, e4, rfl, e6, T1, T2, T3⟩ z
theorem srch_all (g : Nat → Bool) : ∀ j p, srch g p j = p + j → ∀ i, p ≤ i → i < p + j → g i = true
  | 0, p, _, i, h1, h2 => by omega
  | j + 1, p, h, i, h1, h2 => by
    rw [srch] at h
    by_cases gp : g p = true
    · rw [if_pos gp] at h
      by_cases e : i = p
      · exact e ▸ gp
      · exact srch_all g j (p + 1) (by omega) i (by omega) (by omega)
    · rw [if_neg gp] at h; omega
/-- a text without fault -/
theorem flt_ok {l : Nat} {B : Nat → Int32} (hl : l ≤ 16) (h : flt l B = -9) : ∃ n, n ≤ 4 ∧ l = 3 * n + 2 ∧ ∀ i, i < l → stand i (B i) = true := by
  unfold flt at h
  by_cases g : srch (fun p => stand p (B p)) 0 l < l
  · rw [if_pos g] at h; exact absurd h (nI_9 (by omega))
  rw [if_neg g] at h
  by_cases g2 : l < 2 ∨ (l - 2) % 3 ≠ 0
  · rw [if_pos g2] at h; exact absurd h (nI_9 (by omega))
  have hle := srch_le (fun p => stand p (B p)) l 0
  have hall := srch_all (fun p => stand p (B p)) l 0 (by omega)
  have h14 : l ≤ 14 := by
    by_cases q : l ≤ 14
    · exact q
    · have e := hall 14 (by omega) (by omega)
      exact absurd (show false = true from e) (by decide)
  exact ⟨(l - 2) / 3, by omega, by omega, fun i hi => hall i (by omega) (by omega)⟩
theorem rng_of {lo : Nat} {s : Int32} (h : rng (nI lo) s = true) (h48 : 48 ≤ lo) (h2 : lo < 58) : ∃ m, lo - 48 ≤ m ∧ m ≤ 9 ∧ s - 48 = nI m := by
  simp only [rng, Bool.and_eq_true, Bool.not_eq_true', decide_eq_false_iff_not] at h
  obtain ⟨m, q1, q2, rfl⟩ := inR (x := s) (lo := lo) (hi := 57) (fun q => q.elim h.1 h.2) (by omega) (by omega)
  exact ⟨m - 48, by omega, by omega, nI_sub (b := 48) (by omega)⟩
theorem OkT_start {bb s w : Nat} (hs : s ≤ 9) (h1 : 1 ≤ w) (hw : w ≤ 9) : OkT bb (kStart (nI s) (nI w)) := ⟨⟨s, hs, rfl⟩, ⟨w, h1, hw, rfl⟩, Or.inl ⟨rfl, rfl⟩, 0, 0, 0, 0, rfl, rfl, rfl, rfl, by omega, by omega, by omega, by omega, by omega, by omega, by omega⟩
theorem OkC_start {n : Nat} {B : Nat → Int32} (hn : n ≤ 4) (hst : ∀ i, i < 3 * n + 2 → stand i (B i) = true) (t : Nat → Nat → Int32) : ∃ bb, B 1 - 48 = nI bb ∧ OkC n bb (startC B n t).2.2.1 (startC B n t).2.2.2 := by
  obtain ⟨bb, -, hb, eb⟩ := rng_of (lo := 48) (s := B 1) (hst 1 (by omega)) (by omega) (by omega)
  have ht : ∀ i, i < n → mapT (startT B) t n i = kStart (B (3 * i + 3) - 48) (B (3 * i + 4) - 48) := fun i hi => by simp [mapT, hi, startT]
  refine ⟨bb, eb, hn, by omega, ?_, fun i hi => ?_⟩
  · have e : (startC B n t).2.2.1 = if 0 < n then 0 else -9 := nxt_all0 (fun i hi => by rw [ht i hi]; rfl)
    by_cases g : 0 < n
    · refine Or.inr ⟨0, g, ?_, by rw [e, if_pos g]; rfl⟩
      show mapT (startT B) t n 0 7 = 0
      rw [ht 0 g]; rfl
    · exact Or.inl (by rw [e, if_neg g])
  · show OkT bb (mapT (startT B) t n i)
    rw [ht i hi]
    have g3 := hst (3 * i + 3) (by omega)
    have g4 := hst (3 * i + 4) (by omega)
    simp only [stand, if_neg (show ¬ 3 * i + 3 = 0 by omega), if_neg (show ¬ 3 * i + 3 = 1 by omega), if_pos (show 3 * i + 3 < 14 by omega), if_neg (show ¬ (3 * i + 3 - 2) % 3 = 0 by omega), if_pos (show (3 * i + 3 - 2) % 3 = 1 by omega)] at g3
    simp only [stand, if_neg (show ¬ 3 * i + 4 = 0 by omega), if_neg (show ¬ 3 * i + 4 = 1 by omega), if_pos (show 3 * i + 4 < 14 by omega), if_neg (show ¬ (3 * i + 4 - 2) % 3 = 0 by omega), if_neg (show ¬ (3 * i + 4 - 2) % 3 = 1 by omega)] at g4
    obtain ⟨s, -, hs, es⟩ := rng_of (lo := 48) g3 (by omega) (by omega)
    obtain ⟨w, h1, hw, ew⟩ := rng_of (lo := 49) g4 (by omega) (by omega)
    rw [es, ew]
    exact OkT_start hs (by omega) hw
theorem step_field (sc : aC) : Step sc MX6_field MX7_field 4 3 [] isI := by
  rintro h z ⟨l, B, K, sz, nx, W, sl, kp, seed, ⟨I, J, A, me⟩, hc, hm, h0, hT, hS⟩
  obtain ⟨nxm, r1, r2, r3, r4, r5, e0, e1, e2, e3, e4, e5, e6, T1, T2, T3⟩ := id hS
  by_cases hf : flt l B = -9
  case neg => exact pair hm h0 hT ⟨_, rfl⟩ (PU_id (c6_field_no hc r1 hf) hc) fun h' z => Fn_pair (c7_field_no h' J me r1 e1 e5 hf) hS z
  obtain ⟨n, hn, rfl, hst⟩ := flt_ok r1 hf
  refine pair hm h0 hT ⟨_, rfl⟩ (c6_field hn hc hf) fun h' z => ?_
  refine (c7_field h' J me hn e1 e5 hf z).mono' ?_
  rintro v h'' z' ⟨q1, q2, A', q3, q4, q5, q6, q7⟩
  refine ⟨q1, q2, _, q3, nxm, r1, Nat.zero_le _, by omega, r4, hn, rfl, e1, rfl, e3, e4, q4, fun j hj => ?_, ?_, fun d hd => absurd hd (Nat.not_lt_zero _), fun j hj hk => ?_⟩
  · match j, hj with
    | 0, _ => exact q5
    | 1, _ => exact q6
  · obtain ⟨bb, eb, hC⟩ := OkC_start hn hst K.2.2.2
    refine ⟨bb, (startC B n K.2.2.2).2.2.1, (startC B n K.2.2.2).2.2.2, by rw [← eb]; rfl, hC, ?_⟩
    rw [← eb]
    exact q7 K.2.2.2
  · match j, hj with
    | 0, _ => exact absurd rfl hk
    | 1, _ => exact absurd rfl hk
