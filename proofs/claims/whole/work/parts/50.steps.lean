/-! the steps that only ask -/
theorem inN {x : Int32} {n : Nat} (h : 0 ≤ x ∧ x < nI n) (hn : n < 2 ^ 31) : ∃ i, i < n ∧ x = nI i := by
  obtain ⟨i, hi, e⟩ := nI_of (Int32.not_lt.mpr h.1)
  subst e
  exact ⟨i, (nI_ltI hi hn).mp h.2, rfl⟩
theorem inR {x : Int32} {lo hi : Nat} (h : ¬ (x < nI lo ∨ nI hi < x)) (hl : lo < 2 ^ 31) (hh : hi < 2 ^ 31) : ∃ i, lo ≤ i ∧ i ≤ hi ∧ x = nI i := by
  exact nI_of1 (fun q => h (Or.inl q)) (Int32.not_lt.mp fun q => h (Or.inr q)) hh hl
theorem step_thrower (sc : aC) (x y : Int32) : Step sc MX6_thrower MX7_thrower 4 2 [.int x, .int y] isI := by
  rintro h z ⟨l, B, K, sz, nx, W, sl, kp, seed, ⟨I, J, A, me⟩, hc, hm, h0, hT, hS⟩
  obtain ⟨nxm, r1, r2, r3, r4, r5, e0, e1, e2, e3, e4, e5, e6, T1, T2, T3⟩ := id hS
  obtain ⟨bb, u, t, eK, hC, hE⟩ := T1
  generalize K.1 = n at eK hC hE r5 e0
  subst eK
  by_cases g : 0 ≤ x ∧ x < nI n
  · obtain ⟨i, hi, rfl⟩ := inN g (by omega)
    by_cases g2 : y < nI 0 ∨ nI 8 < y
    · exact pair hm h0 hT ⟨_, rfl⟩ (PU_id (c6_thrower_out r5 hc hi y g2) hc) fun h' z => Fn_pair (c7_thrower_out h' J A me r5 e0 hi g2) hS z
    · obtain ⟨w, -, hw, rfl⟩ := inR g2 (by omega) (by omega)
      exact pair hm h0 hT ⟨_, rfl⟩ (PU_id (c6_thrower r5 hc hi (by omega)) hc) fun h' z => Fn_pair (c7_thrower h' J me r5 e0 hE hi (by omega)) hS z
  · exact pair hm h0 hT ⟨_, rfl⟩ (PU_id (c6_thrower_unk r5 hc x y g) hc) fun h' z => Fn_pair (c7_thrower_unk h' J A me r5 e0 y g) hS z
theorem step_rank (sc : aC) (x : Int32) : Step sc MX6_rank MX7_rank 4 3 [.int x] isI := by
  rintro h z ⟨l, B, K, sz, nx, W, sl, kp, seed, ⟨I, J, A, me⟩, hc, hm, h0, hT, hS⟩
  obtain ⟨nxm, r1, r2, r3, r4, r5, e0, e1, e2, e3, e4, e5, e6, T1, T2, T3⟩ := id hS
  obtain ⟨bb, u, t, eK, hC, hE⟩ := T1
  generalize K.1 = n at eK hC hE r5 e0
  subst eK
  by_cases g : 0 ≤ x ∧ x < nI n
  · obtain ⟨i, hi, rfl⟩ := inN g (by omega)
    exact pair hm h0 hT ⟨_, rfl⟩ (PU_id (c6_rank r5 hc hi) hc) fun h' z => Fn_pair (c7_rank h' J me e0 hE r5 (fun i hi => (hC.2.2.2 i hi).v hC.2.1) hi) hS z
  · exact pair hm h0 hT ⟨_, rfl⟩ (PU_id (c6_rank_unk r5 hc x g) hc) fun h' z => Fn_pair (c7_rank_unk h' J A me r5 e0 g) hS z
theorem step_odds (sc : aC) (x y : Int32) : Step sc MX6_odds MX7_odds 4 3 [.int x, .int y] isI := by
  rintro h z ⟨l, B, K, sz, nx, W, sl, kp, seed, ⟨I, J, A, me⟩, hc, hm, h0, hT, hS⟩
  obtain ⟨nxm, r1, r2, r3, r4, r5, e0, e1, e2, e3, e4, e5, e6, T1, T2, T3⟩ := id hS
  obtain ⟨bb, u, t, eK, hC, hE⟩ := T1
  generalize K.1 = n at eK hC hE r5 e0
  subst eK
  by_cases g : 0 ≤ x ∧ x < nI n
  · obtain ⟨i, hi, rfl⟩ := inN g (by omega)
    by_cases g2 : y < nI 0 ∨ nI 11 < y
    · exact pair hm h0 hT ⟨_, rfl⟩ (PU_id (c6_odds_out r5 hc hi y g2) hc) fun h' z => Fn_pair (c7_odds_out h' J A me r5 e0 hi g2) hS z
    · obtain ⟨w, -, hw, rfl⟩ := inR g2 (by omega) (by omega)
      exact pair hm h0 hT ⟨_, rfl⟩ (PU_id (c6_odds r5 hc hi hw) hc) fun h' z => Fn_pair (c7_odds h' J me r5 e0 hE hi (hC.2.2.2 i hi).w hw) hS z
  · exact pair hm h0 hT ⟨_, rfl⟩ (PU_id (c6_odds_unk r5 hc x y g) hc) fun h' z => Fn_pair (c7_odds_unk h' J A me r5 e0 y g) hS z
theorem step_count (sc : aC) (x : Int32) : Step sc MX6_count MX7_count 4 4 [.int x] isI := by
  rintro h z ⟨l, B, K, sz, nx, W, sl, kp, seed, ⟨I, J, A, me⟩, hc, hm, h0, hT, hS⟩
  obtain ⟨nxm, r1, r2, r3, r4, r5, e0, e1, e2, e3, e4, e5, e6, T1, T2, T3⟩ := id hS
  obtain ⟨bb, u, t, eK, hC, hE⟩ := T1
  generalize K.1 = n at eK hC hE r5 e0
  subst eK
  by_cases g2 : x < nI 0 ∨ nI 8 < x
  · exact pair hm h0 hT ⟨_, rfl⟩ (PU_id (c6_count_out x g2) hc) fun h' z => Fn_pair (c7_count_out h' _ x g2) hS z
  · obtain ⟨w, -, hw, rfl⟩ := inR g2 (by omega) (by omega)
    exact pair hm h0 hT ⟨_, rfl⟩ (PU_id (c6_count r5 hc (show w < 9 by omega)) hc) fun h' z => Fn_pair (c7_count h' J me e0 e1 e2 hE hC (by omega)) hS z
theorem RelS.mv {l : Nat} {B : Nat → Int32} {K : Cn} {sz nx : Nat} {W sl : Nat → Cn} {kp : Nat → Int32} {seed : Int64} {I : Nat → Int32} {J J' : Nat → Int64} {A A' : Nat → Nat → Int32} {me me' : Nat → Int64} (H : RelS l B K sz nx W sl kp seed (I, J, A, me)) (hJ : J' 2 = J 2) (hA : ∀ k, k ≠ 3 → k ≠ 5 → k ≠ 6 → A' k = A k) (h3 : ∀ q, q < 30 → A' 3 q = A 3 q) : RelS l B K sz nx W sl kp seed (I, J', A', me') := by
  obtain ⟨nxm, r1, r2, r3, r4, r5, e0, e1, e2, e3, e4, e5, e6, T1, T2, T3⟩ := H
  have a0 : A' 0 = A 0 := hA 0 (by omega) (by omega) (by omega)
  have a1 : A' 1 = A 1 := hA 1 (by omega) (by omega) (by omega)
  refine ⟨nxm, r1, r2, r3, r4, r5, e0, e1, e2, e3, hJ.trans e4, (hA 2 (by omega) (by omega) (by omega)).trans e5, fun j hj => (congrFun (hA 7 (by omega) (by omega) (by omega)) j).trans (e6 j hj), ?_, ?_, ?_⟩
  · obtain ⟨bb, u, t, eK, hC, hE⟩ := T1
    refine ⟨bb, u, t, eK, hC, ?_⟩
    show EnG (A' 0) (A' 1) (A' 3) 0 _ _ _ _
    rw [a0, a1]
    exact EnG.same hE r5 (fun q _ hq => h3 q (by omega))
  · show ∀ d, d < sz → Tell K.1 (A' 0) (A' 1) (A' 4) _ _
    rw [a0, a1, hA 4 (by omega) (by omega) (by omega)]
    exact T2
  · show ∀ j, j < 2 → kp j ≠ 0 → Tell K.1 (A' 0) (A' 1) (A' 8) _ _
    rw [a0, a1, hA 8 (by omega) (by omega) (by omega)]
    exact T3
theorem not3 {bb : Nat} {k : Nat → Int32} (H : OkT bb k) (h7 : ¬ k 7 = 3) : ∃ r, k 3 = nI r ∧ r ≤ 2 := by
  obtain ⟨-, -, -, r, a, e, q, h3, -, -, hq7, hr, -, hq, -, -, g, -⟩ := H
  refine ⟨r, h3, ?_⟩
  by_cases g3 : r = 3
  · exact absurd (by rw [hq7, g g3]; rfl) h7
  · omega
theorem step_clears (sc : aC) (x y : Int32) : Step sc MX6_clears MX7_clears 40 4 [.int x, .int y] isI := by
  rintro h z ⟨l, B, K, sz, nx, W, sl, kp, seed, ⟨I, J, A, me⟩, hc, hm, h0, hT, hS⟩
  obtain ⟨nxm, r1, r2, r3, r4, r5, e0, e1, e2, e3, e4, e5, e6, T1, T2, T3⟩ := id hS
  obtain ⟨bb, u, t, eK, hC, hE⟩ := T1
  generalize K.1 = n at eK hC hE r5 e0
  subst eK
  by_cases g : 0 ≤ x ∧ x < nI n
  · obtain ⟨i, hi, rfl⟩ := inN g (by omega)
    by_cases g2 : t i 7 = 3
    · exact pair hm h0 hT ⟨_, rfl⟩ (PU_id (c6_clears_out r5 hc hi y g2) hc) fun h' z => Fn_pair (c7_clears_out h' J me r5 e0 hE hi y g2) hS z
    · obtain ⟨r, hr, hr2⟩ := not3 (hC.2.2.2 i hi) g2
      exact pair hm h0 hT ⟨_, rfl⟩ (PU_id (c6_clears r5 hc hi y g2 hr (by omega)) hc) fun h' z => Fn_pair (c7_clears h' J me r5 e0 hE hi y g2 (hC.2.2.2 i hi).w hr (by omega)) hS z
  · exact pair hm h0 hT ⟨_, rfl⟩ (PU_id (c6_clears_unk r5 hc x y g) hc) fun h' z => Fn_pair (c7_clears_unk h' J A me r5 e0 y g) hS z
theorem step_alone (sc : aC) (x x2 y : Int32) : Step sc MX6_alone MX7_alone 40 4 [.int x, .int x2, .int y] isI := by
  rintro h z ⟨l, B, K, sz, nx, W, sl, kp, seed, ⟨I, J, A, me⟩, hc, hm, h0, hT, hS⟩
  obtain ⟨nxm, r1, r2, r3, r4, r5, e0, e1, e2, e3, e4, e5, e6, T1, T2, T3⟩ := id hS
  obtain ⟨bb, u, t, eK, hC, hE⟩ := T1
  generalize K.1 = n at eK hC hE r5 e0
  subst eK
  by_cases g : 0 ≤ x ∧ x < nI n
  case neg => exact pair hm h0 hT ⟨_, rfl⟩ (PU_id (c6_alone_unk r5 hc x x2 y (Or.inl g)) hc) fun h' z => Fn_pair (c7_alone_unk h' J A me r5 e0 y (Or.inl g)) hS z
  by_cases g' : 0 ≤ x2 ∧ x2 < nI n
  case neg => exact pair hm h0 hT ⟨_, rfl⟩ (PU_id (c6_alone_unk r5 hc x x2 y (Or.inr g')) hc) fun h' z => Fn_pair (c7_alone_unk h' J A me r5 e0 y (Or.inr g')) hS z
  obtain ⟨i, hi, rfl⟩ := inN g (by omega)
  obtain ⟨j, hj, rfl⟩ := inN g' (by omega)
  by_cases gij : i = j
  · subst gij
    exact pair hm h0 hT ⟨_, rfl⟩ (PU_id (c6_alone_one r5 hc hi y) hc) fun h' z => Fn_pair (c7_alone_one h' J A me r5 e0 hi y) hS z
  by_cases g2 : t i 7 = 3 ∨ t j 7 = 3
  · exact pair hm h0 hT ⟨_, rfl⟩ (PU_id (c6_alone_out r5 hc hi hj gij y g2) hc) fun h' z => Fn_pair (c7_alone_out h' J me r5 e0 hE hi hj gij y g2) hS z
  · obtain ⟨r, hr, hr2⟩ := not3 (hC.2.2.2 i hi) (fun q => g2 (Or.inl q))
    obtain ⟨s, hs, hs2⟩ := not3 (hC.2.2.2 j hj) (fun q => g2 (Or.inr q))
    exact pair hm h0 hT ⟨_, rfl⟩ (PU_id (c6_alone r5 hc hi hj gij y (fun q => g2 (Or.inl q)) (fun q => g2 (Or.inr q)) hr (by omega) hs (by omega)) hc) fun h' z => Fn_pair (c7_alone h' J me r5 e0 hE hi hj gij y (fun q => g2 (Or.inl q)) (fun q => g2 (Or.inr q)) (hC.2.2.2 i hi).w (hC.2.2.2 j hj).w hr (by omega) hs (by omega)) hS z
theorem step_sheets (sc : aC) (x y w : Int32) : Step sc MX6_sheets MX7_sheets 4 2 [.int x, .int y, .int w] isI := by
  rintro h z ⟨l, B, K, sz, nx, W, sl, kp, seed, ⟨I, J, A, me⟩, hc, hm, h0, hT, hS⟩
  by_cases g : x < nI 1 ∨ nI 6 < x ∨ y < nI 0 ∨ x < y ∨ w < nI 0 ∨ nI 18 < w
  · exact pair hm h0 hT ⟨_, rfl⟩ (PU_id (c6_sheets_out x y w g) hc) fun h' z => Fn_pair (c7_sheets_out h' _ x y w g) hS z
  · obtain ⟨n, hn1, hn6, rfl⟩ := inR (x := x) (lo := 1) (hi := 6) (fun q => g (q.elim Or.inl (fun q => Or.inr (Or.inl q)))) (by omega) (by omega)
    obtain ⟨m, -, hm18, rfl⟩ := inR (x := w) (lo := 0) (hi := 18) (fun q => g (Or.inr (Or.inr (Or.inr (Or.inr q))))) (by omega) (by omega)
    obtain ⟨k, hk, rfl⟩ : ∃ k, k ≤ n ∧ y = nI k := by
      obtain ⟨k, -, hk, e⟩ := inR (x := y) (lo := 0) (hi := n) (fun q => g (Or.inr (Or.inr (q.elim Or.inl (fun q => Or.inr (Or.inl q)))))) (by omega) (by omega)
      exact ⟨k, hk, e⟩
    have P6 := c6_sheets hc n k m hn1 hn6 hk hm18
    rw [suchOf_eq hn1 hn6 hk hm18] at P6
    refine pair hm h0 hT ⟨_, rfl⟩ P6 fun h' z => ?_
    refine (c7_sheets h' I J A me hn1 hn6 hk hm18 z).mono' ?_
    rintro v h'' z' ⟨q1, q2, A', q3, q4⟩
    exact ⟨q1, q2, _, q3, hS.mv rfl (fun k _ k5 k6 => q4 k k5 k6) (fun q _ => by rw [q4 3 (by omega) (by omega)])⟩
