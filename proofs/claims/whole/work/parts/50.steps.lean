/-! the steps that only ask -/
theorem inN {x : Int32} {n : Nat} (h : 0 ≤ x ∧ x < nI n) (hn : n < 2 ^ 31) : ∃ i, i < n ∧ x = nI i := by
  obtain ⟨i, hi, e⟩ := nI_of (Int32.not_lt.mpr h.1)
  subst e
  exact ⟨i, (nI_ltI hi hn).mp h.2, rfl⟩
theorem inR {x : Int32} {lo hi : Nat} (h : ¬ (x < nI lo ∨ nI hi < x)) (hl : lo < 2 ^ 31) (hh : hi < 2 ^ 31) : ∃ i, lo ≤ i ∧ i ≤ hi ∧ x = nI i := by
  exact nI_of1 (fun q => h (Or.inl q)) (Int32.not_lt.mp fun q => h (Or.inr q)) hh hl
theorem step_thrower (sc : aC) (x y : Int32) : Step sc MX6_thrower MX7_thrower 4 2 [.int x, .int y] isI := by
  rintro h z ⟨l, B, K, sz, nx, W, sl, kp, seed, ⟨I, J, A, me⟩, hc, hm, h0, hT, hS⟩
  obtain ⟨nxm, r1, r2, r3, r4, r5, e0, e1, e2, e3, e4, e5, e6, T1, T2, T3⟩ := id hS
  obtain ⟨bb, u, t, eK, hC, hE⟩ := T1
  generalize K.1 = n at eK hC hE r5 e0
  subst eK
  by_cases g : 0 ≤ x ∧ x < nI n
  · obtain ⟨i, hi, rfl⟩ := inN g (by omega)
    by_cases g2 : y < nI 0 ∨ nI 8 < y
    · exact pair hm h0 hT ⟨_, rfl⟩ (PU_id (c6_thrower_out r5 hc hi y g2) hc) fun h' z => Fn_pair (c7_thrower_out h' J A me r5 e0 hi g2) hS z
    · obtain ⟨w, -, hw, rfl⟩ := inR g2 (by omega) (by omega)
      exact pair hm h0 hT ⟨_, rfl⟩ (PU_id (c6_thrower r5 hc hi (by omega)) hc) fun h' z => Fn_pair (c7_thrower h' J me r5 e0 hE hi (by omega)) hS z
  · exact pair hm h0 hT ⟨_, rfl⟩ (PU_id (c6_thrower_unk r5 hc x y g) hc) fun h' z => Fn_pair (c7_thrower_unk h' J A me r5 e0 y g) hS z
theorem step_rank (sc : aC) (x : Int32) : Step sc MX6_rank MX7_rank 4 3 [.int x] isI := by
  rintro h z ⟨l, B, K, sz, nx, W, sl, kp, seed, ⟨I, J, A, me⟩, hc, hm, h0, hT, hS⟩
  obtain ⟨nxm, r1, r2, r3, r4, r5, e0, e1, e2, e3, e4, e5, e6, T1, T2, T3⟩ := id hS
  obtain ⟨bb, u, t, eK, hC, hE⟩ := T1
  generalize K.1 = n at eK hC hE r5 e0
  subst eK
  by_cases g : 0 ≤ x ∧ x < nI n
  · obtain ⟨i, hi, rfl⟩ := inN g (by omega)
    exact pair hm h0 hT ⟨_, rfl⟩ (PU_id (c6_rank r5 hc hi) hc) fun h' z => Fn_pair (c7_rank h' J me e0 hE r5 (fun i hi => (hC.2.2.2 i hi).v hC.2.1) hi) hS z
  · exact pair hm h0 hT ⟨_, rfl⟩ (PU_id (c6_rank_unk r5 hc x g) hc) fun h' z => Fn_pair (c7_rank_unk h' J A me r5 e0 g) hS z
theorem step_odds (sc : aC) (x y : Int32) : Step sc MX6_odds MX7_odds 4 3 [.int x, .int y] isI := by
  rintro h z ⟨l, B, K, sz, nx, W, sl, kp, seed, ⟨I, J, A, me⟩, hc, hm, h0, hT, hS⟩
  obtain ⟨nxm, r1, r2, r3, r4, r5, e0, e1, e2, e3, e4, e5, e6, T1, T2, T3⟩ := id hS
  obtain ⟨bb, u, t, eK, hC, hE⟩ := T1
  generalize K.1 = n at eK hC hE r5 e0
  subst eK
  by_cases g : 0 ≤ x ∧ x < nI n
  · obtain ⟨i, hi, rfl⟩ := inN g (by omega)
    by_cases g2 : y < nI 0 ∨ nI 11 < y
    · exact pair hm h0 hT ⟨_, rfl⟩ (PU_id (c6_odds_out r5 hc hi y g2) hc) fun h' z => Fn_pair (c7_odds_out h' J A me r5 e0 hi g2) hS z
    · obtain ⟨w, -, hw, rfl⟩ := inR g2 (by omega) (by omega)
      exact pair hm h0 hT ⟨_, rfl⟩ (PU_id (c6_odds r5 hc hi hw) hc) fun h' z => Fn_pair (c7_odds h' J me r5 e0 hE hi (hC.2.2.2 i hi).w hw) hS z
  · exact pair hm h0 hT ⟨_, rfl⟩ (PU_id (c6_odds_unk r5 hc x y g) hc) fun h' z => Fn_pair (c7_odds_unk h' J A me r5 e0 y g) hS z
theorem step_count (sc : aC) (x : Int32) : Step sc MX6_count MX7_count 4 4 [.int x] isI := by
  rintro h z ⟨l, B, K, sz, nx, W, sl, kp, seed, ⟨I, J, A, me⟩, hc, hm, h0, hT, hS⟩
  obtain ⟨nxm, r1, r2, r3, r4, r5, e0, e1, e2, e3, e4, e5, e6, T1, T2, T3⟩ := id hS
  obtain ⟨bb, u, t, eK, hC, hE⟩ := T1
  generalize K.1 = n at eK hC hE r5 e0
  subst eK
  by_cases g2 : x < nI 0 ∨ nI 8 < x
  · exact pair hm h0 hT ⟨_, rfl⟩ (PU_id (c6_count_out x g2) hc) fun h' z => Fn_pair (c7_count_out h' _ x g2) hS z
  · obtain ⟨w, -, hw, rfl⟩ := inR g2 (by omega) (by omega)
    exact pair hm h0 hT ⟨_, rfl⟩ (PU_id (c6_count r5 hc (show w < 9 by omega)) hc) fun h' z => Fn_pair (c7_count h' J me e0 e1 e2 hE hC (by omega)) hS z
