/-! the steps that look ahead, judge and play -/
theorem En_mapT {A : Nat → Nat → Int32} {n : Nat} {b u : Int32} {t : Nat → Nat → Int32} (H : En A 0 n b u t) (t0 : Nat → Nat → Int32) : En A 0 n b u (mapT (fun j _ => t j) t0 n) := H.congr (fun i hi j _ => by rw [mapT_id t n t0 hi])
theorem step_judge (sc : aC) (x y : Int32) : Step sc MX6_judge MX7_judge 5 5 [.int x, .int y] isI := by
  rintro h z ⟨l, B, K, sz, nx, W, sl, kp, seed, ⟨I, J, A, me⟩, hc, hm, h0, hT, hS⟩
  obtain ⟨nxm, r1, r2, r3, r4, r5, e0, e1, e2, e3, e4, e5, e6, T1, T2, T3⟩ := id hS
  obtain ⟨bb, u, t, eK, hC, hE⟩ := T1
  generalize K.1 = n at eK hC hE r5 e0
  subst eK
  by_cases g : x < nI 1 ∨ nI 8 < x
  · exact pair hm h0 hT ⟨_, rfl⟩ (PU_id (c6_judge_n x y g) hc) fun h' z => Fn_pair (c7_judge_n h' _ x y g) hS z
  obtain ⟨m, h1, h8, rfl⟩ := inR g (by omega) (by omega)
  by_cases g2 : y < 0
  · exact pair hm h0 hT ⟨_, rfl⟩ (PU_id (c6_judge_neg h1 h8 y g2) hc) fun h' z => Fn_pair (c7_judge_neg h' _ h1 h8 y g2) hS z
  obtain ⟨R9, hR, rfl⟩ := nI_of g2
  by_cases g3 : 10 ^ m ≤ R9
  · exact pair hm h0 hT ⟨_, rfl⟩ (PU_id (c6_judge_big hT h1 h8 hR g3) hc) fun h' z => Fn_pair (c7_judge_big h' _ h1 h8 hR g3) hS z
  obtain ⟨t0, P6⟩ := c6_judge hT r5 hC.okU hc h1 h8 (show R9 < 10 ^ m by omega)
  refine pair hm h0 hT ⟨_, rfl⟩ P6 fun h' z => ?_
  refine (c7_judge h' J me e0 (En_mapT hE t0) (hC.congr fun i hi => mapT_id t n t0 hi) h1 h8 (show R9 < 10 ^ m by omega) z).mono' ?_
  rintro v h'' z' ⟨q1, q2, A', q3, q4⟩
  exact ⟨q1, q2, _, q3, hS.mv rfl (fun k k3 _ _ => q4.1 k k3) (fun q hq => q4.2 q (by omega))⟩
theorem RelS.seed' {l : Nat} {B : Nat → Int32} {K : Cn} {sz nx : Nat} {W sl : Nat → Cn} {kp : Nat → Int32} {seed : Int64} {s : Ms} (H : RelS l B K sz nx W sl kp seed s) (v : Int64) : RelS l B K sz nx W sl kp v (s.1, upL s.2.1 2 v, s.2.2) := by
  obtain ⟨nxm, r1, r2, r3, r4, r5, e0, e1, e2, e3, e4, e5, e6, T1, T2, T3⟩ := H
  exact ⟨nxm, r1, r2, r3, r4, r5, e0, e1, e2, e3, rfl, e5, e6, T1, T2, T3⟩
theorem step_fair (sc : aC) : Step sc MX6_fair MX7_fair 5 5 [] isI := by
  rintro h z ⟨l, B, K, sz, nx, W, sl, kp, seed, ⟨I, J, A, me⟩, hc, hm, h0, hT, hS⟩
  obtain ⟨nxm, r1, r2, r3, r4, r5, e0, e1, e2, e3, e4, e5, e6, T1, T2, T3⟩ := id hS
  obtain ⟨bb, u, t, eK, hC, hE⟩ := T1
  generalize K.1 = n at eK hC hE r5 e0
  subst eK
  obtain ⟨t0, P6⟩ := c6_fair r5 hC.okU hc
  refine pair hm h0 hT ⟨_, rfl⟩ P6 fun h' z => ?_
  refine (c7_fair h' J me e0 e4 (En_mapT hE t0) (hC.congr fun i hi => mapT_id t n t0 hi) z).mono' ?_
  rintro v h'' z' ⟨q1, q2, A', q3, q4⟩
  exact ⟨q1, q2, _, q3, (hS.seed' _).mv (J := upL J 2 _) rfl (fun k k3 _ _ => q4.1 k k3) (fun q hq => q4.2 q (by omega))⟩
theorem step_seed2 (sc : aC) (v : Int64) : Step sc MX6_seed MX7_seed 4 0 [.long v] isL := step_seed sc v
