/-! the steps that look ahead, judge and play -/
theorem En_mapT {A : Nat → Nat → Int32} {n : Nat} {b u : Int32} {t : Nat → Nat → Int32} (H : En A 0 n b u t) (t0 : Nat → Nat → Int32) : En A 0 n b u (mapT (fun j _ => t j) t0 n) := H.congr (fun i hi j _ => by rw [mapT_id t n t0 hi])
theorem step_judge (sc : aC) (x y : Int32) : Step sc MX6_judge MX7_judge 5 5 [.int x, .int y] isI := by
  rintro h z ⟨l, B, K, sz, nx, W, sl, kp, seed, ⟨I, J, A, me⟩, hc, hm, h0, hT, hS⟩
  obtain ⟨nxm, r1, r2, r3, r4, r5, e0, e1, e2, e3, e4, e5, e6, T1, T2, T3⟩ := id hS
  obtain ⟨bb, u, t, eK, hC, hE⟩ := T1
  generalize K.1 = n at eK hC hE r5 e0
  subst eK
  by_cases g : x < nI 1 ∨ nI 8 < x
  · exact pair hm h0 hT ⟨_, rfl⟩ (PU_id (c6_judge_n x y g) hc) fun h' z => Fn_pair (c7_judge_n h' _ x y g) hS z
  obtain ⟨m, h1, h8, rfl⟩ := inR g (by omega) (by omega)
  by_cases g2 : y < 0
  · exact pair hm h0 hT ⟨_, rfl⟩ (PU_id (c6_judge_neg h1 h8 y g2) hc) fun h' z => Fn_pair (c7_judge_neg h' _ h1 h8 y g2) hS z
  obtain ⟨R9, hR, rfl⟩ := nI_of g2
  by_cases g3 : 10 ^ m ≤ R9
  · exact pair hm h0 hT ⟨_, rfl⟩ (PU_id (c6_judge_big hT h1 h8 hR g3) hc) fun h' z => Fn_pair (c7_judge_big h' _ h1 h8 hR g3) hS z
  obtain ⟨t0, P6⟩ := c6_judge hT r5 hC.okU hc h1 h8 (show R9 < 10 ^ m by omega)
  refine pair hm h0 hT ⟨_, rfl⟩ P6 fun h' z => ?_
  refine (c7_judge h' J me e0 (En_mapT hE t0) (hC.congr fun i hi => mapT_id t n t0 hi) h1 h8 (show R9 < 10 ^ m by omega) z).mono' ?_
  rintro v h'' z' ⟨q1, q2, A', q3, q4⟩
  exact ⟨q1, q2, _, q3, hS.mv rfl (fun k k3 _ _ => q4.1 k k3) (fun q hq => q4.2 q (by omega))⟩
theorem RelS.seed' {l : Nat} {B : Nat → Int32} {K : Cn} {sz nx : Nat} {W sl : Nat → Cn} {kp : Nat → Int32} {seed : Int64} {s : Ms} (H : RelS l B K sz nx W sl kp seed s) (v : Int64) : RelS l B K sz nx W sl kp v (s.1, upL s.2.1 2 v, s.2.2) := by
  obtain ⟨nxm, r1, r2, r3, r4, r5, e0, e1, e2, e3, e4, e5, e6, T1, T2, T3⟩ := H
  exact ⟨nxm, r1, r2, r3, r4, r5, e0, e1, e2, e3, rfl, e5, e6, T1, T2, T3⟩
theorem step_fair (sc : aC) : Step sc MX6_fair MX7_fair 5 5 [] isI := by
  rintro h z ⟨l, B, K, sz, nx, W, sl, kp, seed, ⟨I, J, A, me⟩, hc, hm, h0, hT, hS⟩
  obtain ⟨nxm, r1, r2, r3, r4, r5, e0, e1, e2, e3, e4, e5, e6, T1, T2, T3⟩ := id hS
  obtain ⟨bb, u, t, eK, hC, hE⟩ := T1
  generalize K.1 = n at eK hC hE r5 e0
  subst eK
  obtain ⟨t0, P6⟩ := c6_fair r5 hC.okU hc
  refine pair hm h0 hT ⟨_, rfl⟩ P6 fun h' z => ?_
  refine (c7_fair h' J me e0 e4 (En_mapT hE t0) (hC.congr fun i hi => mapT_id t n t0 hi) z).mono' ?_
  rintro v h'' z' ⟨q1, q2, A', q3, q4⟩
  exact ⟨q1, q2, _, q3, (hS.seed' _).mv (J := upL J 2 _) rfl (fun k k3 _ _ => q4.1 k k3) (fun q hq => q4.2 q (by omega))⟩
theorem step_seed2 (sc : aC) (v : Int64) : Step sc MX6_seed MX7_seed 4 0 [.long v] isL := step_seed sc v
theorem ref_split {h : Hp} {T : Tx} {n bb : Nat} {u : Int32} {t : Nat → Nat → Int32} {sz nx : Nat} {W sl : Nat → Cn} {kp : Nat → Int32} {seed : Int64} (hn : n ≤ 4) (hb : bb ≤ 11) (H : cls h T (n, nI bb, u, t) sz nx W sl kp seed) {I : Nat → Int32} (J : Nat → Int64) {A : Nat → Nat → Int32} (me : Nat → Int64) (h0 : I 0 = nI n) (hE : En A 0 n (nI bb) u t) (x y : Int32) :
    (∃ e : Int32, ¬ e = 0 ∧ Fn MX6_refusalAhead 2 [.ref 2, .int x, .int y] h (some (.int e)) ∧ ∀ h', Fn MX7_refused 3 [.ref 152, .int x, .int y] (mOv h' (I, J, A, me)) (some (.int e))) ∨ ∃ i m, x = nI i ∧ i < n ∧ y = nI m ∧ 1 ≤ m ∧ m ≤ 4 ∧ bb + m ≤ 12 ∧ ¬ t i 7 = 3 := by
  by_cases g : 0 ≤ x ∧ x < nI n
  case neg => exact Or.inl ⟨-1, by decide, c6_ref_unk hn H x y g, fun h' => c7_ref_unk h' J A me hn h0 y g⟩
  obtain ⟨i, hi, rfl⟩ := inN g (by omega)
  by_cases g2 : y < 1 ∨ 4 < y ∨ 11 < nI bb + y - 1
  · exact Or.inl ⟨-2, by decide, c6_ref_out hn H hi y g2, fun h' => c7_ref_out h' J me hn h0 hE hi g2⟩
  obtain ⟨m, h1, h4, rfl⟩ := inR (x := y) (lo := 1) (hi := 4) (fun q => g2 (q.elim Or.inl (fun q => Or.inr (Or.inl q)))) (by omega) (by omega)
  have e1 : nI bb + nI m - 1 = nI (bb + m - 1) := by rw [nI_add]; exact pk_sub (b := 1) (by omega)
  have hbm : bb + m ≤ 12 := by
    by_cases q : bb + m ≤ 12
    · exact q
    · exact absurd (Or.inr (Or.inr (by rw [e1]; exact nI_lt (a := 11) (by omega) (by omega)))) g2
  by_cases g3 : t i 7 = 3
  · have a6 := c6_ref_in hn H hi h1 h4 hbm
    have a7 := fun h' => c7_ref_in h' J me hn h0 hE hi h1 h4 hbm
    rw [if_pos g3] at a6
    simp only [if_pos g3] at a7
    exact Or.inl ⟨-3, by decide, a6, a7⟩
  · exact Or.inr ⟨i, m, rfl, hi, rfl, h1, h4, hbm, g3⟩
theorem cls.obj2 {h : Hp} {T : Tx} {K : Cn} {sz nx : Nat} {W sl : Nat → Cn} {kp : Nat → Int32} {seed : Int64} (H : cls h T K sz nx W sl kp seed) : ∃ fs, h 2 = some (.inr (5, fs)) := by
  obtain ⟨tr, pt, h_obj, -⟩ := H
  exact ⟨_, h_obj⟩
theorem step_mean (sc : aC) (x y w : Int32) : Step sc MX6_mean MX7_mean 40 4 [.int x, .int y, .int w] isL := by
  rintro h z ⟨l, B, K, sz, nx, W, sl, kp, seed, ⟨I, J, A, me⟩, hc, hm, h0, hT, hS⟩
  obtain ⟨nxm, r1, r2, r3, r4, r5, e0, e1, e2, e3, e4, e5, e6, T1, T2, T3⟩ := id hS
  obtain ⟨bb, u, t, eK, hC, hE⟩ := T1
  generalize K.1 = n at eK hC hE r5 e0
  subst eK
  rcases ref_split r5 hC.2.1 hc J me e0 hE x y with ⟨e, he, a6, a7⟩ | ⟨i, m, rfl, hi, rfl, h1, h4, hb, h3⟩
  · exact pair hm h0 hT ⟨_, rfl⟩ (PU_id (c6_mean_no hc.obj2 w a6 he) hc) fun h' z => Fn_pair (c7_mean_no h' _ w (a7 h') he) hS z
  · obtain ⟨r, hr, hr2⟩ := not3 (hC.2.2.2 i hi) h3
    refine pair hm h0 hT ⟨_, rfl⟩ (PU_id (c6_mean hT r5 hc hi h1 h4 hb h3 hr (by omega) w) hc) fun h' z => ?_
    refine (c7_mean h' J me r5 e0 hE hi (hC.2.2.2 i hi).w h1 h4 hb h3 hr hr2 w z).mono' ?_
    rintro v h'' z' ⟨q1, q2, J', me', hJ, q3⟩
    exact ⟨q1, q2, _, q3, hS.mv hJ (fun _ _ _ _ => rfl) (fun _ _ => rfl)⟩
theorem step_wise (sc : aC) (x y : Int32) : Step sc MX6_wise MX7_wise 40 4 [.int x, .int y] isI := by
  rintro h z ⟨l, B, K, sz, nx, W, sl, kp, seed, ⟨I, J, A, me⟩, hc, hm, h0, hT, hS⟩
  obtain ⟨nxm, r1, r2, r3, r4, r5, e0, e1, e2, e3, e4, e5, e6, T1, T2, T3⟩ := id hS
  obtain ⟨bb, u, t, eK, hC, hE⟩ := T1
  generalize K.1 = n at eK hC hE r5 e0
  subst eK
  rcases ref_split r5 hC.2.1 hc J me e0 hE x y with ⟨e, he, a6, a7⟩ | ⟨i, m, rfl, hi, rfl, h1, h4, hb, h3⟩
  · exact pair hm h0 hT ⟨_, rfl⟩ (PU_id (c6_wise_no hc.obj2 a6 he) hc) fun h' z => Fn_pair (c7_wise_no h' _ (a7 h') he) hS z
  · obtain ⟨r, hr, hr2⟩ := not3 (hC.2.2.2 i hi) h3
    refine pair hm h0 hT ⟨_, rfl⟩ (PU_id (c6_wise hT r5 hc hi h1 h4 hb h3 hr (by omega)) hc) fun h' z => ?_
    refine (c7_wise h' J me r5 e0 hE hi (hC.2.2.2 i hi).w h1 h4 hb h3 hr hr2 z).mono' ?_
    rintro v h'' z' ⟨q1, q2, J', me', hJ, q3⟩
    exact ⟨q1, q2, _, q3, hS.mv hJ (fun _ _ _ _ => rfl) (fun _ _ => rfl)⟩
theorem step_first (sc : aC) (x y w : Int32) : Step sc MX6_first MX7_first 40 4 [.int x, .int y, .int w] isL := by
  rintro h z ⟨l, B, K, sz, nx, W, sl, kp, seed, ⟨I, J, A, me⟩, hc, hm, h0, hT, hS⟩
  obtain ⟨nxm, r1, r2, r3, r4, r5, e0, e1, e2, e3, e4, e5, e6, T1, T2, T3⟩ := id hS
  obtain ⟨bb, u, t, eK, hC, hE⟩ := T1
  generalize K.1 = n at eK hC hE r5 e0
  subst eK
  rcases ref_split r5 hC.2.1 hc J me e0 hE x y with ⟨e, he, a6, a7⟩ | ⟨i, m, rfl, hi, rfl, h1, h4, hb, h3⟩
  · exact pair hm h0 hT ⟨_, rfl⟩ (PU_id (c6_first_no hc.obj2 w a6 he) hc) fun h' z => Fn_pair (c7_first_no h' _ w (a7 h') he) hS z
  · exact pair hm h0 hT ⟨_, rfl⟩ (c6_first hT r5 hc hi h1 h4 hb h3 w) fun h' z => Fn_pair (c7_first h' J me e0 hE hC hi h3 h1 h4 hb w) hS z
