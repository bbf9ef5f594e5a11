/-! the steps that play: acts, undone, kept, gone on from -/
theorem Tell.copied {n : Nat} {st wd F G : Nat → Int32} {d s : Nat} {K : Cn} (H : Tell n st wd G s K) (t0 : Nat → Nat → Int32) : Tell n st wd (cpy F G d s 30) d (copyC K t0) := by
  obtain ⟨bb, u, t, rfl, hC, hE⟩ := H
  exact ⟨bb, u, mapT (fun j _ => t j) t0 n, rfl, hC.congr fun i hi => mapT_id t n t0 hi, (hE.copied hC.1).congr fun i hi j _ => by rw [mapT_id t n t0 hi]⟩
theorem Tell.out {n : Nat} {st wd F G : Nat → Int32} {d s s' : Nat} {K : Cn} (H : Tell n st wd F s' K) (hd : s' + 30 ≤ d ∨ d + 30 ≤ s') : Tell n st wd (cpy F G d s 30) s' K := by
  obtain ⟨bb, u, t, rfl, hC, hE⟩ := H
  exact ⟨bb, u, t, rfl, hC, hE.out hC.1 hd⟩
theorem Tell.n {n : Nat} {st wd F : Nat → Int32} {s : Nat} {K : Cn} (H : Tell n st wd F s K) : K.1 = n := by
  obtain ⟨bb, u, t, rfl, -⟩ := H
  rfl
theorem Tell.bar {n : Nat} {st wd F : Nat → Int32} {s : Nat} {K : Cn} (H : Tell n st wd F s K) : F s = K.2.1 := by
  obtain ⟨bb, u, t, rfl, hC, hE⟩ := H
  exact hE.1
theorem back_n0 {nx : Nat} (h : nx < 16) : back (nx1 nx) 0 = nx := by unfold back nx1; split <;> omega
theorem back_ns {nx d : Nat} (h : nx < 16) (hd : d < 15) : back (nx1 nx) (d + 1) = back nx d := by unfold back nx1; split <;> omega
theorem back_ne {nx d : Nat} (h : nx < 16) (hd : d < 15) : back nx d ≠ nx := by unfold back; omega
theorem back_0 {nx : Nat} (h : nx < 16) : back nx 0 = nxB nx := by unfold back nxB; split <;> omega
theorem back_b {nx d : Nat} (h : nx < 16) (hd : d < 15) : back (nxB nx) d = back nx (d + 1) := by unfold back nxB; split <;> omega
theorem nx1_lt {nx : Nat} (h : nx < 16) : nx1 nx < 16 := by unfold nx1; split <;> omega
theorem sz1_le {sz : Nat} (h : sz ≤ 16) : sz1 sz ≤ 16 := by unfold sz1; split <;> omega
theorem sz1_in {sz d : Nat} (h : sz ≤ 16) (hd : d + 1 < sz1 sz) : d < sz ∧ d < 15 := by unfold sz1 at hd; split at hd <;> omega
theorem upW_eq (W : Nat → Cn) (j : Nat) (K : Cn) : upW W j K j = K := if_pos rfl
theorem upW_ne (W : Nat → Cn) {j i : Nat} (K : Cn) (h : i ≠ j) : upW W j K i = W i := if_neg h
theorem actC_eq {n bb i : Nat} {t : Nat → Nat → Int32} (H : OkC n bb (nI i) t) (hi : i < n) (h7 : t i 7 = 0) (w : Nat) : ∃ (bb' : Nat) (u' : Int32) (t' : Nat → Nat → Int32), actC n (nI bb) i t w = (n, nI bb', u', t') ∧ OkC n bb' u' t' := by
  obtain ⟨bb', e, hC⟩ := OkC_act H hi h7 w
  exact ⟨bb', _, _, Prod.ext (goOnC_n _ _ _ _) (Prod.ext e rfl), hC⟩
theorem step_acts {M6 M7 : MD} {a : List Value} (sc : aC) {w : Nat} (hw : w < 3)
    (W6 : ∀ {h : Hp} {q : Int32} {S : Hp → Prop}, PU MX6_act 4 [.ref 2, .int (nI w)] h (.int q) S → (∃ fs, h 2 = some (.inr (5, fs))) → PU M6 5 (.ref 2 :: a) h (.int q) S)
    (W7 : ∀ {h : Hp} {s : Ms} {z : Nat} {Q : Option Value → Hp → Nat → Prop}, Cal MX7_act 4 0 0 [.ref 152, .int (nI w)] (mOv h s) z Q → (∀ v h' z', Q v h' z' → ∃ q, v = some (.int q)) → Cal M7 5 0 0 (.ref 152 :: a) (mOv h s) z Q) : Step sc M6 M7 5 5 a isI := by
  rintro h z ⟨l, B, K, sz, nx, W, sl, kp, seed, ⟨I, J, A, me⟩, hc, hm, h0, hT, hS⟩
  obtain ⟨nxm, r1, r2, r3, r4, r5, e0, e1, e2, e3, e4, e5, e6, T1, T2, T3⟩ := id hS
  have T1' := T1
  obtain ⟨bb, u, t, eK, hC, hE⟩ := T1
  generalize K.1 = n at eK hC hE r5 e0 T1' T2 T3
  subst eK
  rcases hC.2.2.1 with rfl | ⟨i, hi, h7, rfl⟩
  · exact pair hm h0 hT ⟨_, rfl⟩ (PU_id (W6 (c6_act_no r5 hc _) hc.obj2) hc) fun h' z => W7 (Fn_pair (c7_act_no h' I J me hE.2.1 _) hS z) fun v _ _ q => ⟨_, q.1⟩
  obtain ⟨r, hr, hr2⟩ := (hC.2.2.2 i hi).run h7
  have P6 := c6_act r5 hi r2 r3 hc hw
  have P7 := fun h' z => c7_act h' J me e0 e3 e2 r4 r2 hE r5 hi h7 hr hr2 hw z
  obtain ⟨bb', u', t', eA, hC'⟩ := actC_eq hC hi h7 w
  rw [eA] at P6
  simp only [eA] at P7
  refine pair hm h0 hT ⟨_, rfl⟩ (W6 P6 hc.obj2) fun h' z => W7 ((P7 h' z).mono' ?_) fun v _ _ q => ⟨_, q.1⟩
  rintro v h'' z' ⟨q1, q2, A', q3, q4, q5⟩
  have a0 : A' 0 = A 0 := q4.1 0 (by omega)
  have a1 : A' 1 = A 1 := q4.1 1 (by omega)
  have a2 : A' 2 = A 2 := q4.1 2 (by omega)
  have a7 : A' 7 = A 7 := q4.1 7 (by omega)
  have a8 : A' 8 = A 8 := q4.1 8 (by omega)
  have a4 : A' 4 = cpy (A 4) (A 3) (30 * nxm) 0 30 := q4.1 4 (by omega)
  refine ⟨q1, q2, _, q3, nx1 nxm, r1, sz1_le r2, nx1_lt r3, nx1_lt r4, r5, e0, e1, rfl, rfl, e4, a2.trans e5, fun j hj => (congrFun a7 j).trans (e6 j hj), ⟨bb', u', t', rfl, hC', q5⟩, fun d hd => ?_, fun j hj hk => ?_⟩
  · show Tell n (A' 0) (A' 1) (A' 4) _ _
    rw [a0, a1, a4]
    cases d with
    | zero =>
      rw [back_n0 r3, back_n0 r4, upW_eq]
      exact T1'.copied _
    | succ d =>
      obtain ⟨g1, g2⟩ := sz1_in r2 hd
      rw [back_ns r3 g2, back_ns r4 g2, upW_ne _ _ (back_ne r3 g2)]
      have g3 := back_ne r4 g2
      exact (T2 d g1).out (by omega)
  · show Tell n (A' 0) (A' 1) (A' 8) _ _
    rw [a0, a1, a8]
    exact T3 j hj hk
theorem step_toss (sc : aC) (x : Int32) : Step sc MX6_toss MX7_toss 5 5 [.int x] isI := by
  by_cases g : x = 0
  · exact step_acts sc (w := 0) (by omega) (fun P ho => c6_toss (by rw [if_pos g]; exact P) ho ⟨_, rfl⟩) (fun P hq => c7_toss (by rw [if_pos g]; exact P) hq)
  · exact step_acts sc (w := 1) (by omega) (fun P ho => c6_toss (by rw [if_neg g]; exact P) ho ⟨_, rfl⟩) (fun P hq => c7_toss (by rw [if_neg g]; exact P) hq)
theorem step_spare (sc : aC) : Step sc MX6_spare MX7_spare 5 5 [] isI :=
  step_acts sc (w := 2) (by omega) (fun P ho => c6_spare P ho ⟨_, rfl⟩) (fun P hq => c7_spare P hq)
theorem step_undo (sc : aC) : Step sc MX6_undo MX7_undo 4 0 [] isI := by
  rintro h z ⟨l, B, K, sz, nx, W, sl, kp, seed, ⟨I, J, A, me⟩, hc, hm, h0, hT, hS⟩
  obtain ⟨nxm, r1, r2, r3, r4, r5, e0, e1, e2, e3, e4, e5, e6, T1, T2, T3⟩ := id hS
  by_cases g : 0 < sz
  case neg =>
    obtain rfl : sz = 0 := by omega
    exact pair hm h0 hT ⟨_, rfl⟩ (PU_id (c6_undo_no hc) hc) fun h' z => Fn_pair (c7_undo_no h' J A me e2) hS z
  have T20 : Tell K.1 (A 0) (A 1) (A 4) (30 * back nxm 0) (W (back nx 0)) := T2 0 g
  rw [back_0 r3, back_0 r4] at T20
  have hn : (W (nxB nx)).1 ≤ 4 := by rw [T20.n]; exact r5
  refine pair hm h0 hT ⟨_, rfl⟩ (c6_undo g r2 r3 hn hc) fun h' z => Pr_pair (c7_undo h' J A me e3 e2 r4 g r2) ?_ z
  have en : (copyC (W (nxB nx)) K.2.2.2).1 = K.1 := T20.n
  refine ⟨nxB nxm, r1, by omega, nxB_lt r3, nxB_lt r4, by rw [en]; exact r5, by rw [en]; exact e0, e1, rfl, rfl, e4, e5, e6, ?_, fun d hd => ?_, fun j hj hk => ?_⟩
  · rw [en]
    exact T20.copied _
  · rw [en, back_b r3 (by omega), back_b r4 (by omega)]
    exact T2 (d + 1) (by omega)
  · rw [en]
    exact T3 j hj hk
theorem step_keep (sc : aC) (x : Int32) : Step sc MX6_keep MX7_keep 4 1 [.int x] isI := by
  rintro h z ⟨l, B, K, sz, nx, W, sl, kp, seed, ⟨I, J, A, me⟩, hc, hm, h0, hT, hS⟩
  obtain ⟨nxm, r1, r2, r3, r4, r5, e0, e1, e2, e3, e4, e5, e6, T1, T2, T3⟩ := id hS
  by_cases g : x < nI 0 ∨ nI 1 < x
  · exact pair hm h0 hT ⟨_, rfl⟩ (PU_id (c6_keep_no hc x g) hc) fun h' z => Fn_pair (c7_keep_no h' _ g) hS z
  obtain ⟨s, -, hs, rfl⟩ := inR g (by omega) (by omega)
  have T1' := T1
  obtain ⟨bb, u, t, eK, hC, hE⟩ := T1
  generalize K.1 = n at eK hC hE r5 e0 T1' T2 T3
  subst eK
  have P7 := fun h' => c7_keep h' I J A me (s := s) (by omega)
  simp only [show A 3 0 = nI bb from hE.1] at P7
  refine pair hm h0 hT ⟨_, rfl⟩ (c6_keep r5 hc (j := s) (by omega)) fun h' z => Pr_pair (P7 h') ?_ z
  refine ⟨nxm, r1, r2, r3, r4, r5, e0, e1, e2, e3, e4, e5, fun j hj => ?_, T1', T2, fun j hj hk => ?_⟩
  · show (if j = s then (1 : Int32) else A 7 j) = if j = s then 1 else kp j
    by_cases gj : j = s
    · rw [if_pos gj, if_pos gj]
    · rw [if_neg gj, if_neg gj]; exact e6 j hj
  · show Tell n (A 0) (A 1) (cpy (A 8) (A 3) (30 * s) 0 30) (30 * j) (upW sl s _ j)
    by_cases gj : j = s
    · subst gj
      rw [upW_eq]
      exact T1'.copied _
    · rw [upW_ne _ _ gj]
      refine (T3 j hj ?_).out (by omega)
      have e : upd kp s 1 j = kp j := if_neg gj
      rw [e] at hk
      exact hk
theorem step_again (sc : aC) (x : Int32) : Step sc MX6_again MX7_again 4 1 [.int x] isI := by
  rintro h z ⟨l, B, K, sz, nx, W, sl, kp, seed, ⟨I, J, A, me⟩, hc, hm, h0, hT, hS⟩
  obtain ⟨nxm, r1, r2, r3, r4, r5, e0, e1, e2, e3, e4, e5, e6, T1, T2, T3⟩ := id hS
  by_cases g : x < nI 0 ∨ nI 1 < x
  · exact pair hm h0 hT ⟨_, rfl⟩ (PU_id (c6_again_unk hc x g) hc) fun h' z => Fn_pair (c7_again_unk h' _ g) hS z
  obtain ⟨s, -, hs, rfl⟩ := inR g (by omega) (by omega)
  have ek : A 7 s = kp s := e6 s (by omega)
  by_cases g2 : kp s = 0
  · exact pair hm h0 hT ⟨_, rfl⟩ (PU_id (c6_again_no hc (by omega) g2) hc) fun h' z => Fn_pair (c7_again_no h' I J A me (by omega) (ek.trans g2)) hS z
  have T3s : Tell K.1 (A 0) (A 1) (A 8) (30 * s) (sl s) := T3 s (by omega) g2
  have hn : (sl s).1 ≤ 4 := by rw [T3s.n]; exact r5
  have P7 := fun h' => c7_again h' I J A me (s := s) (by omega) (fun q => g2 (ek.symm.trans q))
  simp only [T3s.bar] at P7
  refine pair hm h0 hT ⟨_, rfl⟩ (c6_again hc (by omega) g2 hn) fun h' z => Pr_pair (P7 h') ?_ z
  have en : (copyC (sl s) K.2.2.2).1 = K.1 := T3s.n
  refine ⟨nxm, r1, Nat.zero_le _, by omega, r4, by rw [en]; exact r5, by rw [en]; exact e0, e1, rfl, e3, e4, e5, e6, ?_, fun d hd => absurd hd (Nat.not_lt_zero _), fun j hj hk => ?_⟩
  · rw [en]
    exact T3s.copied _
  · rw [en]
    exact T3 j hj hk
