/-! the class and the model, side by side -/
def mAt (h : Hp) (s : Ms) : Prop := ∀ i, i < 11 → h (152 + i) = some (mCell s i)
theorem mAt.ov {h : Hp} {s : Ms} (H : mAt h s) : mOv h s = h := by
  funext a
  unfold mOv
  by_cases g : 152 ≤ a ∧ a < 163
  · rw [if_pos g, ← H (a - 152) (by omega), show 152 + (a - 152) = a by omega]
  · rw [if_neg g]
theorem mAt_ov (h : Hp) (s : Ms) : mAt (mOv h s) s := fun i hi => mOv_in h s i hi
theorem mAt.kept {h h' : Hp} {s : Ms} (H : mAt h s) (hd : ∀ a, 152 ≤ a → h' a = h a) : mAt h' s := fun i hi => (hd _ (by omega)).trans (H i hi)
theorem cls.kept {h h' : Hp} {T : Tx} {K : Cn} {sz nx : Nat} {W sl : Nat → Cn} {kp : Nat → Int32} {seed : Int64} (H : cls h T K sz nx W sl kp seed) (hd : ∀ a, 2 ≤ a → a < 152 → h' a = h a) : cls h' T K sz nx W sl kp seed := by
  obtain ⟨tr, pt, h_obj, h_tx, h_cu, h_tr, h_ac, h_sl, h_kp, h_pt, h_sh⟩ := H
  exact ⟨tr, pt, (hd 2 (by omega) (by omega)).trans h_obj, h_tx.kept fun x q1 q2 => hd x (by omega) (by omega), h_cu.kept fun x q1 q2 => hd x (by omega) (by omega), h_tr.kept fun x q1 q2 => hd x (by omega) (by omega), h_ac.kept fun x q1 q2 => hd x (by omega) (by omega), h_sl.kept fun x q1 q2 => hd x (by omega) (by omega), h_kp.kept fun x q1 q2 => hd x (by omega) (by omega), h_pt.kept fun x q1 q2 => hd x (by omega) (by omega), h_sh.kept fun x q1 q2 => hd x (by omega) (by omega)⟩
def back (nx d : Nat) : Nat := (nx + 15 - d) % 16
/-- a contest held by the class is told at s in the array F of the model -/
def Tell (n : Nat) (st wd F : Nat → Int32) (s : Nat) (K : Cn) : Prop := ∃ (bb : Nat) (u : Int32) (t : Nat → Nat → Int32), K = (n, nI bb, u, t) ∧ OkC n bb u t ∧ EnG st wd F s n (nI bb) u t
def RelS (l : Nat) (B : Nat → Int32) (K : Cn) (sz nx : Nat) (W sl : Nat → Cn) (kp : Nat → Int32) (seed : Int64) (s : Ms) : Prop := ∃ nxm : Nat, l ≤ 16 ∧ sz ≤ 16 ∧ nx < 16 ∧ nxm < 16 ∧ K.1 ≤ 4 ∧ s.1 0 = nI K.1 ∧ s.1 1 = nI l ∧ s.1 2 = nI sz ∧ s.1 3 = nI nxm ∧ s.2.1 2 = seed ∧ s.2.2.1 2 = B ∧ (∀ j, j < 2 → s.2.2.1 7 j = kp j) ∧ Tell K.1 (s.2.2.1 0) (s.2.2.1 1) (s.2.2.1 3) 0 K ∧ (∀ d, d < sz → Tell K.1 (s.2.2.1 0) (s.2.2.1 1) (s.2.2.1 4) (30 * back nxm d) (W (back nx d))) ∧ ∀ j, j < 2 → kp j ≠ 0 → Tell K.1 (s.2.2.1 0) (s.2.2.1 1) (s.2.2.1 8) (30 * j) (sl j)
def Rel (sc : aC) (h : Hp) : Prop := ∃ (l : Nat) (B : Nat → Int32) (K : Cn) (sz nx : Nat) (W sl : Nat → Cn) (kp : Nat → Int32) (seed : Int64) (s : Ms), cls h (l, B) K sz nx W sl kp seed ∧ mAt h s ∧ h 0 = some sc ∧ tenAt h ∧ RelS l B K sz nx W sl kp seed s
/-- a call of the class, then the same call of the model: the same answer, the relation again -/
def Step (sc : aC) (M6 M7 : MD) (d6 d7 : Nat) (a : List Value) (R1 : Value → Prop) : Prop := ∀ (h : Hp) (z : Nat), Rel sc h → ∃ (r : Value) (X : Hp → Prop), R1 r ∧ (∀ h', X h' → ∀ a, (a < 2 ∨ 152 ≤ a) → h' a = h a) ∧ Cal M6 d6 0 0 (.ref 2 :: a) h z (fun v h' z' => v = some r ∧ z' = z ∧ X h') ∧ ∀ h' z, X h' → Cal M7 d7 0 0 (.ref 152 :: a) h' z (fun v h'' z' => v = some r ∧ z' = z ∧ Rel sc h'')
def isI (r : Value) : Prop := ∃ q, r = .int q
def isL (r : Value) : Prop := ∃ q, r = .long q
theorem Cal.mono' {M : MD} {d mc ms : Nat} {a : List Value} {h : Hp} {z : Nat} {Q Q' : Option Value → Hp → Nat → Prop} (H : Cal M d mc ms a h z Q) (hq : ∀ v h' z', Q v h' z' → Q' v h' z') : Cal M d mc ms a h z Q' := Cal_mono hq H
theorem pair {sc : aC} {M6 M7 : MD} {d6 d7 : Nat} {a : List Value} {R1 : Value → Prop} {h : Hp} {z : Nat} {s : Ms} {r : Value} (hm : mAt h s) (h0 : h 0 = some sc) (hT : tenAt h) (hr : R1 r) {l' : Nat} {B' : Nat → Int32} {K' : Cn} {sz' nx' : Nat} {W' sl' : Nat → Cn} {kp' : Nat → Int32} {seed' : Int64}
    (P6 : PU M6 d6 (.ref 2 :: a) h r (fun h' => cls h' (l', B') K' sz' nx' W' sl' kp' seed'))
    (P7 : ∀ h' z, Cal M7 d7 0 0 (.ref 152 :: a) (mOv h' s) z (fun v h'' z' => v = some r ∧ z' = z ∧ ∃ s', h'' = mOv h' s' ∧ RelS l' B' K' sz' nx' W' sl' kp' seed' s')) :
    ∃ (r : Value) (X : Hp → Prop), R1 r ∧ (∀ h', X h' → ∀ a, (a < 2 ∨ 152 ≤ a) → h' a = h a) ∧ Cal M6 d6 0 0 (.ref 2 :: a) h z (fun v h' z' => v = some r ∧ z' = z ∧ X h') ∧ ∀ h' z, X h' → Cal M7 d7 0 0 (.ref 152 :: a) h' z (fun v h'' z' => v = some r ∧ z' = z ∧ Rel sc h'') := by
  refine ⟨r, fun h' => cls h' (l', B') K' sz' nx' W' sl' kp' seed' ∧ ∀ a, (a < 2 ∨ 152 ≤ a) → h' a = h a, hr, fun h' X => X.2, (P6 z).mono' fun v h' z' q => ⟨q.1, q.2.1, q.2.2⟩, fun h' z X => ?_⟩
  obtain ⟨hc, ho⟩ := X
  have hm' : mAt h' s := hm.kept fun a ha => ho a (by omega)
  have e := P7 h' z
  rw [hm'.ov] at e
  refine e.mono' ?_
  rintro v h'' z' ⟨q1, q2, s', rfl, hS⟩
  exact ⟨q1, q2, l', B', K', sz', nx', W', sl', kp', seed', s', hc.kept (fun a b c => mOv_out _ _ (by omega)), mAt_ov _ _, (mOv_out _ _ (by omega)).trans ((ho 0 (by omega)).trans h0), (mOv_out _ _ (by omega)).trans ((ho 1 (by omega)).trans hT), hS⟩
theorem PU_id {M : MD} {d : Nat} {a : List Value} {h : Hp} {r : Value} {S : Hp → Prop} (P : PU M d a h r (fun h' => h' = h)) (hS : S h) : PU M d a h r S := fun z => (P z).mono' fun v h' z' q => ⟨q.1, q.2.1, by rw [q.2.2.1]; exact hS, q.2.2.2⟩
theorem Fn_pair {M : MD} {d : Nat} {a : List Value} {h : Hp} {r : Value} {P : Ms → Prop} {s : Ms} (F : Fn M d a (mOv h s) (some r)) (hS : P s) (z : Nat) : Cal M d 0 0 a (mOv h s) z (fun v h'' z' => v = some r ∧ z' = z ∧ ∃ s', h'' = mOv h s' ∧ P s') := (F z).mono' fun v h' z' q => ⟨q.1, q.2.2, s, q.2.1, hS⟩
theorem Pr_pair {M : MD} {d : Nat} {a : List Value} {h : Hp} {r : Value} {P : Ms → Prop} {s s' : Ms} (F : Pr M d a (mOv h s) (some r) (mOv h s')) (hS : P s') (z : Nat) : Cal M d 0 0 a (mOv h s) z (fun v h'' z' => v = some r ∧ z' = z ∧ ∃ s', h'' = mOv h s' ∧ P s') := (F z).mono' fun v h' z' q => ⟨q.1, q.2.2, s', q.2.1, hS⟩
theorem step_wipe (sc : aC) : Step sc MX6_wipe MX7_wipe 4 0 [] isI := by
  rintro h z ⟨l, B, K, sz, nx, W, sl, kp, seed, ⟨I, J, A, me⟩, hc, hm, h0, hT, nxm, r1, r2, r3, r4, r5, e0, e1, e2, e3, e4, e5, e6, T1, T2, T3⟩
  refine pair hm h0 hT ⟨_, rfl⟩ (c6_wipe hc) fun h' z => ?_
  have F := c7_wipe h' I J A me
  rw [show I 1 = nI l from e1] at F
  exact Pr_pair F ⟨nxm, Nat.zero_le _, r2, r3, r4, r5, e0, rfl, e2, e3, e4, e5, e6, T1, T2, T3⟩ z
theorem step_on (sc : aC) : Step sc MX6_on MX7_on 4 0 [] isI := by
  rintro h z ⟨l, B, K, sz, nx, W, sl, kp, seed, ⟨I, J, A, me⟩, hc, hm, h0, hT, nxm, r1, r2, r3, r4, r5, e0, e1, e2, e3, e4, e5, e6, T1, T2, T3⟩
  obtain ⟨bb, u, t, eK, hC, hE⟩ := id T1
  refine pair hm h0 hT ⟨u, rfl⟩ (PU_id (c6_on (by rw [eK] at hc; exact hc)) hc) fun h' z => ?_
  have F := c7_on h' I J A me
  rw [show A 3 1 = u from hE.2.1] at F
  exact Fn_pair F ⟨nxm, r1, r2, r3, r4, r5, e0, e1, e2, e3, e4, e5, e6, T1, T2, T3⟩ z
theorem step_fault (sc : aC) : Step sc MX6_fault MX7_fault 4 2 [] isI := by
  rintro h z ⟨l, B, K, sz, nx, W, sl, kp, seed, ⟨I, J, A, me⟩, hc, hm, h0, hT, nxm, r1, r2, r3, r4, r5, e0, e1, e2, e3, e4, e5, e6, T1, T2, T3⟩
  refine pair hm h0 hT ⟨_, rfl⟩ (PU_id (c6_fault hc r1) hc) fun h' z => ?_
  exact Fn_pair (c7_fault h' J me r1 e1 e5) ⟨nxm, r1, r2, r3, r4, r5, e0, e1, e2, e3, e4, e5, e6, T1, T2, T3⟩ z
theorem step_seed (sc : aC) (v : Int64) : Step sc MX6_seed MX7_seed 4 0 [.long v] isL := by
  rintro h z ⟨l, B, K, sz, nx, W, sl, kp, seed, ⟨I, J, A, me⟩, hc, hm, h0, hT, nxm, r1, r2, r3, r4, r5, e0, e1, e2, e3, e4, e5, e6, T1, T2, T3⟩
  refine pair hm h0 hT ⟨_, rfl⟩ (c6_seed hc v) fun h' z => ?_
  have F := c7_seed h' I J A me v
  rw [show J 2 = seed from e4] at F
  exact Pr_pair F ⟨nxm, r1, r2, r3, r4, r5, e0, e1, e2, e3, rfl, e5, e6, T1, T2, T3⟩ z
