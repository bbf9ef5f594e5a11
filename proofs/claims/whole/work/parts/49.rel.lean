/-! the class and the model, side by side -/
def mAt (h : Hp) (s : Ms) : Prop := ∀ i, i < 11 → h (152 + i) = some (mCell s i)
theorem mAt.ov {h : Hp} {s : Ms} (H : mAt h s) : mOv h s = h := by
  funext a
  unfold mOv
  by_cases g : 152 ≤ a ∧ a < 163
  · rw [if_pos g, ← H (a - 152) (by omega), show 152 + (a - 152) = a by omega]
  · rw [if_neg g]
theorem mAt_ov (h : Hp) (s : Ms) : mAt (mOv h s) s := fun i hi => mOv_in h s i hi
theorem mAt.kept {h h' : Hp} {s : Ms} (H : mAt h s) (hd : ∀ a, 152 ≤ a → h' a = h a) : mAt h' s := fun i hi => (hd _ (by omega)).trans (H i hi)
theorem cls.kept {h h' : Hp} {T : Tx} {K : Cn} {sz nx : Nat} {W sl : Nat → Cn} {kp : Nat → Int32} {seed : Int64} (H : cls h T K sz nx W sl kp seed) (hd : ∀ a, 2 ≤ a → a < 152 → h' a = h a) : cls h' T K sz nx W sl kp seed := by
  obtain ⟨tr, pt, h_obj, h_tx, h_cu, h_tr, h_ac, h_sl, h_kp, h_pt, h_sh⟩ := H
  exact ⟨tr, pt, (hd 2 (by omega) (by omega)).trans h_obj, h_tx.kept fun x q1 q2 => hd x (by omega) (by omega), h_cu.kept fun x q1 q2 => hd x (by omega) (by omega), h_tr.kept fun x q1 q2 => hd x (by omega) (by omega), h_ac.kept fun x q1 q2 => hd x (by omega) (by omega), h_sl.kept fun x q1 q2 => hd x (by omega) (by omega), h_kp.kept fun x q1 q2 => hd x (by omega) (by omega), h_pt.kept fun x q1 q2 => hd x (by omega) (by omega), h_sh.kept fun x q1 q2 => hd x (by omega) (by omega)⟩
def back (nx d : Nat) : Nat := (nx + 15 - d) % 16
/-- a contest held by the class is told at s in the array F of the model -/
def Tell (n : Nat) (st wd F : Nat → Int32) (s : Nat) (K : Cn) : Prop := ∃ (bb : Nat) (u : Int32) (t : Nat → Nat → Int32), K = (n, nI bb, u, t) ∧ OkC n bb u t ∧ EnG st wd F s n (nI bb) u t
def RelS (l : Nat) (B : Nat → Int32) (K : Cn) (sz nx : Nat) (W sl : Nat → Cn) (kp : Nat → Int32) (seed : Int64) (s : Ms) : Prop := ∃ nxm : Nat, l ≤ 16 ∧ sz ≤ 16 ∧ nx < 16 ∧ nxm < 16 ∧ K.1 ≤ 4 ∧ s.1 0 = nI K.1 ∧ s.1 1 = nI l ∧ s.1 2 = nI sz ∧ s.1 3 = nI nxm ∧ s.2.1 2 = seed ∧ s.2.2.1 2 = B ∧ s.2.2.1 7 = kp ∧ Tell K.1 (s.2.2.1 0) (s.2.2.1 1) (s.2.2.1 3) 0 K ∧ (∀ d, d < sz → Tell K.1 (s.2.2.1 0) (s.2.2.1 1) (s.2.2.1 4) (30 * back nxm d) (W (back nx d))) ∧ ∀ j, j < 2 → kp j ≠ 0 → Tell K.1 (s.2.2.1 0) (s.2.2.1 1) (s.2.2.1 8) (30 * j) (sl j)
def Rel (sc : aC) (h : Hp) : Prop := ∃ (l : Nat) (B : Nat → Int32) (K : Cn) (sz nx : Nat) (W sl : Nat → Cn) (kp : Nat → Int32) (seed : Int64) (s : Ms), cls h (l, B) K sz nx W sl kp seed ∧ mAt h s ∧ h 0 = some sc ∧ tenAt h ∧ RelS l B K sz nx W sl kp seed s
/-- a call of the class, then the same call of the model: the same answer, the relation again -/
def Step (sc : aC) (M6 M7 : MD) (d6 d7 : Nat) (a : List Value) : Prop := ∀ (h : Hp) (z : Nat), Rel sc h → ∃ r : Value, (∃ q, r = .int q) ∨ (∃ q, r = .long q) → ∃ X : Hp → Prop, Cal M6 d6 0 0 (.ref 2 :: a) h z (fun v h' z' => v = some r ∧ z' = z ∧ X h') ∧ ∀ h', X h' → Cal M7 d7 0 0 (.ref 152 :: a) h' z (fun v h'' z' => v = some r ∧ z' = z ∧ Rel sc h'')
