/-! the model's parts -/
def Pk (B E : Nat) (k : Nat → Int32) : Prop := ((k 4 = -9 ∧ k 5 = -9) ∨ ∃ x y, x ≤ 15 ∧ y ≤ 6 ∧ k 4 = nI x ∧ k 5 = nI y) ∧ ∃ a e, k 6 = nI a ∧ k 8 = nI e ∧ a ≤ B ∧ e ≤ E
theorem Pk.v {B E : Nat} {k : Nat → Int32} (H : Pk B E k) (hB : B ≤ 300) : VOk k := by
  obtain ⟨h, a, e, h6, -, ha, -⟩ := H
  refine ⟨?_, a, by omega, h6⟩
  rcases h with h | ⟨x, y, hx, hy, h4, h5⟩
  · exact Or.inl h
  · exact Or.inr ⟨x, y, by omega, by omega, h4, h5⟩
theorem Pk.miss {B E : Nat} {k : Nat → Int32} (H : Pk B E k) : Pk (B + 1) (E + 1) (kMiss k) := by
  obtain ⟨h, a, e, h6, h8, ha, he⟩ := H
  exact ⟨h, a + 1, e + 1, by show k 6 + 1 = _; rw [h6, nI_1], by show k 8 + 1 = _; rw [h8, nI_1], by omega, by omega⟩
theorem Pk.over {B E x : Nat} {k : Nat → Int32} (H : Pk B E k) (hE : E ≤ 6) (hx : x ≤ 15) : Pk B 0 (kUp (kOver k (nI x))) := by
  obtain ⟨h, a, e, h6, h8, ha, he⟩ := H
  exact ⟨Or.inr ⟨x, e, hx, by omega, rfl, h8⟩, a, 0, h6, rfl, ha, Nat.le_refl _⟩
theorem Pk.le {B E B' E' : Nat} {k : Nat → Int32} (H : Pk B E k) (h1 : B ≤ B') (h2 : E ≤ E') : Pk B' E' k := by
  obtain ⟨h, a, e, h6, h8, ha, he⟩ := H
  exact ⟨h, a, e, h6, h8, by omega, by omega⟩
theorem mis_8 (hh : Int32) : ∀ (c : Nat) (k : Nat → Int32) (W : Nat), (mis hh c k W).1 8 = k 8 + nI c
  | 0, k, W => (Int32.add_zero _).symm
  | c + 1, k, W => by
    rw [mis, mis_8 hh c]
    show k 8 + 1 + nI c = _
    rw [Int32.add_assoc, Int32.add_comm 1 (nI c), nI_1]
theorem mis_P (hh : Int32) : ∀ (c : Nat) (k : Nat → Int32) (W B E : Nat), Pk B E k → Pk (B + c) (E + c) (mis hh c k W).1
  | 0, k, W, B, E, H => H
  | c + 1, k, W, B, E, H => by
    have := mis_P hh c (kMiss k) (W / 10 * (10 - pN k hh 0)) (B + 1) (E + 1) H.miss
    rw [mis]
    exact this.le (by omega) (by omega)
theorem mis_W (hh : Int32) : ∀ (c : Nat) (k : Nat → Int32) (W : Nat), (mis hh c k W).2 ≤ W
  | 0, k, W => Nat.le_refl _
  | c + 1, k, W => by
    rw [mis]
    refine Nat.le_trans (mis_W hh c _ _) ?_
    have h1 : W / 10 * (10 - pN k hh 0) ≤ W / 10 * 10 := Nat.mul_le_mul_left _ (by omega)
    have h2 : W / 10 * 10 ≤ W := Nat.div_mul_le_self _ _
    omega
theorem mis_01 (hh : Int32) : ∀ (c : Nat) (k : Nat → Int32) (W : Nat), (mis hh c k W).1 0 = k 0 ∧ (mis hh c k W).1 1 = k 1
  | 0, k, W => ⟨rfl, rfl⟩
  | c + 1, k, W => mis_01 hh c (kMiss k) _
theorem code_dig : ∀ m, m ≤ 4 → ∀ j, j < m → ∀ code, code < 4 ^ m → (nI code >>> (((2 : Int32) * nI j) &&& 31)) &&& 3 = nI (code / 4 ^ j % 4) := by decide +kernel
theorem c7_miss (h : Hp) (I : Nat → Int32) (J : Nat → Int64) {A : Nat → Nat → Int32} (me : Nat → Int64) {b : Int32} (hA : A 3 0 = b) {x : Nat} (hx : x < 4) {Q : Option Value → Hp → Nat → Prop} {m code i wh ms : Nat} (h4 : ms ≤ 3) (x4 : Int32) (z : Nat) (kf : Nat → Int32) (Wf : Nat)
    (K : R MX7_partsOf 2 0 0 Q 182 [.ref 152, .int (nI x), .int (nI m), .int (nI code), .int x4, .int (kf 2), .int (kf 4), .int (kf 5), .int (kf 6), .long (lN Wf), .null, .int 0, .int (nI i), .int (nI wh), .int (nI ms), .int (nI ms)] [] (mOv h (I, J, A, me)) z 0 0) :
    ∀ (c p : Nat) (k : Nat → Int32) (W : Nat), p + c = ms → W ≤ 10 ^ 12 → k 0 = A 0 x → k 1 = A 1 x → 0 < k 1 → mis (b + nI i) c k W = (kf, Wf) → R MX7_partsOf 2 0 0 Q 129 [.ref 152, .int (nI x), .int (nI m), .int (nI code), .int x4, .int (k 2), .int (k 4), .int (k 5), .int (k 6), .long (lN W), .null, .int 0, .int (nI i), .int (nI wh), .int (nI ms), .int (nI p)] [] (mOv h (I, J, A, me)) z 0 0 := by
  intro c
  induction c with
  | zero =>
    intro p k W hp hW k0 k1 hk1 e
    obtain rfl : p = ms := by omega
    obtain ⟨rfl, rfl⟩ : k = kf ∧ W = Wf := ⟨congrArg Prod.fst e, congrArg Prod.snd e⟩
    refine r_iload iX7_partsOf_129 rfl ?_
    refine r_iload iX7_partsOf_131 rfl ?_
    refine r_icmp_ge iX7_partsOf_133 (fun _ => ?_) (fun g9 => absurd (nI_le (by omega) (by omega)) g9)
    exact K
  | succ c ih =>
    intro p k W hp hW k0 k1 hk1 e
    have hp9 := pN_le k (b + nI i) 0
    have hpe := pN_eq k (b + nI i) 0
    rw [mis] at e
    generalize pN k (b + nI i) 0 = P at hp9 hpe e
    refine r_iload iX7_partsOf_129 rfl ?_
    refine r_iload iX7_partsOf_131 rfl ?_
    refine r_icmp_ge iX7_partsOf_133 (fun g9 => absurd g9 (nI_ge (by omega) (by omega))) (fun _ => ?_)
    refine r_iload iX7_partsOf_136 rfl ?_
    refine r_if_ne iX7_partsOf_138 (fun g9 => absurd (rfl) g9) (fun _ => ?_)
    refine r_lload iX7_partsOf_141 rfl ?_
    refine r_ldc2 (v := 10) iX7_partsOf_143 (gt_3 173 rfl rfl) ?_
    refine r_ldiv iX7_partsOf_146 (by decide) ?_
    rw [show lN W / 10 = lN (W / 10) from pk_lDiv (b := 10) (by omega) (by decide) (by decide)]
    refine r_bipush (v := 10) iX7_partsOf_147 rfl ?_
    refine r_aload iX7_partsOf_149 rfl ?_
    refine r_iload iX7_partsOf_150 rfl ?_
    refine r_aload iX7_partsOf_151 rfl ?_
    refine r_gnow iX7_partsOf_152 (flX7_19 _ rfl) ?_
    refine r_iconst (v := 0) iX7_partsOf_155 rfl ?_
    refine r_ld3 iX7_partsOf_156 ((show (0 : Int32) = nI 0 from rfl)) (by omega) ?_
    rw [hA]
    refine r_iload iX7_partsOf_157 rfl ?_
    refine r_iadd iX7_partsOf_159 ?_
    refine r_iload iX7_partsOf_160 rfl ?_
    refine r_callV iX7_partsOf_162 (cX7_94 _ rfl) (c7_oddsOf h I J me (k := k) (i := x) hx k0.symm k1.symm hk1 (b + nI i) 0 _ (Int32.add_zero _).symm _) (by omega) (mOv_obj _ _) rfl rfl rfl (Nat.le_of_ble_eq_true rfl) (by first | exact Nat.le_of_ble_eq_true rfl | omega) (by first | exact Nat.le_of_ble_eq_true rfl | omega) ?_
    rintro v h' z' ⟨rfl, rfl, rfl⟩
    rw [hpe]
    refine r_isub iX7_partsOf_165 ?_
    rw [show (10 : Int32) - nI P = nI (10 - P) from nI_sub (a := 10) (by omega)]
    refine r_i2l iX7_partsOf_166 ?_
    rw [nI_l (by omega)]
    refine r_lmul iX7_partsOf_167 ?_
    rw [lN_mul]
    refine r_lstore_9 iX7_partsOf_168 rfl ?_
    refine r_iinc_5 iX7_partsOf_170 (rfl) rfl ?_
    refine r_iinc_8 iX7_partsOf_173 (rfl) rfl ?_
    refine r_iinc_15 iX7_partsOf_176 (by first | exact nI_inc _ | rfl) rfl ?_
    refine r_goto iX7_partsOf_179 ?_
    have hW1 : W / 10 * (10 - P) ≤ W / 10 * 10 := Nat.mul_le_mul_left _ (by omega)
    have hW2 : W / 10 * 10 ≤ W := Nat.div_mul_le_self _ _
    exact ih (p + 1) (kMiss k) (W / 10 * (10 - P)) (by omega) (by omega) k0 k1 hk1 e
