/-! the model's sheets, walked -/
theorem c7_sheets_out (h : Hp) (s : Ms) (n k m : Int32) (hx : n < 1 ∨ 6 < n ∨ k < 0 ∨ n < k ∨ m < 0 ∨ 18 < m) : Fn MX7_sheets 2 [.ref 152, .int n, .int k, .int m] (mOv h s) (some (.int (-2))) := by
  intro z
  refine Cal_of_R (by decide +kernel) (L := [.ref 152, .int n, .int k, .int m, .null, .null, .null, .null, .null, .null, .null]) rfl (Nat.le_of_ble_eq_true rfl) ?_
  refine r_iload iX7_sheets_0 rfl ?_
  refine r_i2l iX7_sheets_1 ?_
  refine r_lconst (v := 1) iX7_sheets_2 rfl ?_
  refine r_ldc2 (v := 6) iX7_sheets_3 (gt_3 235 rfl rfl) ?_
  refine r_callS iX7_sheets_6 (cX7_44 _ rfl) (c7_inE _ (x := n) (lo := 1) (hi := 6) rfl rfl rfl _) (by omega) rfl rfl (Nat.le_of_ble_eq_true rfl) (by first | exact Nat.le_of_ble_eq_true rfl | omega) (by first | exact Nat.le_of_ble_eq_true rfl | omega) ?_
  rintro v h' z' ⟨rfl, rfl, rfl⟩
  by_cases g1 : 1 ≤ n ∧ n ≤ 6
  case neg =>
    rw [if_neg g1]
    refine r_if_eq iX7_sheets_9 (fun _ => ?_) (fun g9 => absurd (rfl) g9)
    refine r_bipush (v := (-2)) iX7_sheets_35 rfl ?_
    refine r_iret iX7_sheets_37 rfl ?_
    exact ⟨rfl, rfl, rfl⟩
  rw [if_pos g1]
  refine r_if_eq iX7_sheets_9 (fun g9 => absurd g9 (by decide)) (fun _ => ?_)
  refine r_iload iX7_sheets_12 rfl ?_
  refine r_i2l iX7_sheets_13 ?_
  refine r_lconst (v := 0) iX7_sheets_14 rfl ?_
  refine r_iload iX7_sheets_15 rfl ?_
  refine r_i2l iX7_sheets_16 ?_
  refine r_callS iX7_sheets_17 (cX7_44 _ rfl) (c7_inE _ (x := k) (lo := 0) (hi := n) rfl rfl rfl _) (by omega) rfl rfl (Nat.le_of_ble_eq_true rfl) (by first | exact Nat.le_of_ble_eq_true rfl | omega) (by first | exact Nat.le_of_ble_eq_true rfl | omega) ?_
  rintro v h' z' ⟨rfl, rfl, rfl⟩
  by_cases g2 : 0 ≤ k ∧ k ≤ n
  case neg =>
    rw [if_neg g2]
    refine r_if_eq iX7_sheets_20 (fun _ => ?_) (fun g9 => absurd (rfl) g9)
    refine r_bipush (v := (-2)) iX7_sheets_35 rfl ?_
    refine r_iret iX7_sheets_37 rfl ?_
    exact ⟨rfl, rfl, rfl⟩
  rw [if_pos g2]
  refine r_if_eq iX7_sheets_20 (fun g9 => absurd g9 (by decide)) (fun _ => ?_)
  refine r_iload iX7_sheets_23 rfl ?_
  refine r_i2l iX7_sheets_24 ?_
  refine r_lconst (v := 0) iX7_sheets_25 rfl ?_
  refine r_ldc2 (v := 18) iX7_sheets_26 (gt_3 236 rfl rfl) ?_
  refine r_callS iX7_sheets_29 (cX7_44 _ rfl) (c7_inE _ (x := m) (lo := 0) (hi := 18) rfl rfl rfl _) (by omega) rfl rfl (Nat.le_of_ble_eq_true rfl) (by first | exact Nat.le_of_ble_eq_true rfl | omega) (by first | exact Nat.le_of_ble_eq_true rfl | omega) ?_
  rintro v h' z' ⟨rfl, rfl, rfl⟩
  have g3 : ¬ (0 ≤ m ∧ m ≤ 18) := fun q => by
    rcases hx with r | r | r | r | r | r
    · exact absurd g1.1 (Int32.not_le.mpr r)
    · exact absurd g1.2 (Int32.not_le.mpr r)
    · exact absurd g2.1 (Int32.not_le.mpr r)
    · exact absurd g2.2 (Int32.not_le.mpr r)
    · exact absurd q.1 (Int32.not_le.mpr r)
    · exact absurd q.2 (Int32.not_le.mpr r)
  rw [if_neg g3]
  refine r_if_ne iX7_sheets_32 (fun g9 => absurd (rfl) g9) (fun _ => ?_)
  refine r_bipush (v := (-2)) iX7_sheets_35 rfl ?_
  refine r_iret iX7_sheets_37 rfl ?_
  exact ⟨rfl, rfl, rfl⟩
def AL (F : Nat → Int32) (l : List Nat) : Prop := ∀ t, t < 420 → F t = nI (l.getD t 0)
theorem AL.add {F : Nat → Int32} {l : List Nat} (H : AL F l) (hl : l.length = 420) {p v : Nat} (hp : p < 420) : AL (upd F p (F p + nI v)) (addAt l p v) := fun t ht => by
  rw [upd_at, addAt_get l p v t (by omega)]
  by_cases g : t = p
  · rw [if_pos g, if_pos g, H p hp, nI_add]
  · rw [if_neg g, if_neg g, H t ht]
theorem okL_at {i : Nat} : ∀ (l : List Nat) (s : Nat), okL i l s = true → ∀ d v vs, l.drop d = v :: vs → v < 1000000 ∧ (v ≠ 0 → ∀ j, j < 3 - (s + d) / 140 → 20 * i + (s + d) % 20 + j < 420 ∧ 140 * ((s + d) / 140 + j) + 20 * ((s + d) / 20 % 7) + (s + d) % 20 + j < 420)
  | [], s, h, d, v, vs, e => by simp at e
  | a :: l, s, h, 0, v, vs, e => by
    rw [okL, Bool.and_eq_true, Bool.and_eq_true] at h
    obtain ⟨rfl, rfl⟩ : a = v ∧ l = vs := by simpa using e
    refine ⟨of_decide_eq_true h.1.1, fun hv j hj => ?_⟩
    rcases (Bool.or_eq_true _ _).mp h.1.2 with g | g
    · exact absurd (of_decide_eq_true g) hv
    · have := (List.all_eq_true.mp g) j (List.mem_range.mpr hj)
      rw [Bool.and_eq_true] at this
      exact ⟨of_decide_eq_true this.1, of_decide_eq_true this.2⟩
  | a :: l, s, h, d + 1, v, vs, e => by
    rw [okL, Bool.and_eq_true] at h
    have := okL_at l (s + 1) h.2 d v vs e
    rw [show s + 1 + d = s + (d + 1) by omega] at this
    exact this
theorem pj_len (i s v : Nat) : ∀ (c j : Nat) (l : List Nat), (pj i s v c j l).length = l.length
  | 0, j, l => rfl
  | c + 1, j, l => by rw [pj, pj_len i s v c, addAt_len, addAt_len]
theorem drop_cons' {l : List Nat} {s v : Nat} {vs : List Nat} (e : l.drop s = v :: vs) : l.getD s 0 = v ∧ l.drop (s + 1) = vs := by
  refine ⟨?_, ?_⟩
  · have := congrArg List.head? e
    rw [List.head?_drop] at this
    rw [List.getD_eq_getElem?_getD, this]; rfl
  · rw [← List.drop_drop, e]; rfl
theorem c7_jl (h : Hp) (I : Nat → Int32) (J : Nat → Int64) (me : Nat → Int64) {Q : Option Value → Hp → Nat → Prop} {n k m i s v : Nat} (out : Int32) (z : Nat) {T : List Nat} (hs : s < 420) (hi : i ≤ 6) (hv : T.getD s 0 = v) (hv0 : v ≠ 0) (hvb : v < 1000000) (hix : ∀ j, j < 3 - s / 140 → 20 * i + s % 20 + j < 420 ∧ 140 * (s / 140 + j) + 20 * (s / 20 % 7) + s % 20 + j < 420) (A0' : Nat → Nat → Int32) (lf' : List Nat)
    (K : ∀ A1 w10, AL (A1 5) T → AL (A1 6) lf' → (∀ q, q ≠ 5 → q ≠ 6 → A1 q = A0' q) → R MX7_sheets 2 0 0 Q 235 [.ref 152, .int (nI n), .int (nI k), .int (nI m), .int out, .int (nI i), .int (nI s), .int (nI (s / 140)), .int (nI (s / 20 % 7)), .int (nI (s % 20)), w10] [] (mOv h (I, J, A1, me)) z 0 0) :
    ∀ (c j : Nat) (A : Nat → Nat → Int32) (l : List Nat), s / 140 + j + c = 3 → l.length = 420 → AL (A 5) T → AL (A 6) l → (∀ q, q ≠ 5 → q ≠ 6 → A q = A0' q) → pj i s v c j l = lf' → R MX7_sheets 2 0 0 Q 148 [.ref 152, .int (nI n), .int (nI k), .int (nI m), .int out, .int (nI i), .int (nI s), .int (nI (s / 140)), .int (nI (s / 20 % 7)), .int (nI (s % 20)), .int (nI j)] [] (mOv h (I, J, A, me)) z 0 0 := by
  intro c
  induction c with
  | zero =>
    intro j A l hc hl H5 H6 hA e
    refine r_iload iX7_sheets_148 rfl ?_
    refine r_iload iX7_sheets_150 rfl ?_
    refine r_iadd iX7_sheets_152 ?_
    rw [nI_add]
    refine r_iconst (v := 3) iX7_sheets_153 rfl ?_
    refine r_icmp_ge iX7_sheets_154 (fun _ => ?_) (fun g9 => absurd (nI_le (a := 3) (by omega) (by omega)) g9)
    exact K A _ H5 (by rw [← e]; exact H6) hA
  | succ c ih =>
    intro j A l hc hl H5 H6 hA e
    obtain ⟨x1, x2⟩ := hix j (by omega)
    have e5 : A 5 s = nI v := by rw [H5 s hs, hv]
    refine r_iload iX7_sheets_148 rfl ?_
    refine r_iload iX7_sheets_150 rfl ?_
    refine r_iadd iX7_sheets_152 ?_
    rw [nI_add]
    refine r_iconst (v := 3) iX7_sheets_153 rfl ?_
    refine r_icmp_ge iX7_sheets_154 (fun g9 => absurd g9 (nI_ge (b := 3) (by omega) (by omega))) (fun _ => ?_)
    refine r_aload iX7_sheets_157 rfl ?_
    refine r_gways iX7_sheets_158 (flX7_29 _ rfl) ?_
    refine r_iload iX7_sheets_161 rfl ?_
    refine r_ld5 iX7_sheets_163 rfl (by omega) ?_
    rw [e5]
    refine r_if_le iX7_sheets_164 (fun g9 => absurd g9 (nI_nle (by omega) (by omega))) (fun _ => ?_)
    refine r_aload iX7_sheets_167 rfl ?_
    refine r_glater iX7_sheets_168 (flX7_32 _ rfl) ?_
    refine r_bipush (v := 20) iX7_sheets_171 rfl ?_
    refine r_iload iX7_sheets_173 rfl ?_
    refine r_imul iX7_sheets_175 ?_
    refine r_iload iX7_sheets_176 rfl ?_
    refine r_iadd iX7_sheets_178 ?_
    refine r_iload iX7_sheets_179 rfl ?_
    refine r_iadd iX7_sheets_181 ?_
    rw [show (20 : Int32) * nI i + nI (s % 20) + nI j = nI (20 * i + s % 20 + j) by rw [← nI_add, ← nI_add, ← nI_mul]; rfl]
    refine r_dup2 iX7_sheets_182 rfl rfl ?_
    refine r_ld6 iX7_sheets_183 rfl (by omega) ?_
    refine r_aload iX7_sheets_184 rfl ?_
    refine r_gways iX7_sheets_185 (flX7_29 _ rfl) ?_
    refine r_iload iX7_sheets_188 rfl ?_
    refine r_ld5 iX7_sheets_190 rfl (by omega) ?_
    rw [e5]
    refine r_iadd iX7_sheets_191 ?_
    refine r_st6 iX7_sheets_192 rfl (by omega) ?_
    refine r_aload iX7_sheets_193 rfl ?_
    refine r_glater iX7_sheets_194 (flX7_32 _ rfl) ?_
    refine r_sipush (v := 140) iX7_sheets_197 rfl ?_
    refine r_iload iX7_sheets_200 rfl ?_
    refine r_iload iX7_sheets_202 rfl ?_
    refine r_iadd iX7_sheets_204 ?_
    refine r_imul iX7_sheets_205 ?_
    refine r_bipush (v := 20) iX7_sheets_206 rfl ?_
    refine r_iload iX7_sheets_208 rfl ?_
    refine r_imul iX7_sheets_210 ?_
    refine r_iadd iX7_sheets_211 ?_
    refine r_iload iX7_sheets_212 rfl ?_
    refine r_iadd iX7_sheets_214 ?_
    refine r_iload iX7_sheets_215 rfl ?_
    refine r_iadd iX7_sheets_217 ?_
    rw [show (140 : Int32) * (nI (s / 140) + nI j) + 20 * nI (s / 20 % 7) + nI (s % 20) + nI j = nI (140 * (s / 140 + j) + 20 * (s / 20 % 7) + s % 20 + j) by rw [← nI_add, ← nI_add, ← nI_add, ← nI_mul, ← nI_mul, ← nI_add]; rfl]
    refine r_dup2 iX7_sheets_218 rfl rfl ?_
    refine r_ld6 iX7_sheets_219 rfl (by omega) ?_
    refine r_aload iX7_sheets_220 rfl ?_
    refine r_gways iX7_sheets_221 (flX7_29 _ rfl) ?_
    refine r_iload iX7_sheets_224 rfl ?_
    refine r_ld5 iX7_sheets_226 rfl (by omega) ?_
    rw [show upA A 6 (20 * i + s % 20 + j) (A 6 (20 * i + s % 20 + j) + nI v) 5 s = nI v from e5]
    refine r_iadd iX7_sheets_227 ?_
    refine r_st6 iX7_sheets_228 rfl (by omega) ?_
    refine r_iinc_10 iX7_sheets_229 (by first | exact nI_inc _ | rfl) rfl ?_
    refine r_goto iX7_sheets_232 ?_
    rw [pj] at e
    have a1 := H6.add hl (v := v) x1
    have a2 := a1.add (by rw [addAt_len]; exact hl) (v := v) x2
    exact ih (j + 1) _ _ (by omega) (by rw [addAt_len, addAt_len]; exact hl) H5 a2 (fun q q5 q6 => by rw [upA_ne q6, upA_ne q6]; exact hA q q5 q6) e
