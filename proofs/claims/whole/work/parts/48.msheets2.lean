/-! the model's sheets, walked -/
theorem c7_sheets_out (h : Hp) (s : Ms) (n k m : Int32) (hx : n < 1 ∨ 6 < n ∨ k < 0 ∨ n < k ∨ m < 0 ∨ 18 < m) : Fn MX7_sheets 2 [.ref 152, .int n, .int k, .int m] (mOv h s) (some (.int (-2))) := by
  intro z
  refine Cal_of_R (by decide +kernel) (L := [.ref 152, .int n, .int k, .int m, .null, .null, .null, .null, .null, .null, .null]) rfl (Nat.le_of_ble_eq_true rfl) ?_
  refine r_iload iX7_sheets_0 rfl ?_
  refine r_i2l iX7_sheets_1 ?_
  refine r_lconst (v := 1) iX7_sheets_2 rfl ?_
  refine r_ldc2 (v := 6) iX7_sheets_3 (gt_3 235 rfl rfl) ?_
  refine r_callS iX7_sheets_6 (cX7_44 _ rfl) (c7_inE _ (x := n) (lo := 1) (hi := 6) rfl rfl rfl _) (by omega) rfl rfl (Nat.le_of_ble_eq_true rfl) (by first | exact Nat.le_of_ble_eq_true rfl | omega) (by first | exact Nat.le_of_ble_eq_true rfl | omega) ?_
  rintro v h' z' ⟨rfl, rfl, rfl⟩
  by_cases g1 : 1 ≤ n ∧ n ≤ 6
  case neg =>
    rw [if_neg g1]
    refine r_if_eq iX7_sheets_9 (fun _ => ?_) (fun g9 => absurd (rfl) g9)
    refine r_bipush (v := (-2)) iX7_sheets_35 rfl ?_
    refine r_iret iX7_sheets_37 rfl ?_
    exact ⟨rfl, rfl, rfl⟩
  rw [if_pos g1]
  refine r_if_eq iX7_sheets_9 (fun g9 => absurd g9 (by decide)) (fun _ => ?_)
  refine r_iload iX7_sheets_12 rfl ?_
  refine r_i2l iX7_sheets_13 ?_
  refine r_lconst (v := 0) iX7_sheets_14 rfl ?_
  refine r_iload iX7_sheets_15 rfl ?_
  refine r_i2l iX7_sheets_16 ?_
  refine r_callS iX7_sheets_17 (cX7_44 _ rfl) (c7_inE _ (x := k) (lo := 0) (hi := n) rfl rfl rfl _) (by omega) rfl rfl (Nat.le_of_ble_eq_true rfl) (by first | exact Nat.le_of_ble_eq_true rfl | omega) (by first | exact Nat.le_of_ble_eq_true rfl | omega) ?_
  rintro v h' z' ⟨rfl, rfl, rfl⟩
  by_cases g2 : 0 ≤ k ∧ k ≤ n
  case neg =>
    rw [if_neg g2]
    refine r_if_eq iX7_sheets_20 (fun _ => ?_) (fun g9 => absurd (rfl) g9)
    refine r_bipush (v := (-2)) iX7_sheets_35 rfl ?_
    refine r_iret iX7_sheets_37 rfl ?_
    exact ⟨rfl, rfl, rfl⟩
  rw [if_pos g2]
  refine r_if_eq iX7_sheets_20 (fun g9 => absurd g9 (by decide)) (fun _ => ?_)
  refine r_iload iX7_sheets_23 rfl ?_
  refine r_i2l iX7_sheets_24 ?_
  refine r_lconst (v := 0) iX7_sheets_25 rfl ?_
  refine r_ldc2 (v := 18) iX7_sheets_26 (gt_3 236 rfl rfl) ?_
  refine r_callS iX7_sheets_29 (cX7_44 _ rfl) (c7_inE _ (x := m) (lo := 0) (hi := 18) rfl rfl rfl _) (by omega) rfl rfl (Nat.le_of_ble_eq_true rfl) (by first | exact Nat.le_of_ble_eq_true rfl | omega) (by first | exact Nat.le_of_ble_eq_true rfl | omega) ?_
  rintro v h' z' ⟨rfl, rfl, rfl⟩
  have g3 : ¬ (0 ≤ m ∧ m ≤ 18) := fun q => by
    rcases hx with r | r | r | r | r | r
    · exact absurd g1.1 (Int32.not_le.mpr r)
    · exact absurd g1.2 (Int32.not_le.mpr r)
    · exact absurd g2.1 (Int32.not_le.mpr r)
    · exact absurd g2.2 (Int32.not_le.mpr r)
    · exact absurd q.1 (Int32.not_le.mpr r)
    · exact absurd q.2 (Int32.not_le.mpr r)
  rw [if_neg g3]
  refine r_if_ne iX7_sheets_32 (fun g9 => absurd (rfl) g9) (fun _ => ?_)
  refine r_bipush (v := (-2)) iX7_sheets_35 rfl ?_
  refine r_iret iX7_sheets_37 rfl ?_
  exact ⟨rfl, rfl, rfl⟩
def AL (F : Nat → Int32) (l : List Nat) : Prop := ∀ t, t < 420 → F t = nI (l.getD t 0)
theorem AL.add {F : Nat → Int32} {l : List Nat} (H : AL F l) (hl : l.length = 420) {p v : Nat} (hp : p < 420) : AL (upd F p (F p + nI v)) (addAt l p v) := fun t ht => by
  rw [upd_at, addAt_get l p v t (by omega)]
  by_cases g : t = p
  · rw [if_pos g, if_pos g, H p hp, nI_add]
  · rw [if_neg g, if_neg g, H t ht]
theorem okL_at {i : Nat} : ∀ (l : List Nat) (s : Nat), okL i l s = true → ∀ d v vs, l.drop d = v :: vs → v < 1000000 ∧ (v ≠ 0 → ∀ j, j < 3 - (s + d) / 140 → 20 * i + (s + d) % 20 + j < 420 ∧ 140 * ((s + d) / 140 + j) + 20 * ((s + d) / 20 % 7) + (s + d) % 20 + j < 420)
  | [], s, h, d, v, vs, e => by simp at e
  | a :: l, s, h, 0, v, vs, e => by
    rw [okL, Bool.and_eq_true, Bool.and_eq_true] at h
    obtain ⟨rfl, rfl⟩ : a = v ∧ l = vs := by simpa using e
    refine ⟨of_decide_eq_true h.1.1, fun hv j hj => ?_⟩
    rcases (Bool.or_eq_true _ _).mp h.1.2 with g | g
    · exact absurd (of_decide_eq_true g) hv
    · have := (List.all_eq_true.mp g) j (List.mem_range.mpr hj)
      rw [Bool.and_eq_true] at this
      exact ⟨of_decide_eq_true this.1, of_decide_eq_true this.2⟩
  | a :: l, s, h, d + 1, v, vs, e => by
    rw [okL, Bool.and_eq_true] at h
    have := okL_at l (s + 1) h.2 d v vs e
    rw [show s + 1 + d = s + (d + 1) by omega] at this
    exact this
theorem pj_len (i s v : Nat) : ∀ (c j : Nat) (l : List Nat), (pj i s v c j l).length = l.length
  | 0, j, l => rfl
  | c + 1, j, l => by rw [pj, pj_len i s v c, addAt_len, addAt_len]
theorem drop_cons' {l : List Nat} {s v : Nat} {vs : List Nat} (e : l.drop s = v :: vs) : l.getD s 0 = v ∧ l.drop (s + 1) = vs := by
  refine ⟨?_, ?_⟩
  · have := congrArg List.head? e
    rw [List.head?_drop] at this
    rw [List.getD_eq_getElem?_getD, this]; rfl
  · rw [← List.drop_drop, e]; rfl
theorem c7_jl (h : Hp) (I : Nat → Int32) (J : Nat → Int64) (me : Nat → Int64) {Q : Option Value → Hp → Nat → Prop} {n k m i s v : Nat} (out : Int32) (z : Nat) {T : List Nat} (hs : s < 420) (hi : i ≤ 6) (hv : T.getD s 0 = v) (hv0 : v ≠ 0) (hvb : v < 1000000) (hix : ∀ j, j < 3 - s / 140 → 20 * i + s % 20 + j < 420 ∧ 140 * (s / 140 + j) + 20 * (s / 20 % 7) + s % 20 + j < 420) (A0' : Nat → Nat → Int32) (lf' : List Nat)
    (K : ∀ A1 w10, AL (A1 5) T → AL (A1 6) lf' → (∀ q, q ≠ 5 → q ≠ 6 → A1 q = A0' q) → R MX7_sheets 2 0 0 Q 235 [.ref 152, .int (nI n), .int (nI k), .int (nI m), .int out, .int (nI i), .int (nI s), .int (nI (s / 140)), .int (nI (s / 20 % 7)), .int (nI (s % 20)), w10] [] (mOv h (I, J, A1, me)) z 0 0) :
    ∀ (c j : Nat) (A : Nat → Nat → Int32) (l : List Nat), s / 140 + j + c = 3 → l.length = 420 → AL (A 5) T → AL (A 6) l → (∀ q, q ≠ 5 → q ≠ 6 → A q = A0' q) → pj i s v c j l = lf' → R MX7_sheets 2 0 0 Q 148 [.ref 152, .int (nI n), .int (nI k), .int (nI m), .int out, .int (nI i), .int (nI s), .int (nI (s / 140)), .int (nI (s / 20 % 7)), .int (nI (s % 20)), .int (nI j)] [] (mOv h (I, J, A, me)) z 0 0 := by
  intro c
  induction c with
  | zero =>
    intro j A l hc hl H5 H6 hA e
    refine r_iload iX7_sheets_148 rfl ?_
    refine r_iload iX7_sheets_150 rfl ?_
    refine r_iadd iX7_sheets_152 ?_
    rw [nI_add]
    refine r_iconst (v := 3) iX7_sheets_153 rfl ?_
    refine r_icmp_ge iX7_sheets_154 (fun _ => ?_) (fun g9 => absurd (nI_le (a := 3) (by omega) (by omega)) g9)
    exact K A _ H5 (by rw [← e]; exact H6) hA
  | succ c ih =>
    intro j A l hc hl H5 H6 hA e
    obtain ⟨x1, x2⟩ := hix j (by omega)
    have e5 : A 5 s = nI v := by rw [H5 s hs, hv]
    refine r_iload iX7_sheets_148 rfl ?_
    refine r_iload iX7_sheets_150 rfl ?_
    refine r_iadd iX7_sheets_152 ?_
    rw [nI_add]
    refine r_iconst (v := 3) iX7_sheets_153 rfl ?_
    refine r_icmp_ge iX7_sheets_154 (fun g9 => absurd g9 (nI_ge (b := 3) (by omega) (by omega))) (fun _ => ?_)
    refine r_aload iX7_sheets_157 rfl ?_
    refine r_gways iX7_sheets_158 (flX7_29 _ rfl) ?_
    refine r_iload iX7_sheets_161 rfl ?_
    refine r_ld5 iX7_sheets_163 rfl (by omega) ?_
    rw [e5]
    refine r_if_le iX7_sheets_164 (fun g9 => absurd g9 (nI_nle (by omega) (by omega))) (fun _ => ?_)
    refine r_aload iX7_sheets_167 rfl ?_
    refine r_glater iX7_sheets_168 (flX7_32 _ rfl) ?_
    refine r_bipush (v := 20) iX7_sheets_171 rfl ?_
    refine r_iload iX7_sheets_173 rfl ?_
    refine r_imul iX7_sheets_175 ?_
    refine r_iload iX7_sheets_176 rfl ?_
    refine r_iadd iX7_sheets_178 ?_
    refine r_iload iX7_sheets_179 rfl ?_
    refine r_iadd iX7_sheets_181 ?_
    rw [show (20 : Int32) * nI i + nI (s % 20) + nI j = nI (20 * i + s % 20 + j) by rw [← nI_add, ← nI_add, ← nI_mul]; rfl]
    refine r_dup2 iX7_sheets_182 rfl rfl ?_
    refine r_ld6 iX7_sheets_183 rfl (by omega) ?_
    refine r_aload iX7_sheets_184 rfl ?_
    refine r_gways iX7_sheets_185 (flX7_29 _ rfl) ?_
    refine r_iload iX7_sheets_188 rfl ?_
    refine r_ld5 iX7_sheets_190 rfl (by omega) ?_
    rw [e5]
    refine r_iadd iX7_sheets_191 ?_
    refine r_st6 iX7_sheets_192 rfl (by omega) ?_
    refine r_aload iX7_sheets_193 rfl ?_
    refine r_glater iX7_sheets_194 (flX7_32 _ rfl) ?_
    refine r_sipush (v := 140) iX7_sheets_197 rfl ?_
    refine r_iload iX7_sheets_200 rfl ?_
    refine r_iload iX7_sheets_202 rfl ?_
    refine r_iadd iX7_sheets_204 ?_
    refine r_imul iX7_sheets_205 ?_
    refine r_bipush (v := 20) iX7_sheets_206 rfl ?_
    refine r_iload iX7_sheets_208 rfl ?_
    refine r_imul iX7_sheets_210 ?_
    refine r_iadd iX7_sheets_211 ?_
    refine r_iload iX7_sheets_212 rfl ?_
    refine r_iadd iX7_sheets_214 ?_
    refine r_iload iX7_sheets_215 rfl ?_
    refine r_iadd iX7_sheets_217 ?_
    rw [show (140 : Int32) * (nI (s / 140) + nI j) + 20 * nI (s / 20 % 7) + nI (s % 20) + nI j = nI (140 * (s / 140 + j) + 20 * (s / 20 % 7) + s % 20 + j) by rw [← nI_add, ← nI_add, ← nI_add, ← nI_mul, ← nI_mul, ← nI_add]; rfl]
    refine r_dup2 iX7_sheets_218 rfl rfl ?_
    refine r_ld6 iX7_sheets_219 rfl (by omega) ?_
    refine r_aload iX7_sheets_220 rfl ?_
    refine r_gways iX7_sheets_221 (flX7_29 _ rfl) ?_
    refine r_iload iX7_sheets_224 rfl ?_
    refine r_ld5 iX7_sheets_226 rfl (by omega) ?_
    rw [show upA A 6 (20 * i + s % 20 + j) (A 6 (20 * i + s % 20 + j) + nI v) 5 s = nI v from e5]
    refine r_iadd iX7_sheets_227 ?_
    refine r_st6 iX7_sheets_228 rfl (by omega) ?_
    refine r_iinc_10 iX7_sheets_229 (by first | exact nI_inc _ | rfl) rfl ?_
    refine r_goto iX7_sheets_232 ?_
    rw [pj] at e
    have a1 := H6.add hl (v := v) x1
    have a2 := a1.add (by rw [addAt_len]; exact hl) (v := v) x2
    exact ih (j + 1) _ _ (by omega) (by rw [addAt_len, addAt_len]; exact hl) H5 a2 (fun q q5 q6 => by rw [upA_ne q6, upA_ne q6]; exact hA q q5 q6) e
theorem c7_sheets (h : Hp) (I : Nat → Int32) (J : Nat → Int64) (A : Nat → Nat → Int32) (me : Nat → Int64) {n k m : Nat} (h1 : 1 ≤ n) (h6 : n ≤ 6) (hk : k ≤ n) (hm : m ≤ 18) (z : Nat) : Cal MX7_sheets 2 0 0 [.ref 152, .int (nI n), .int (nI k), .int (nI m)] (mOv h (I, J, A, me)) z (fun v h' z' => v = some (.int (nI (mSh n k m))) ∧ z' = z ∧ ∃ A', h' = mOv h (I, J, A', me) ∧ ∀ q, q ≠ 5 → q ≠ 6 → A' q = A q) := by
  refine Cal_of_R (by decide +kernel) (L := [.ref 152, .int (nI n), .int (nI k), .int (nI m), .null, .null, .null, .null, .null, .null, .null]) rfl (Nat.le_of_ble_eq_true rfl) ?_
  refine r_iload iX7_sheets_0 rfl ?_
  refine r_i2l iX7_sheets_1 ?_
  refine r_lconst (v := 1) iX7_sheets_2 rfl ?_
  refine r_ldc2 (v := 6) iX7_sheets_3 (gt_3 235 rfl rfl) ?_
  refine r_callS iX7_sheets_6 (cX7_44 _ rfl) (c7_inE _ (x := nI n) (lo := 1) (hi := 6) rfl rfl rfl _) (by omega) rfl rfl (Nat.le_of_ble_eq_true rfl) (by first | exact Nat.le_of_ble_eq_true rfl | omega) (by first | exact Nat.le_of_ble_eq_true rfl | omega) ?_
  rintro v h' z' ⟨rfl, rfl, rfl⟩
  rw [if_pos (show (1 : Int32) ≤ nI n ∧ nI n ≤ 6 from ⟨nI_le (a := 1) h1 (by omega), nI_le (b := 6) h6 (by omega)⟩)]
  refine r_if_eq iX7_sheets_9 (fun g9 => absurd g9 (by decide)) (fun _ => ?_)
  refine r_iload iX7_sheets_12 rfl ?_
  refine r_i2l iX7_sheets_13 ?_
  refine r_lconst (v := 0) iX7_sheets_14 rfl ?_
  refine r_iload iX7_sheets_15 rfl ?_
  refine r_i2l iX7_sheets_16 ?_
  refine r_callS iX7_sheets_17 (cX7_44 _ rfl) (c7_inE _ (x := nI k) (lo := 0) (hi := nI n) rfl rfl rfl _) (by omega) rfl rfl (Nat.le_of_ble_eq_true rfl) (by first | exact Nat.le_of_ble_eq_true rfl | omega) (by first | exact Nat.le_of_ble_eq_true rfl | omega) ?_
  rintro v h' z' ⟨rfl, rfl, rfl⟩
  rw [if_pos (show (0 : Int32) ≤ nI k ∧ nI k ≤ nI n from ⟨nI_pos' (by omega), nI_le hk (by omega)⟩)]
  refine r_if_eq iX7_sheets_20 (fun g9 => absurd g9 (by decide)) (fun _ => ?_)
  refine r_iload iX7_sheets_23 rfl ?_
  refine r_i2l iX7_sheets_24 ?_
  refine r_lconst (v := 0) iX7_sheets_25 rfl ?_
  refine r_ldc2 (v := 18) iX7_sheets_26 (gt_3 236 rfl rfl) ?_
  refine r_callS iX7_sheets_29 (cX7_44 _ rfl) (c7_inE _ (x := nI m) (lo := 0) (hi := 18) rfl rfl rfl _) (by omega) rfl rfl (Nat.le_of_ble_eq_true rfl) (by first | exact Nat.le_of_ble_eq_true rfl | omega) (by first | exact Nat.le_of_ble_eq_true rfl | omega) ?_
  rintro v h' z' ⟨rfl, rfl, rfl⟩
  rw [if_pos (show (0 : Int32) ≤ nI m ∧ nI m ≤ 18 from ⟨nI_pos' (by omega), nI_le (b := 18) hm (by omega)⟩)]
  refine r_if_ne iX7_sheets_32 (fun _ => ?_) (fun g9 => absurd g9 (by decide))
  refine r_iconst (v := 0) iX7_sheets_38 rfl ?_
  refine r_istore_4 iX7_sheets_39 rfl ?_
  refine r_iconst (v := 0) iX7_sheets_41 rfl ?_
  refine r_istore_5 iX7_sheets_42 rfl ?_
  -- the end
  have fin : ∀ (A1 : Nat → Nat → Int32) (w6 w7 w8 w9 w10 : Value) (i9 : Int32), AL (A1 5) (tL n) → (∀ q, q ≠ 5 → q ≠ 6 → A1 q = A q) → R MX7_sheets 2 0 0 (fun v h' z'_1 => v = some (.int (nI (mSh n k m))) ∧ z'_1 = z' ∧ ∃ A', h' = mOv h (I, J, A', me) ∧ ∀ q, q ≠ 5 → q ≠ 6 → A' q = A q) 311 [.ref 152, .int (nI n), .int (nI k), .int (nI m), .int (nI (mO k m n)), .int i9, w6, w7, w8, w9, w10] [] (mOv h (I, J, A1, me)) z' 0 0 := by
    intro A1 w6 w7 w8 w9 w10 i9 H5 hA
    have ix : ∀ r : Nat, (140 : Int32) * nI r + 20 * nI k + nI m = nI (140 * r + 20 * k + m) := fun r => by rw [← nI_add, ← nI_add, ← nI_mul, ← nI_mul]; rfl
    refine r_iload iX7_sheets_311 rfl ?_
    refine r_istore_5 iX7_sheets_313 rfl ?_
    refine r_iconst (v := 0) iX7_sheets_315 rfl ?_
    refine r_istore_6 iX7_sheets_316 rfl ?_
    refine r_iload iX7_sheets_318 rfl ?_
    refine r_iconst (v := 3) iX7_sheets_320 rfl ?_
    refine r_icmp_ge iX7_sheets_321 (fun g9 => absurd g9 (by decide)) (fun _ => ?_)
    refine r_iload iX7_sheets_324 rfl ?_
    refine r_aload iX7_sheets_326 rfl ?_
    refine r_gways iX7_sheets_327 (flX7_29 _ rfl) ?_
    refine r_sipush (v := 140) iX7_sheets_330 rfl ?_
    refine r_iload iX7_sheets_333 rfl ?_
    refine r_imul iX7_sheets_335 ?_
    refine r_bipush (v := 20) iX7_sheets_336 rfl ?_
    refine r_iload iX7_sheets_338 rfl ?_
    refine r_imul iX7_sheets_339 ?_
    refine r_iadd iX7_sheets_340 ?_
    refine r_iload iX7_sheets_341 rfl ?_
    refine r_iadd iX7_sheets_342 ?_
    rw [show (140 : Int32) * 0 + 20 * nI k + nI m = nI (140 * 0 + 20 * k + m) from ix 0]
    refine r_ld5 iX7_sheets_343 rfl (by omega) ?_
    rw [H5 _ (by omega)]
    refine r_iadd iX7_sheets_344 ?_
    rw [nI_add]
    refine r_istore_5 iX7_sheets_345 rfl ?_
    refine r_iinc_6 iX7_sheets_347 (by first | exact nI_inc _ | rfl) rfl ?_
    refine r_goto iX7_sheets_350 ?_
    refine r_iload iX7_sheets_318 rfl ?_
    refine r_iconst (v := 3) iX7_sheets_320 rfl ?_
    refine r_icmp_ge iX7_sheets_321 (fun g9 => absurd g9 (by decide)) (fun _ => ?_)
    refine r_iload iX7_sheets_324 rfl ?_
    refine r_aload iX7_sheets_326 rfl ?_
    refine r_gways iX7_sheets_327 (flX7_29 _ rfl) ?_
    refine r_sipush (v := 140) iX7_sheets_330 rfl ?_
    refine r_iload iX7_sheets_333 rfl ?_
    refine r_imul iX7_sheets_335 ?_
    refine r_bipush (v := 20) iX7_sheets_336 rfl ?_
    refine r_iload iX7_sheets_338 rfl ?_
    refine r_imul iX7_sheets_339 ?_
    refine r_iadd iX7_sheets_340 ?_
    refine r_iload iX7_sheets_341 rfl ?_
    refine r_iadd iX7_sheets_342 ?_
    rw [show (140 : Int32) * nI (0 + 1) + 20 * nI k + nI m = nI (140 * 1 + 20 * k + m) from ix 1]
    refine r_ld5 iX7_sheets_343 rfl (by omega) ?_
    rw [H5 _ (by omega)]
    refine r_iadd iX7_sheets_344 ?_
    rw [nI_add]
    refine r_istore_5 iX7_sheets_345 rfl ?_
    refine r_iinc_6 iX7_sheets_347 (by first | exact nI_inc _ | rfl) rfl ?_
    refine r_goto iX7_sheets_350 ?_
    refine r_iload iX7_sheets_318 rfl ?_
    refine r_iconst (v := 3) iX7_sheets_320 rfl ?_
    refine r_icmp_ge iX7_sheets_321 (fun g9 => absurd g9 (by decide)) (fun _ => ?_)
    refine r_iload iX7_sheets_324 rfl ?_
    refine r_aload iX7_sheets_326 rfl ?_
    refine r_gways iX7_sheets_327 (flX7_29 _ rfl) ?_
    refine r_sipush (v := 140) iX7_sheets_330 rfl ?_
    refine r_iload iX7_sheets_333 rfl ?_
    refine r_imul iX7_sheets_335 ?_
    refine r_bipush (v := 20) iX7_sheets_336 rfl ?_
    refine r_iload iX7_sheets_338 rfl ?_
    refine r_imul iX7_sheets_339 ?_
    refine r_iadd iX7_sheets_340 ?_
    refine r_iload iX7_sheets_341 rfl ?_
    refine r_iadd iX7_sheets_342 ?_
    rw [show (140 : Int32) * nI (0 + 1 + 1) + 20 * nI k + nI m = nI (140 * 2 + 20 * k + m) from ix 2]
    refine r_ld5 iX7_sheets_343 rfl (by omega) ?_
    rw [H5 _ (by omega)]
    refine r_iadd iX7_sheets_344 ?_
    rw [nI_add]
    refine r_istore_5 iX7_sheets_345 rfl ?_
    refine r_iinc_6 iX7_sheets_347 (by first | exact nI_inc _ | rfl) rfl ?_
    refine r_goto iX7_sheets_350 ?_
    refine r_iload iX7_sheets_318 rfl ?_
    refine r_iconst (v := 3) iX7_sheets_320 rfl ?_
    refine r_icmp_ge iX7_sheets_321 (fun _ => ?_) (fun g9 => absurd (by decide) g9)
    refine r_iload iX7_sheets_353 rfl ?_
    refine r_iret iX7_sheets_355 rfl ?_
    exact ⟨rfl, rfl, A1, rfl, hA⟩
  have iloop : ∀ (j i : Nat) (A1 : Nat → Nat → Int32) (w6 w7 w8 w9 w10 : Value), i + j = n → AL (A1 5) (tL i) → (∀ q, q ≠ 5 → q ≠ 6 → A1 q = A q) → R MX7_sheets 2 0 0 (fun v h' z'_1 => v = some (.int (nI (mSh n k m))) ∧ z'_1 = z' ∧ ∃ A', h' = mOv h (I, J, A', me) ∧ ∀ q, q ≠ 5 → q ≠ 6 → A' q = A q) 78 [.ref 152, .int (nI n), .int (nI k), .int (nI m), .int (nI (mO k m i)), .int (nI (i + 1)), w6, w7, w8, w9, w10] [] (mOv h (I, J, A1, me)) z' 0 0 := by
    intro j
    induction j with
    | zero =>
      intro i A1 w6 w7 w8 w9 w10 hi H5 hA
      obtain rfl : i = n := by omega
      refine r_iload iX7_sheets_78 rfl ?_
      refine r_iload iX7_sheets_80 rfl ?_
      refine r_icmp_gt iX7_sheets_81 (fun _ => ?_) (fun g9 => absurd (nI_lt (by omega) (by omega)) g9)
      exact fin A1 _ _ _ _ _ _ H5 hA
    | succ j ih =>
      intro i A1 w6 w7 w8 w9 w10 hi H5 hA
      have hok := okL_all i (by omega)
      refine r_iload iX7_sheets_78 rfl ?_
      refine r_iload iX7_sheets_80 rfl ?_
      refine r_icmp_gt iX7_sheets_81 (fun g9 => absurd g9 (nI_nlt (by omega) (by omega))) (fun _ => ?_)
      refine r_iconst (v := 0) iX7_sheets_84 rfl ?_
      refine r_istore_6 iX7_sheets_85 rfl ?_
      -- the copy back
      have cloop : ∀ (c s : Nat) (A2 : Nat → Nat → Int32) (w7 w8 w9 w10 : Value), s + c = 420 → AL (A2 6) (tL (i + 1)) → (∀ t, t < s → A2 5 t = nI ((tL (i + 1)).getD t 0)) → (∀ q, q ≠ 5 → q ≠ 6 → A2 q = A q) → R MX7_sheets 2 0 0 (fun v h' z'_1 => v = some (.int (nI (mSh n k m))) ∧ z'_1 = z' ∧ ∃ A', h' = mOv h (I, J, A', me) ∧ ∀ q, q ≠ 5 → q ≠ 6 → A' q = A q) 277 [.ref 152, .int (nI n), .int (nI k), .int (nI m), .int (nI (mO k m (i + 1))), .int (nI (i + 1)), .int (nI s), w7, w8, w9, w10] [] (mOv h (I, J, A2, me)) z' 0 0 := by
        intro c
        induction c with
        | zero =>
          intro s A2 w7 w8 w9 w10 hs H6 H5' hA2
          obtain rfl : s = 420 := by omega
          refine r_iload iX7_sheets_277 rfl ?_
          refine r_sipush (v := 420) iX7_sheets_279 rfl ?_
          refine r_icmp_ge iX7_sheets_282 (fun _ => ?_) (fun g9 => absurd (by decide) g9)
          refine r_iinc_5 iX7_sheets_305 (by first | exact nI_inc _ | rfl) rfl ?_
          refine r_goto iX7_sheets_308 ?_
          exact ih (i + 1) A2 _ _ _ _ _ (by omega) H5' hA2
        | succ c ihc =>
          intro s A2 w7 w8 w9 w10 hs H6 H5' hA2
          refine r_iload iX7_sheets_277 rfl ?_
          refine r_sipush (v := 420) iX7_sheets_279 rfl ?_
          refine r_icmp_ge iX7_sheets_282 (fun g9 => absurd g9 (nI_ge (b := 420) (by omega) (by omega))) (fun _ => ?_)
          refine r_aload iX7_sheets_285 rfl ?_
          refine r_gways iX7_sheets_286 (flX7_29 _ rfl) ?_
          refine r_iload iX7_sheets_289 rfl ?_
          refine r_aload iX7_sheets_291 rfl ?_
          refine r_glater iX7_sheets_292 (flX7_32 _ rfl) ?_
          refine r_iload iX7_sheets_295 rfl ?_
          refine r_ld6 iX7_sheets_297 rfl (by omega) ?_
          refine r_st5 iX7_sheets_298 rfl (by omega) ?_
          refine r_iinc_6 iX7_sheets_299 (by first | exact nI_inc _ | rfl) rfl ?_
          refine r_goto iX7_sheets_302 ?_
          refine ihc (s + 1) _ _ _ _ _ (by omega) H6 (fun t ht => ?_) (fun q q5 q6 => by rw [upA_ne q5]; exact hA2 q q5 q6)
          rw [upA_eq, upd_at]
          by_cases g : t = s
          · rw [if_pos g, g]; exact H6 s (by omega)
          · rw [if_neg g]; exact H5' t (by omega)
      have sloop : ∀ (c s O : Nat) (A2 : Nat → Nat → Int32) (l : List Nat) (w7 w8 w9 w10 : Value), s + c = 420 → l.length = 420 → AL (A2 5) (tL i) → AL (A2 6) l → (∀ q, q ≠ 5 → q ≠ 6 → A2 q = A q) → gol (i + 1) ((tL i).drop s) s l = tL (i + 1) → O + oS k m ((tL i).drop s) s = mO k m (i + 1) → R MX7_sheets 2 0 0 (fun v h' z'_1 => v = some (.int (nI (mSh n k m))) ∧ z'_1 = z' ∧ ∃ A', h' = mOv h (I, J, A', me) ∧ ∀ q, q ≠ 5 → q ≠ 6 → A' q = A q) 112 [.ref 152, .int (nI n), .int (nI k), .int (nI m), .int (nI O), .int (nI (i + 1)), .int (nI s), w7, w8, w9, w10] [] (mOv h (I, J, A2, me)) z' 0 0 := by
        intro c
        induction c with
        | zero =>
          intro s O A2 l w7 w8 w9 w10 hs hl H5' H6 hA2 hg hO
          obtain rfl : s = 420 := by omega
          have ed : (tL i).drop 420 = [] := List.drop_eq_nil_of_le (by rw [tL_len i (by omega)]; exact Nat.le_refl _)
          rw [ed, gol] at hg
          rw [ed, oS, Nat.add_zero] at hO
          subst hg
          subst hO
          refine r_iload iX7_sheets_112 rfl ?_
          refine r_sipush (v := 420) iX7_sheets_114 rfl ?_
          refine r_icmp_ge iX7_sheets_117 (fun _ => ?_) (fun g9 => absurd (by decide) g9)
          refine r_iconst (v := 0) iX7_sheets_274 rfl ?_
          refine r_istore_6 iX7_sheets_275 rfl ?_
          exact cloop 420 0 A2 _ _ _ _ (by omega) H6 (fun t ht => absurd ht (Nat.not_lt_zero t)) hA2
        | succ c ihs =>
          intro s O A2 l w7 w8 w9 w10 hs hl H5' H6 hA2 hg hO
          obtain ⟨v, vs, ed⟩ : ∃ v vs, (tL i).drop s = v :: vs := by
            cases e : (tL i).drop s with
            | nil =>
              have := congrArg List.length e
              rw [List.length_drop, tL_len i (by omega)] at this
              exact absurd this (by rw [List.length_nil]; omega)
            | cons v vs => exact ⟨v, vs, rfl⟩
          obtain ⟨ev, ed2⟩ := drop_cons' ed
          have hokv := okL_at (tL i) 0 hok s v vs ed
          rw [Nat.zero_add] at hokv
          rw [ed, gol, ← ed2] at hg
          rw [ed, oS, ← ed2] at hO
          have em : ∀ x y, x < 2 ^ 31 → 0 < y → y < 2 ^ 31 → nI x - nI x / nI y * nI y = nI (x % y) := fun x y a b c => pk_rem a b c
          have e5 : A2 5 s = nI v := by rw [H5' s (by omega), ev]
          -- what is added up
          have tail : ∀ (A3 : Nat → Nat → Int32) (l' : List Nat) (w10 : Value), l'.length = 420 → AL (A3 5) (tL i) → AL (A3 6) l' → (∀ q, q ≠ 5 → q ≠ 6 → A3 q = A q) → gol (i + 1) ((tL i).drop (s + 1)) (s + 1) l' = tL (i + 1) → R MX7_sheets 2 0 0 (fun v h' z'_1 => v = some (.int (nI (mSh n k m))) ∧ z'_1 = z' ∧ ∃ A', h' = mOv h (I, J, A', me) ∧ ∀ q, q ≠ 5 → q ≠ 6 → A' q = A q) 235 [.ref 152, .int (nI n), .int (nI k), .int (nI m), .int (nI O), .int (nI (i + 1)), .int (nI s), .int (nI (s / 140)), .int (nI (s / 20 % 7)), .int (nI (s % 20)), w10] [] (mOv h (I, J, A3, me)) z' 0 0 := by
            intro A3 l' w10 hl' H5'' H6'' hA3 hg'
            have e5' : A3 5 s = nI v := by rw [H5'' s (by omega), ev]
            by_cases g1 : s / 20 % 7 = k
            · have em3 : nI (s % 20) + 3 - nI (s / 140) = nI (s % 20 + 3 - s / 140) := by
                rw [show nI (s % 20) + 3 = nI (s % 20 + 3) from nI_add _ 3, nI_sub (by omega)]
              by_cases g2 : s % 20 + 3 - s / 140 = m
              · rw [if_pos ⟨g1, g2⟩, ← Nat.add_assoc] at hO
                refine r_iload iX7_sheets_235 rfl ?_
                refine r_iload iX7_sheets_237 rfl ?_
                refine r_iload iX7_sheets_239 rfl ?_
                refine r_icmp_ne iX7_sheets_240 (fun g9 => absurd (congrArg nI g1) g9) (fun _ => ?_)
                refine r_iload iX7_sheets_243 rfl ?_
                refine r_iconst (v := 3) iX7_sheets_245 rfl ?_
                refine r_iadd iX7_sheets_246 ?_
                refine r_iload iX7_sheets_247 rfl ?_
                refine r_isub iX7_sheets_249 ?_
                rw [em3]
                refine r_iload iX7_sheets_250 rfl ?_
                refine r_icmp_ne iX7_sheets_251 (fun g9 => absurd (congrArg nI g2) g9) (fun _ => ?_)
                refine r_aload iX7_sheets_254 rfl ?_
                refine r_gways iX7_sheets_255 (flX7_29 _ rfl) ?_
                refine r_iload iX7_sheets_258 rfl ?_
                refine r_ld5 iX7_sheets_260 rfl (by omega) ?_
                rw [e5']
                refine r_goto iX7_sheets_261 ?_
                refine r_iadd iX7_sheets_265 ?_
                rw [nI_add]
                refine r_istore_4 iX7_sheets_266 rfl ?_
                refine r_iinc_6 iX7_sheets_268 (by first | exact nI_inc _ | rfl) rfl ?_
                refine r_goto iX7_sheets_271 ?_
                exact ihs (s + 1) (O + v) A3 l' _ _ _ _ (by omega) hl' H5'' H6'' hA3 hg' hO
              · rw [if_neg (fun q => g2 q.2), Nat.zero_add] at hO
                have g2' : ¬ nI (s % 20 + 3 - s / 140) = nI m := fun q => g2 ((nI_eq (by omega) (by omega)).mp q)
                refine r_iload iX7_sheets_235 rfl ?_
                refine r_iload iX7_sheets_237 rfl ?_
                refine r_iload iX7_sheets_239 rfl ?_
                refine r_icmp_ne iX7_sheets_240 (fun g9 => absurd (congrArg nI g1) g9) (fun _ => ?_)
                refine r_iload iX7_sheets_243 rfl ?_
                refine r_iconst (v := 3) iX7_sheets_245 rfl ?_
                refine r_iadd iX7_sheets_246 ?_
                refine r_iload iX7_sheets_247 rfl ?_
                refine r_isub iX7_sheets_249 ?_
                rw [em3]
                refine r_iload iX7_sheets_250 rfl ?_
                refine r_icmp_ne iX7_sheets_251 (fun _ => ?_) (fun g9 => absurd g9 (g2'))
                refine r_iconst (v := 0) iX7_sheets_264 rfl ?_
                refine r_iadd iX7_sheets_265 ?_
                rw [Int32.add_zero]
                refine r_istore_4 iX7_sheets_266 rfl ?_
                refine r_iinc_6 iX7_sheets_268 (by first | exact nI_inc _ | rfl) rfl ?_
                refine r_goto iX7_sheets_271 ?_
                exact ihs (s + 1) O A3 l' _ _ _ _ (by omega) hl' H5'' H6'' hA3 hg' hO
            · rw [if_neg (fun q => g1 q.1), Nat.zero_add] at hO
              have g1' : ¬ nI (s / 20 % 7) = nI k := fun q => g1 ((nI_eq (by omega) (by omega)).mp q)
              refine r_iload iX7_sheets_235 rfl ?_
              refine r_iload iX7_sheets_237 rfl ?_
              refine r_iload iX7_sheets_239 rfl ?_
              refine r_icmp_ne iX7_sheets_240 (fun _ => ?_) (fun g9 => absurd g9 (g1'))
              refine r_iconst (v := 0) iX7_sheets_264 rfl ?_
              refine r_iadd iX7_sheets_265 ?_
              rw [Int32.add_zero]
              refine r_istore_4 iX7_sheets_266 rfl ?_
              refine r_iinc_6 iX7_sheets_268 (by first | exact nI_inc _ | rfl) rfl ?_
              refine r_goto iX7_sheets_271 ?_
              exact ihs (s + 1) O A3 l' _ _ _ _ (by omega) hl' H5'' H6'' hA3 hg' hO
          refine r_iload iX7_sheets_112 rfl ?_
          refine r_sipush (v := 420) iX7_sheets_114 rfl ?_
          refine r_icmp_ge iX7_sheets_117 (fun g9 => absurd g9 (nI_ge (b := 420) (by omega) (by omega))) (fun _ => ?_)
          refine r_iload iX7_sheets_120 rfl ?_
          refine r_sipush (v := 140) iX7_sheets_122 rfl ?_
          refine r_idiv iX7_sheets_125 (by decide) ?_
          rw [show nI s / 140 = nI (s / 140) from pk_div (d := 140) (by omega) (by omega) (by omega)]
          refine r_istore_7 iX7_sheets_126 rfl ?_
          refine r_iload iX7_sheets_128 rfl ?_
          refine r_bipush (v := 20) iX7_sheets_130 rfl ?_
          refine r_idiv iX7_sheets_132 (by decide) ?_
          rw [show nI s / 20 = nI (s / 20) from pk_div (d := 20) (by omega) (by omega) (by omega)]
          refine r_bipush (v := 7) iX7_sheets_133 rfl ?_
          refine r_irem iX7_sheets_135 (by decide) ?_
          rw [show nI (s / 20) - nI (s / 20) / 7 * 7 = nI (s / 20 % 7) from em _ 7 (by omega) (by omega) (by omega)]
          refine r_istore_8 iX7_sheets_136 rfl ?_
          refine r_iload iX7_sheets_138 rfl ?_
          refine r_bipush (v := 20) iX7_sheets_140 rfl ?_
          refine r_irem iX7_sheets_142 (by decide) ?_
          rw [show nI s - nI s / 20 * 20 = nI (s % 20) from em _ 20 (by omega) (by omega) (by omega)]
          refine r_istore_9 iX7_sheets_143 rfl ?_
          refine r_iconst (v := 0) iX7_sheets_145 rfl ?_
          refine r_istore_10 iX7_sheets_146 rfl ?_
          by_cases hv0 : v = 0
          · rw [if_pos hv0] at hg
            subst hv0
            refine r_iload iX7_sheets_148 rfl ?_
            refine r_iload iX7_sheets_150 rfl ?_
            refine r_iadd iX7_sheets_152 ?_
            rw [show nI (s / 140) + 0 = nI (s / 140) from Int32.add_zero _]
            refine r_iconst (v := 3) iX7_sheets_153 rfl ?_
            refine r_icmp_ge iX7_sheets_154 (fun g9 => absurd g9 (nI_ge (b := 3) (by omega) (by omega))) (fun _ => ?_)
            refine r_aload iX7_sheets_157 rfl ?_
            refine r_gways iX7_sheets_158 (flX7_29 _ rfl) ?_
            refine r_iload iX7_sheets_161 rfl ?_
            refine r_ld5 iX7_sheets_163 rfl (by omega) ?_
            rw [e5]
            refine r_if_le iX7_sheets_164 (fun _ => ?_) (fun g9 => absurd (by decide) g9)
            exact tail A2 l _ hl H5' H6 hA2 hg
          · rw [if_neg hv0] at hg
            refine c7_jl h I J me (nI O) z' (T := tL i) (v := v) (by omega) (by omega) ev hv0 hokv.1 (hokv.2 hv0) A2 _ (fun A3 w10 q5 q6 qA => ?_) (3 - s / 140) 0 A2 l (by omega) hl H5' H6 (fun _ _ _ => rfl) rfl
            exact tail A3 _ w10 (by rw [pj_len]; exact hl) q5 q6 (fun q a b => (qA q a b).trans (hA2 q a b)) hg
      have zloop : ∀ (c s : Nat) (A2 : Nat → Nat → Int32), s + c = 420 → AL (A2 5) (tL i) → (∀ t, t < s → A2 6 t = 0) → (∀ q, q ≠ 5 → q ≠ 6 → A2 q = A q) → R MX7_sheets 2 0 0 (fun v h' z'_1 => v = some (.int (nI (mSh n k m))) ∧ z'_1 = z' ∧ ∃ A', h' = mOv h (I, J, A', me) ∧ ∀ q, q ≠ 5 → q ≠ 6 → A' q = A q) 87 [.ref 152, .int (nI n), .int (nI k), .int (nI m), .int (nI (mO k m i)), .int (nI (i + 1)), .int (nI s), w7, w8, w9, w10] [] (mOv h (I, J, A2, me)) z' 0 0 := by
        intro c
        induction c with
        | zero =>
          intro s A2 hs H5' hz hA2
          obtain rfl : s = 420 := by omega
          refine r_iload iX7_sheets_87 rfl ?_
          refine r_sipush (v := 420) iX7_sheets_89 rfl ?_
          refine r_icmp_ge iX7_sheets_92 (fun _ => ?_) (fun g9 => absurd (by decide) g9)
          refine r_iconst (v := 0) iX7_sheets_109 rfl ?_
          refine r_istore_6 iX7_sheets_110 rfl ?_
          refine sloop 420 0 (mO k m i) A2 zL _ _ _ _ (by omega) (by rw [zL, List.length_replicate]) H5' (fun t ht => ?_) hA2 (gol_all (by omega)) rfl
          rw [hz t ht, zL, List.getD_eq_getElem?_getD, List.getElem?_replicate, if_pos ht]; rfl
        | succ c ihz =>
          intro s A2 hs H5' hz hA2
          refine r_iload iX7_sheets_87 rfl ?_
          refine r_sipush (v := 420) iX7_sheets_89 rfl ?_
          refine r_icmp_ge iX7_sheets_92 (fun g9 => absurd g9 (nI_ge (b := 420) (by omega) (by omega))) (fun _ => ?_)
          refine r_aload iX7_sheets_95 rfl ?_
          refine r_glater iX7_sheets_96 (flX7_32 _ rfl) ?_
          refine r_iload iX7_sheets_99 rfl ?_
          refine r_iconst (v := 0) iX7_sheets_101 rfl ?_
          refine r_st6 iX7_sheets_102 rfl (by omega) ?_
          refine r_iinc_6 iX7_sheets_103 (by first | exact nI_inc _ | rfl) rfl ?_
          refine r_goto iX7_sheets_106 ?_
          refine ihz (s + 1) _ (by omega) H5' (fun t ht => ?_) (fun q q5 q6 => by rw [upA_ne q6]; exact hA2 q q5 q6)
          rw [upA_eq, upd_at]
          by_cases g : t = s
          · rw [if_pos g]
          · rw [if_neg g]; exact hz t (by omega)
      exact zloop 420 0 A1 (by omega) H5 (fun t ht => absurd ht (Nat.not_lt_zero t)) hA
  have floop : ∀ (c s : Nat) (A1 : Nat → Nat → Int32), s + c = 420 → (∀ t, t < s → A1 5 t = nI ((tL 0).getD t 0)) → (∀ q, q ≠ 5 → q ≠ 6 → A1 q = A q) → R MX7_sheets 2 0 0 (fun v h' z'_1 => v = some (.int (nI (mSh n k m))) ∧ z'_1 = z' ∧ ∃ A', h' = mOv h (I, J, A', me) ∧ ∀ q, q ≠ 5 → q ≠ 6 → A' q = A q) 44 [.ref 152, .int (nI n), .int (nI k), .int (nI m), .int 0, .int (nI s), .null, .null, .null, .null, .null] [] (mOv h (I, J, A1, me)) z' 0 0 := by
    intro c
    induction c with
    | zero =>
      intro s A1 hs H5 hA
      obtain rfl : s = 420 := by omega
      refine r_iload iX7_sheets_44 rfl ?_
      refine r_sipush (v := 420) iX7_sheets_46 rfl ?_
      refine r_icmp_ge iX7_sheets_49 (fun _ => ?_) (fun g9 => absurd (by decide) g9)
      refine r_iconst (v := 1) iX7_sheets_75 rfl ?_
      refine r_istore_5 iX7_sheets_76 rfl ?_
      exact iloop n 0 A1 _ _ _ _ _ (by omega) H5 hA
    | succ c ihf =>
      intro s A1 hs H5 hA
      have hz : ∀ s, s < 420 → s ≠ 0 → (tL 0).getD s 0 = 0 := by decide +kernel
      have nxt : ∀ A2, A2 = upA A1 5 s (nI ((tL 0).getD s 0)) → R MX7_sheets 2 0 0 (fun v h' z'_1 => v = some (.int (nI (mSh n k m))) ∧ z'_1 = z' ∧ ∃ A', h' = mOv h (I, J, A', me) ∧ ∀ q, q ≠ 5 → q ≠ 6 → A' q = A q) 44 [.ref 152, .int (nI n), .int (nI k), .int (nI m), .int 0, .int (nI (s + 1)), .null, .null, .null, .null, .null] [] (mOv h (I, J, A2, me)) z' 0 0 := by
        intro A2 e
        subst e
        refine ihf (s + 1) _ (by omega) (fun t ht => ?_) (fun q q5 q6 => by rw [upA_ne q5]; exact hA q q5 q6)
        rw [upA_eq, upd_at]
        by_cases g : t = s
        · rw [if_pos g, g]
        · rw [if_neg g]; exact H5 t (by omega)
      by_cases g : s = 0
      · refine r_iload iX7_sheets_44 rfl ?_
        refine r_sipush (v := 420) iX7_sheets_46 rfl ?_
        refine r_icmp_ge iX7_sheets_49 (fun g9 => absurd g9 (nI_ge (b := 420) (by omega) (by omega))) (fun _ => ?_)
        refine r_aload iX7_sheets_52 rfl ?_
        refine r_gways iX7_sheets_53 (flX7_29 _ rfl) ?_
        refine r_iload iX7_sheets_56 rfl ?_
        refine r_iload iX7_sheets_58 rfl ?_
        refine r_if_ne iX7_sheets_60 (fun g9 => absurd (congrArg nI g) g9) (fun _ => ?_)
        refine r_iconst (v := 1) iX7_sheets_63 rfl ?_
        refine r_goto iX7_sheets_64 ?_
        refine r_st5 iX7_sheets_68 rfl (by omega) ?_
        refine r_iinc_5 iX7_sheets_69 (by first | exact nI_inc _ | rfl) rfl ?_
        refine r_goto iX7_sheets_72 ?_
        exact nxt _ (by rw [g]; rfl)
      · refine r_iload iX7_sheets_44 rfl ?_
        refine r_sipush (v := 420) iX7_sheets_46 rfl ?_
        refine r_icmp_ge iX7_sheets_49 (fun g9 => absurd g9 (nI_ge (b := 420) (by omega) (by omega))) (fun _ => ?_)
        refine r_aload iX7_sheets_52 rfl ?_
        refine r_gways iX7_sheets_53 (flX7_29 _ rfl) ?_
        refine r_iload iX7_sheets_56 rfl ?_
        refine r_iload iX7_sheets_58 rfl ?_
        refine r_if_ne iX7_sheets_60 (fun _ => ?_) (fun g9 => absurd g9 (nI_ne0 (by omega) (by omega)))
        refine r_iconst (v := 0) iX7_sheets_67 rfl ?_
        refine r_st5 iX7_sheets_68 rfl (by omega) ?_
        refine r_iinc_5 iX7_sheets_69 (by first | exact nI_inc _ | rfl) rfl ?_
        refine r_goto iX7_sheets_72 ?_
        exact nxt _ (by rw [hz s (by omega) g]; rfl)
  exact floop 420 0 A (by omega) (fun t ht => absurd ht (Nat.not_lt_zero t)) (fun _ _ _ => rfl)
