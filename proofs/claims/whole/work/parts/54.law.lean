/-! the law's opcodes, one by one -/
abbrev LR (pc i : Nat) (S : List Value) (h : Hp) (z k n : Nat) : Prop := R ML_law 100 161 3865 (fun v _ _ => v = some (.int 1)) pc [.ref 0, .ref 2, .ref 152, .int (nI i)] S h z k n
def scr (L : Nat) (xs : Nat → Int32) : aC := .inl (.int, L, fun j => .int (xs j))
def lng (a b : Int32) : Int64 := (a.toInt64 <<< ((32 : Int32).toInt64 &&& 63)) ||| (b.toInt64 &&& 4294967295)
theorem Rel.scr {sc : aC} {h : Hp} (H : Rel sc h) : h 0 = some sc := by
  obtain ⟨l, B, K, sz, nx, W, sl, kp, seed, s, -, -, h0, -⟩ := H
  exact h0
theorem Rel.o6 {sc : aC} {h : Hp} (H : Rel sc h) : ∃ fs, h 2 = some (.inr (5, fs)) := by
  obtain ⟨l, B, K, sz, nx, W, sl, kp, seed, s, hc, -⟩ := H
  exact hc.obj2
theorem Rel.o7 {sc : aC} {h : Hp} (H : Rel sc h) : ∃ fs, h 152 = some (.inr (6, fs)) := by
  obtain ⟨l, B, K, sz, nx, W, sl, kp, seed, s, -, hm, -⟩ := H
  exact ⟨_, hm 0 (by omega)⟩
theorem lw_in {L i : Nat} (c : Nat) (hL : L ≤ 256) (hi : i + 4 ≤ L) (hc : c < 4) : vp_in (nI i + nI c) L := by
  rw [nI_add]
  exact vp_in_nI (by omega) (by omega)
theorem lw_v {L i : Nat} (xs : Nat → Int32) (c : Nat) (hL : L ≤ 256) (hi : i + 4 ≤ L) (hc : c < 4) : (fun j => Value.int (xs j)) (nI i + nI c).toNatClampNeg = .int (xs (i + c)) := by
  rw [nI_add, nI_clamp (by omega)]
theorem lw_write {L i : Nat} {xs : Nat → Int32} {h : Hp} {z : Nat} (hL : L ≤ 256) (hi : i + 4 ≤ L) (HR : Rel (scr L xs) h) (K : ∀ h', Rel (scr L xs) h' → LR 882 i [] h' z 161 3865) : LR 140 i [] h z 161 3865 := by
  have hs := HR.scr
  obtain ⟨f6, o6⟩ := HR.o6
  obtain ⟨f7, o7⟩ := HR.o7
  have i1 : vp_in (nI i + 1) L := lw_in 1 hL hi (by omega)
  have v1 : (fun j => Value.int (xs j)) (nI i + 1).toNatClampNeg = .int (xs (i + 1)) := lw_v xs 1 hL hi (by omega)
  have i2 : vp_in (nI i + 2) L := lw_in 2 hL hi (by omega)
  have v2 : (fun j => Value.int (xs j)) (nI i + 2).toNatClampNeg = .int (xs (i + 2)) := lw_v xs 2 hL hi (by omega)
  have i3 : vp_in (nI i + 3) L := lw_in 3 hL hi (by omega)
  have v3 : (fun j => Value.int (xs j)) (nI i + 3).toNatClampNeg = .int (xs (i + 3)) := lw_v xs 3 hL hi (by omega)
  obtain ⟨r, X, ⟨q, rfl⟩, hX, C6, C7⟩ := step_write _ (xs (i + 1)) (lng (xs (i + 2)) (xs (i + 3))) h z HR
  refine r_aload iL_law_140 rfl ?_
  refine r_aload iL_law_141 rfl ?_
  refine r_iload iL_law_142 rfl ?_
  refine r_iconst (v := 1) iL_law_143 rfl ?_
  refine r_iadd iL_law_144 ?_
  refine r_iaload iL_law_145 (hs) (i1) (v1) ?_
  refine r_aload iL_law_146 rfl ?_
  refine r_iload iL_law_147 rfl ?_
  refine r_iconst (v := 2) iL_law_148 rfl ?_
  refine r_iadd iL_law_149 ?_
  refine r_iaload iL_law_150 (hs) (i2) (v2) ?_
  refine r_i2l iL_law_151 ?_
  refine r_bipush (v := 32) iL_law_152 rfl ?_
  refine r_lshl iL_law_154 ?_
  refine r_aload iL_law_155 rfl ?_
  refine r_iload iL_law_156 rfl ?_
  refine r_iconst (v := 3) iL_law_157 rfl ?_
  refine r_iadd iL_law_158 ?_
  refine r_iaload iL_law_159 (hs) (i3) (v3) ?_
  refine r_i2l iL_law_160 ?_
  refine r_ldc2 (v := 4294967295) iL_law_161 (gt_4 27 rfl rfl) ?_
  refine r_land iL_law_164 ?_
  refine r_lor iL_law_165 ?_
  refine r_callV iL_law_166 (cL_15 _ rfl) (C6) (by omega) (o6) rfl rfl rfl (Nat.le_of_ble_eq_true rfl) (by first | exact Nat.le_of_ble_eq_true rfl | omega) (by first | exact Nat.le_of_ble_eq_true rfl | omega) ?_
  rintro v h1 z1 ⟨rfl, rfl, hX1⟩
  have hs1 : h1 0 = some (scr L xs) := (hX h1 hX1 0 (by omega)).trans hs
  have o71 : h1 152 = some (.inr (6, f7)) := (hX h1 hX1 152 (by omega)).trans o7
  refine r_aload iL_law_169 rfl ?_
  refine r_aload iL_law_170 rfl ?_
  refine r_iload iL_law_171 rfl ?_
  refine r_iconst (v := 1) iL_law_172 rfl ?_
  refine r_iadd iL_law_173 ?_
  refine r_iaload iL_law_174 (hs1) (i1) (v1) ?_
  refine r_aload iL_law_175 rfl ?_
  refine r_iload iL_law_176 rfl ?_
  refine r_iconst (v := 2) iL_law_177 rfl ?_
  refine r_iadd iL_law_178 ?_
  refine r_iaload iL_law_179 (hs1) (i2) (v2) ?_
  refine r_i2l iL_law_180 ?_
  refine r_bipush (v := 32) iL_law_181 rfl ?_
  refine r_lshl iL_law_183 ?_
  refine r_aload iL_law_184 rfl ?_
  refine r_iload iL_law_185 rfl ?_
  refine r_iconst (v := 3) iL_law_186 rfl ?_
  refine r_iadd iL_law_187 ?_
  refine r_iaload iL_law_188 (hs1) (i3) (v3) ?_
  refine r_i2l iL_law_189 ?_
  refine r_ldc2 (v := 4294967295) iL_law_190 (gt_4 27 rfl rfl) ?_
  refine r_land iL_law_193 ?_
  refine r_lor iL_law_194 ?_
  refine r_callV iL_law_195 (cL_19 _ rfl) (C7 _ _ hX1) (by omega) (o71) rfl rfl rfl (Nat.le_of_ble_eq_true rfl) (by first | exact Nat.le_of_ble_eq_true rfl | omega) (by first | exact Nat.le_of_ble_eq_true rfl | omega) ?_
  rintro v h2 z2 ⟨rfl, rfl, HR2⟩
  refine r_icmp_eq iL_law_198 (fun _ => ?_) (fun g9 => absurd (rfl) g9)
  exact K h2 HR2
theorem lw_wipe {L i : Nat} {xs : Nat → Int32} {h : Hp} {z : Nat} (hL : L ≤ 256) (hi : i + 4 ≤ L) (HR : Rel (scr L xs) h) (K : ∀ h', Rel (scr L xs) h' → LR 882 i [] h' z 161 3865) : LR 203 i [] h z 161 3865 := by
  have hs := HR.scr
  obtain ⟨f6, o6⟩ := HR.o6
  obtain ⟨f7, o7⟩ := HR.o7
  have i1 : vp_in (nI i + 1) L := lw_in 1 hL hi (by omega)
  have v1 : (fun j => Value.int (xs j)) (nI i + 1).toNatClampNeg = .int (xs (i + 1)) := lw_v xs 1 hL hi (by omega)
  have i2 : vp_in (nI i + 2) L := lw_in 2 hL hi (by omega)
  have v2 : (fun j => Value.int (xs j)) (nI i + 2).toNatClampNeg = .int (xs (i + 2)) := lw_v xs 2 hL hi (by omega)
  have i3 : vp_in (nI i + 3) L := lw_in 3 hL hi (by omega)
  have v3 : (fun j => Value.int (xs j)) (nI i + 3).toNatClampNeg = .int (xs (i + 3)) := lw_v xs 3 hL hi (by omega)
  obtain ⟨r, X, ⟨q, rfl⟩, hX, C6, C7⟩ := step_wipe _  h z HR
  refine r_aload iL_law_203 rfl ?_
  refine r_callV iL_law_204 (cL_20 _ rfl) (C6) (by omega) (o6) rfl rfl rfl (Nat.le_of_ble_eq_true rfl) (by first | exact Nat.le_of_ble_eq_true rfl | omega) (by first | exact Nat.le_of_ble_eq_true rfl | omega) ?_
  rintro v h1 z1 ⟨rfl, rfl, hX1⟩
  have hs1 : h1 0 = some (scr L xs) := (hX h1 hX1 0 (by omega)).trans hs
  have o71 : h1 152 = some (.inr (6, f7)) := (hX h1 hX1 152 (by omega)).trans o7
  refine r_aload iL_law_207 rfl ?_
  refine r_callV iL_law_208 (cL_24 _ rfl) (C7 _ _ hX1) (by omega) (o71) rfl rfl rfl (Nat.le_of_ble_eq_true rfl) (by first | exact Nat.le_of_ble_eq_true rfl | omega) (by first | exact Nat.le_of_ble_eq_true rfl | omega) ?_
  rintro v h2 z2 ⟨rfl, rfl, HR2⟩
  refine r_icmp_eq iL_law_211 (fun _ => ?_) (fun g9 => absurd (rfl) g9)
  exact K h2 HR2
theorem lw_fault {L i : Nat} {xs : Nat → Int32} {h : Hp} {z : Nat} (hL : L ≤ 256) (hi : i + 4 ≤ L) (HR : Rel (scr L xs) h) (K : ∀ h', Rel (scr L xs) h' → LR 882 i [] h' z 161 3865) : LR 216 i [] h z 161 3865 := by
  have hs := HR.scr
  obtain ⟨f6, o6⟩ := HR.o6
  obtain ⟨f7, o7⟩ := HR.o7
  have i1 : vp_in (nI i + 1) L := lw_in 1 hL hi (by omega)
  have v1 : (fun j => Value.int (xs j)) (nI i + 1).toNatClampNeg = .int (xs (i + 1)) := lw_v xs 1 hL hi (by omega)
  have i2 : vp_in (nI i + 2) L := lw_in 2 hL hi (by omega)
  have v2 : (fun j => Value.int (xs j)) (nI i + 2).toNatClampNeg = .int (xs (i + 2)) := lw_v xs 2 hL hi (by omega)
  have i3 : vp_in (nI i + 3) L := lw_in 3 hL hi (by omega)
  have v3 : (fun j => Value.int (xs j)) (nI i + 3).toNatClampNeg = .int (xs (i + 3)) := lw_v xs 3 hL hi (by omega)
  obtain ⟨r, X, ⟨q, rfl⟩, hX, C6, C7⟩ := step_fault _  h z HR
  refine r_aload iL_law_216 rfl ?_
  refine r_callV iL_law_217 (cL_25 _ rfl) (C6) (by omega) (o6) rfl rfl rfl (Nat.le_of_ble_eq_true rfl) (by first | exact Nat.le_of_ble_eq_true rfl | omega) (by first | exact Nat.le_of_ble_eq_true rfl | omega) ?_
  rintro v h1 z1 ⟨rfl, rfl, hX1⟩
  have hs1 : h1 0 = some (scr L xs) := (hX h1 hX1 0 (by omega)).trans hs
  have o71 : h1 152 = some (.inr (6, f7)) := (hX h1 hX1 152 (by omega)).trans o7
  refine r_aload iL_law_220 rfl ?_
  refine r_callV iL_law_221 (cL_28 _ rfl) (C7 _ _ hX1) (by omega) (o71) rfl rfl rfl (Nat.le_of_ble_eq_true rfl) (by first | exact Nat.le_of_ble_eq_true rfl | omega) (by first | exact Nat.le_of_ble_eq_true rfl | omega) ?_
  rintro v h2 z2 ⟨rfl, rfl, HR2⟩
  refine r_icmp_eq iL_law_224 (fun _ => ?_) (fun g9 => absurd (rfl) g9)
  exact K h2 HR2
theorem lw_field {L i : Nat} {xs : Nat → Int32} {h : Hp} {z : Nat} (hL : L ≤ 256) (hi : i + 4 ≤ L) (HR : Rel (scr L xs) h) (K : ∀ h', Rel (scr L xs) h' → LR 882 i [] h' z 161 3865) : LR 229 i [] h z 161 3865 := by
  have hs := HR.scr
  obtain ⟨f6, o6⟩ := HR.o6
  obtain ⟨f7, o7⟩ := HR.o7
  have i1 : vp_in (nI i + 1) L := lw_in 1 hL hi (by omega)
  have v1 : (fun j => Value.int (xs j)) (nI i + 1).toNatClampNeg = .int (xs (i + 1)) := lw_v xs 1 hL hi (by omega)
  have i2 : vp_in (nI i + 2) L := lw_in 2 hL hi (by omega)
  have v2 : (fun j => Value.int (xs j)) (nI i + 2).toNatClampNeg = .int (xs (i + 2)) := lw_v xs 2 hL hi (by omega)
  have i3 : vp_in (nI i + 3) L := lw_in 3 hL hi (by omega)
  have v3 : (fun j => Value.int (xs j)) (nI i + 3).toNatClampNeg = .int (xs (i + 3)) := lw_v xs 3 hL hi (by omega)
  obtain ⟨r, X, ⟨q, rfl⟩, hX, C6, C7⟩ := step_field _  h z HR
  refine r_aload iL_law_229 rfl ?_
  refine r_callV iL_law_230 (cL_29 _ rfl) (C6) (by omega) (o6) rfl rfl rfl (Nat.le_of_ble_eq_true rfl) (by first | exact Nat.le_of_ble_eq_true rfl | omega) (by first | exact Nat.le_of_ble_eq_true rfl | omega) ?_
  rintro v h1 z1 ⟨rfl, rfl, hX1⟩
  have hs1 : h1 0 = some (scr L xs) := (hX h1 hX1 0 (by omega)).trans hs
  have o71 : h1 152 = some (.inr (6, f7)) := (hX h1 hX1 152 (by omega)).trans o7
  refine r_aload iL_law_233 rfl ?_
  refine r_callV iL_law_234 (cL_32 _ rfl) (C7 _ _ hX1) (by omega) (o71) rfl rfl rfl (Nat.le_of_ble_eq_true rfl) (by first | exact Nat.le_of_ble_eq_true rfl | omega) (by first | exact Nat.le_of_ble_eq_true rfl | omega) ?_
  rintro v h2 z2 ⟨rfl, rfl, HR2⟩
  refine r_icmp_eq iL_law_237 (fun _ => ?_) (fun g9 => absurd (rfl) g9)
  exact K h2 HR2
theorem lw_thrower {L i : Nat} {xs : Nat → Int32} {h : Hp} {z : Nat} (hL : L ≤ 256) (hi : i + 4 ≤ L) (HR : Rel (scr L xs) h) (K : ∀ h', Rel (scr L xs) h' → LR 882 i [] h' z 161 3865) : LR 242 i [] h z 161 3865 := by
  have hs := HR.scr
  obtain ⟨f6, o6⟩ := HR.o6
  obtain ⟨f7, o7⟩ := HR.o7
  have i1 : vp_in (nI i + 1) L := lw_in 1 hL hi (by omega)
  have v1 : (fun j => Value.int (xs j)) (nI i + 1).toNatClampNeg = .int (xs (i + 1)) := lw_v xs 1 hL hi (by omega)
  have i2 : vp_in (nI i + 2) L := lw_in 2 hL hi (by omega)
  have v2 : (fun j => Value.int (xs j)) (nI i + 2).toNatClampNeg = .int (xs (i + 2)) := lw_v xs 2 hL hi (by omega)
  have i3 : vp_in (nI i + 3) L := lw_in 3 hL hi (by omega)
  have v3 : (fun j => Value.int (xs j)) (nI i + 3).toNatClampNeg = .int (xs (i + 3)) := lw_v xs 3 hL hi (by omega)
  obtain ⟨r, X, ⟨q, rfl⟩, hX, C6, C7⟩ := step_thrower _ (xs (i + 1)) (xs (i + 2)) h z HR
  refine r_aload iL_law_242 rfl ?_
  refine r_aload iL_law_243 rfl ?_
  refine r_iload iL_law_244 rfl ?_
  refine r_iconst (v := 1) iL_law_245 rfl ?_
  refine r_iadd iL_law_246 ?_
  refine r_iaload iL_law_247 (hs) (i1) (v1) ?_
  refine r_aload iL_law_248 rfl ?_
  refine r_iload iL_law_249 rfl ?_
  refine r_iconst (v := 2) iL_law_250 rfl ?_
  refine r_iadd iL_law_251 ?_
  refine r_iaload iL_law_252 (hs) (i2) (v2) ?_
  refine r_callV iL_law_253 (cL_33 _ rfl) (C6) (by omega) (o6) rfl rfl rfl (Nat.le_of_ble_eq_true rfl) (by first | exact Nat.le_of_ble_eq_true rfl | omega) (by first | exact Nat.le_of_ble_eq_true rfl | omega) ?_
  rintro v h1 z1 ⟨rfl, rfl, hX1⟩
  have hs1 : h1 0 = some (scr L xs) := (hX h1 hX1 0 (by omega)).trans hs
  have o71 : h1 152 = some (.inr (6, f7)) := (hX h1 hX1 152 (by omega)).trans o7
  refine r_aload iL_law_256 rfl ?_
  refine r_aload iL_law_257 rfl ?_
  refine r_iload iL_law_258 rfl ?_
  refine r_iconst (v := 1) iL_law_259 rfl ?_
  refine r_iadd iL_law_260 ?_
  refine r_iaload iL_law_261 (hs1) (i1) (v1) ?_
  refine r_aload iL_law_262 rfl ?_
  refine r_iload iL_law_263 rfl ?_
  refine r_iconst (v := 2) iL_law_264 rfl ?_
  refine r_iadd iL_law_265 ?_
  refine r_iaload iL_law_266 (hs1) (i2) (v2) ?_
  refine r_callV iL_law_267 (cL_37 _ rfl) (C7 _ _ hX1) (by omega) (o71) rfl rfl rfl (Nat.le_of_ble_eq_true rfl) (by first | exact Nat.le_of_ble_eq_true rfl | omega) (by first | exact Nat.le_of_ble_eq_true rfl | omega) ?_
  rintro v h2 z2 ⟨rfl, rfl, HR2⟩
  refine r_icmp_eq iL_law_270 (fun _ => ?_) (fun g9 => absurd (rfl) g9)
  exact K h2 HR2
theorem lw_on {L i : Nat} {xs : Nat → Int32} {h : Hp} {z : Nat} (hL : L ≤ 256) (hi : i + 4 ≤ L) (HR : Rel (scr L xs) h) (K : ∀ h', Rel (scr L xs) h' → LR 882 i [] h' z 161 3865) : LR 275 i [] h z 161 3865 := by
  have hs := HR.scr
  obtain ⟨f6, o6⟩ := HR.o6
  obtain ⟨f7, o7⟩ := HR.o7
  have i1 : vp_in (nI i + 1) L := lw_in 1 hL hi (by omega)
  have v1 : (fun j => Value.int (xs j)) (nI i + 1).toNatClampNeg = .int (xs (i + 1)) := lw_v xs 1 hL hi (by omega)
  have i2 : vp_in (nI i + 2) L := lw_in 2 hL hi (by omega)
  have v2 : (fun j => Value.int (xs j)) (nI i + 2).toNatClampNeg = .int (xs (i + 2)) := lw_v xs 2 hL hi (by omega)
  have i3 : vp_in (nI i + 3) L := lw_in 3 hL hi (by omega)
  have v3 : (fun j => Value.int (xs j)) (nI i + 3).toNatClampNeg = .int (xs (i + 3)) := lw_v xs 3 hL hi (by omega)
  obtain ⟨r, X, ⟨q, rfl⟩, hX, C6, C7⟩ := step_on _  h z HR
  refine r_aload iL_law_275 rfl ?_
  refine r_callV iL_law_276 (cL_38 _ rfl) (C6) (by omega) (o6) rfl rfl rfl (Nat.le_of_ble_eq_true rfl) (by first | exact Nat.le_of_ble_eq_true rfl | omega) (by first | exact Nat.le_of_ble_eq_true rfl | omega) ?_
  rintro v h1 z1 ⟨rfl, rfl, hX1⟩
  have hs1 : h1 0 = some (scr L xs) := (hX h1 hX1 0 (by omega)).trans hs
  have o71 : h1 152 = some (.inr (6, f7)) := (hX h1 hX1 152 (by omega)).trans o7
  refine r_aload iL_law_279 rfl ?_
  refine r_callV iL_law_280 (cL_41 _ rfl) (C7 _ _ hX1) (by omega) (o71) rfl rfl rfl (Nat.le_of_ble_eq_true rfl) (by first | exact Nat.le_of_ble_eq_true rfl | omega) (by first | exact Nat.le_of_ble_eq_true rfl | omega) ?_
  rintro v h2 z2 ⟨rfl, rfl, HR2⟩
  refine r_icmp_eq iL_law_283 (fun _ => ?_) (fun g9 => absurd (rfl) g9)
  exact K h2 HR2
theorem lw_rank {L i : Nat} {xs : Nat → Int32} {h : Hp} {z : Nat} (hL : L ≤ 256) (hi : i + 4 ≤ L) (HR : Rel (scr L xs) h) (K : ∀ h', Rel (scr L xs) h' → LR 882 i [] h' z 161 3865) : LR 288 i [] h z 161 3865 := by
  have hs := HR.scr
  obtain ⟨f6, o6⟩ := HR.o6
  obtain ⟨f7, o7⟩ := HR.o7
  have i1 : vp_in (nI i + 1) L := lw_in 1 hL hi (by omega)
  have v1 : (fun j => Value.int (xs j)) (nI i + 1).toNatClampNeg = .int (xs (i + 1)) := lw_v xs 1 hL hi (by omega)
  have i2 : vp_in (nI i + 2) L := lw_in 2 hL hi (by omega)
  have v2 : (fun j => Value.int (xs j)) (nI i + 2).toNatClampNeg = .int (xs (i + 2)) := lw_v xs 2 hL hi (by omega)
  have i3 : vp_in (nI i + 3) L := lw_in 3 hL hi (by omega)
  have v3 : (fun j => Value.int (xs j)) (nI i + 3).toNatClampNeg = .int (xs (i + 3)) := lw_v xs 3 hL hi (by omega)
  obtain ⟨r, X, ⟨q, rfl⟩, hX, C6, C7⟩ := step_rank _ (xs (i + 1)) h z HR
  refine r_aload iL_law_288 rfl ?_
  refine r_aload iL_law_289 rfl ?_
  refine r_iload iL_law_290 rfl ?_
  refine r_iconst (v := 1) iL_law_291 rfl ?_
  refine r_iadd iL_law_292 ?_
  refine r_iaload iL_law_293 (hs) (i1) (v1) ?_
  refine r_callV iL_law_294 (cL_42 _ rfl) (C6) (by omega) (o6) rfl rfl rfl (Nat.le_of_ble_eq_true rfl) (by first | exact Nat.le_of_ble_eq_true rfl | omega) (by first | exact Nat.le_of_ble_eq_true rfl | omega) ?_
  rintro v h1 z1 ⟨rfl, rfl, hX1⟩
  have hs1 : h1 0 = some (scr L xs) := (hX h1 hX1 0 (by omega)).trans hs
  have o71 : h1 152 = some (.inr (6, f7)) := (hX h1 hX1 152 (by omega)).trans o7
  refine r_aload iL_law_297 rfl ?_
  refine r_aload iL_law_298 rfl ?_
  refine r_iload iL_law_299 rfl ?_
  refine r_iconst (v := 1) iL_law_300 rfl ?_
  refine r_iadd iL_law_301 ?_
  refine r_iaload iL_law_302 (hs1) (i1) (v1) ?_
  refine r_callV iL_law_303 (cL_46 _ rfl) (C7 _ _ hX1) (by omega) (o71) rfl rfl rfl (Nat.le_of_ble_eq_true rfl) (by first | exact Nat.le_of_ble_eq_true rfl | omega) (by first | exact Nat.le_of_ble_eq_true rfl | omega) ?_
  rintro v h2 z2 ⟨rfl, rfl, HR2⟩
  refine r_icmp_eq iL_law_306 (fun _ => ?_) (fun g9 => absurd (rfl) g9)
  exact K h2 HR2
theorem lw_odds {L i : Nat} {xs : Nat → Int32} {h : Hp} {z : Nat} (hL : L ≤ 256) (hi : i + 4 ≤ L) (HR : Rel (scr L xs) h) (K : ∀ h', Rel (scr L xs) h' → LR 882 i [] h' z 161 3865) : LR 311 i [] h z 161 3865 := by
  have hs := HR.scr
  obtain ⟨f6, o6⟩ := HR.o6
  obtain ⟨f7, o7⟩ := HR.o7
  have i1 : vp_in (nI i + 1) L := lw_in 1 hL hi (by omega)
  have v1 : (fun j => Value.int (xs j)) (nI i + 1).toNatClampNeg = .int (xs (i + 1)) := lw_v xs 1 hL hi (by omega)
  have i2 : vp_in (nI i + 2) L := lw_in 2 hL hi (by omega)
  have v2 : (fun j => Value.int (xs j)) (nI i + 2).toNatClampNeg = .int (xs (i + 2)) := lw_v xs 2 hL hi (by omega)
  have i3 : vp_in (nI i + 3) L := lw_in 3 hL hi (by omega)
  have v3 : (fun j => Value.int (xs j)) (nI i + 3).toNatClampNeg = .int (xs (i + 3)) := lw_v xs 3 hL hi (by omega)
  obtain ⟨r, X, ⟨q, rfl⟩, hX, C6, C7⟩ := step_odds _ (xs (i + 1)) (xs (i + 2)) h z HR
  refine r_aload iL_law_311 rfl ?_
  refine r_aload iL_law_312 rfl ?_
  refine r_iload iL_law_313 rfl ?_
  refine r_iconst (v := 1) iL_law_314 rfl ?_
  refine r_iadd iL_law_315 ?_
  refine r_iaload iL_law_316 (hs) (i1) (v1) ?_
  refine r_aload iL_law_317 rfl ?_
  refine r_iload iL_law_318 rfl ?_
  refine r_iconst (v := 2) iL_law_319 rfl ?_
  refine r_iadd iL_law_320 ?_
  refine r_iaload iL_law_321 (hs) (i2) (v2) ?_
  refine r_callV iL_law_322 (cL_47 _ rfl) (C6) (by omega) (o6) rfl rfl rfl (Nat.le_of_ble_eq_true rfl) (by first | exact Nat.le_of_ble_eq_true rfl | omega) (by first | exact Nat.le_of_ble_eq_true rfl | omega) ?_
  rintro v h1 z1 ⟨rfl, rfl, hX1⟩
  have hs1 : h1 0 = some (scr L xs) := (hX h1 hX1 0 (by omega)).trans hs
  have o71 : h1 152 = some (.inr (6, f7)) := (hX h1 hX1 152 (by omega)).trans o7
  refine r_aload iL_law_325 rfl ?_
  refine r_aload iL_law_326 rfl ?_
  refine r_iload iL_law_327 rfl ?_
  refine r_iconst (v := 1) iL_law_328 rfl ?_
  refine r_iadd iL_law_329 ?_
  refine r_iaload iL_law_330 (hs1) (i1) (v1) ?_
  refine r_aload iL_law_331 rfl ?_
  refine r_iload iL_law_332 rfl ?_
  refine r_iconst (v := 2) iL_law_333 rfl ?_
  refine r_iadd iL_law_334 ?_
  refine r_iaload iL_law_335 (hs1) (i2) (v2) ?_
  refine r_callV iL_law_336 (cL_50 _ rfl) (C7 _ _ hX1) (by omega) (o71) rfl rfl rfl (Nat.le_of_ble_eq_true rfl) (by first | exact Nat.le_of_ble_eq_true rfl | omega) (by first | exact Nat.le_of_ble_eq_true rfl | omega) ?_
  rintro v h2 z2 ⟨rfl, rfl, HR2⟩
  refine r_icmp_eq iL_law_339 (fun _ => ?_) (fun g9 => absurd (rfl) g9)
  exact K h2 HR2
theorem lw_toss {L i : Nat} {xs : Nat → Int32} {h : Hp} {z : Nat} (hL : L ≤ 256) (hi : i + 4 ≤ L) (HR : Rel (scr L xs) h) (K : ∀ h', Rel (scr L xs) h' → LR 882 i [] h' z 161 3865) : LR 344 i [] h z 161 3865 := by
  have hs := HR.scr
  obtain ⟨f6, o6⟩ := HR.o6
  obtain ⟨f7, o7⟩ := HR.o7
  have i1 : vp_in (nI i + 1) L := lw_in 1 hL hi (by omega)
  have v1 : (fun j => Value.int (xs j)) (nI i + 1).toNatClampNeg = .int (xs (i + 1)) := lw_v xs 1 hL hi (by omega)
  have i2 : vp_in (nI i + 2) L := lw_in 2 hL hi (by omega)
  have v2 : (fun j => Value.int (xs j)) (nI i + 2).toNatClampNeg = .int (xs (i + 2)) := lw_v xs 2 hL hi (by omega)
  have i3 : vp_in (nI i + 3) L := lw_in 3 hL hi (by omega)
  have v3 : (fun j => Value.int (xs j)) (nI i + 3).toNatClampNeg = .int (xs (i + 3)) := lw_v xs 3 hL hi (by omega)
  by_cases g : xs (i + 1) = 0
  case pos =>
    obtain ⟨r, X, ⟨q, rfl⟩, hX, C6, C7⟩ := step_toss _ 0 h z HR
    refine r_aload iL_law_344 rfl ?_
    refine r_aload iL_law_345 rfl ?_
    refine r_iload iL_law_346 rfl ?_
    refine r_iconst (v := 1) iL_law_347 rfl ?_
    refine r_iadd iL_law_348 ?_
    refine r_iaload iL_law_349 (hs) (i1) (v1) ?_
    refine r_if_eq iL_law_350 (fun _ => ?_) (fun g9 => absurd (g) g9)
    refine r_iconst (v := 0) iL_law_357 rfl ?_
    refine r_callV iL_law_358 (cL_51 _ rfl) (C6) (by omega) (o6) rfl rfl rfl (Nat.le_of_ble_eq_true rfl) (by first | exact Nat.le_of_ble_eq_true rfl | omega) (by first | exact Nat.le_of_ble_eq_true rfl | omega) ?_
    rintro v h1 z1 ⟨rfl, rfl, hX1⟩
    have hs1 : h1 0 = some (scr L xs) := (hX h1 hX1 0 (by omega)).trans hs
    have o71 : h1 152 = some (.inr (6, f7)) := (hX h1 hX1 152 (by omega)).trans o7
    refine r_aload iL_law_361 rfl ?_
    refine r_aload iL_law_362 rfl ?_
    refine r_iload iL_law_363 rfl ?_
    refine r_iconst (v := 1) iL_law_364 rfl ?_
    refine r_iadd iL_law_365 ?_
    refine r_iaload iL_law_366 (hs1) (i1) (v1) ?_
    refine r_if_eq iL_law_367 (fun _ => ?_) (fun g9 => absurd (g) g9)
    refine r_iconst (v := 0) iL_law_374 rfl ?_
    refine r_callV iL_law_375 (cL_55 _ rfl) (C7 _ _ hX1) (by omega) (o71) rfl rfl rfl (Nat.le_of_ble_eq_true rfl) (by first | exact Nat.le_of_ble_eq_true rfl | omega) (by first | exact Nat.le_of_ble_eq_true rfl | omega) ?_
    rintro v h2 z2 ⟨rfl, rfl, HR2⟩
    refine r_icmp_eq iL_law_378 (fun _ => ?_) (fun g9 => absurd (rfl) g9)
    exact K h2 HR2
  case neg =>
    obtain ⟨r, X, ⟨q, rfl⟩, hX, C6, C7⟩ := step_toss _ 1 h z HR
    refine r_aload iL_law_344 rfl ?_
    refine r_aload iL_law_345 rfl ?_
    refine r_iload iL_law_346 rfl ?_
    refine r_iconst (v := 1) iL_law_347 rfl ?_
    refine r_iadd iL_law_348 ?_
    refine r_iaload iL_law_349 (hs) (i1) (v1) ?_
    refine r_if_eq iL_law_350 (fun g9 => absurd g9 (g)) (fun _ => ?_)
    refine r_iconst (v := 1) iL_law_353 rfl ?_
    refine r_goto iL_law_354 ?_
    refine r_callV iL_law_358 (cL_51 _ rfl) (C6) (by omega) (o6) rfl rfl rfl (Nat.le_of_ble_eq_true rfl) (by first | exact Nat.le_of_ble_eq_true rfl | omega) (by first | exact Nat.le_of_ble_eq_true rfl | omega) ?_
    rintro v h1 z1 ⟨rfl, rfl, hX1⟩
    have hs1 : h1 0 = some (scr L xs) := (hX h1 hX1 0 (by omega)).trans hs
    have o71 : h1 152 = some (.inr (6, f7)) := (hX h1 hX1 152 (by omega)).trans o7
    refine r_aload iL_law_361 rfl ?_
    refine r_aload iL_law_362 rfl ?_
    refine r_iload iL_law_363 rfl ?_
    refine r_iconst (v := 1) iL_law_364 rfl ?_
    refine r_iadd iL_law_365 ?_
    refine r_iaload iL_law_366 (hs1) (i1) (v1) ?_
    refine r_if_eq iL_law_367 (fun g9 => absurd g9 (g)) (fun _ => ?_)
    refine r_iconst (v := 1) iL_law_370 rfl ?_
    refine r_goto iL_law_371 ?_
    refine r_callV iL_law_375 (cL_55 _ rfl) (C7 _ _ hX1) (by omega) (o71) rfl rfl rfl (Nat.le_of_ble_eq_true rfl) (by first | exact Nat.le_of_ble_eq_true rfl | omega) (by first | exact Nat.le_of_ble_eq_true rfl | omega) ?_
    rintro v h2 z2 ⟨rfl, rfl, HR2⟩
    refine r_icmp_eq iL_law_378 (fun _ => ?_) (fun g9 => absurd (rfl) g9)
    exact K h2 HR2
theorem lw_spare {L i : Nat} {xs : Nat → Int32} {h : Hp} {z : Nat} (hL : L ≤ 256) (hi : i + 4 ≤ L) (HR : Rel (scr L xs) h) (K : ∀ h', Rel (scr L xs) h' → LR 882 i [] h' z 161 3865) : LR 383 i [] h z 161 3865 := by
  have hs := HR.scr
  obtain ⟨f6, o6⟩ := HR.o6
  obtain ⟨f7, o7⟩ := HR.o7
  have i1 : vp_in (nI i + 1) L := lw_in 1 hL hi (by omega)
  have v1 : (fun j => Value.int (xs j)) (nI i + 1).toNatClampNeg = .int (xs (i + 1)) := lw_v xs 1 hL hi (by omega)
  have i2 : vp_in (nI i + 2) L := lw_in 2 hL hi (by omega)
  have v2 : (fun j => Value.int (xs j)) (nI i + 2).toNatClampNeg = .int (xs (i + 2)) := lw_v xs 2 hL hi (by omega)
  have i3 : vp_in (nI i + 3) L := lw_in 3 hL hi (by omega)
  have v3 : (fun j => Value.int (xs j)) (nI i + 3).toNatClampNeg = .int (xs (i + 3)) := lw_v xs 3 hL hi (by omega)
  obtain ⟨r, X, ⟨q, rfl⟩, hX, C6, C7⟩ := step_spare _  h z HR
  refine r_aload iL_law_383 rfl ?_
  refine r_callV iL_law_384 (cL_56 _ rfl) (C6) (by omega) (o6) rfl rfl rfl (Nat.le_of_ble_eq_true rfl) (by first | exact Nat.le_of_ble_eq_true rfl | omega) (by first | exact Nat.le_of_ble_eq_true rfl | omega) ?_
  rintro v h1 z1 ⟨rfl, rfl, hX1⟩
  have hs1 : h1 0 = some (scr L xs) := (hX h1 hX1 0 (by omega)).trans hs
  have o71 : h1 152 = some (.inr (6, f7)) := (hX h1 hX1 152 (by omega)).trans o7
  refine r_aload iL_law_387 rfl ?_
  refine r_callV iL_law_388 (cL_59 _ rfl) (C7 _ _ hX1) (by omega) (o71) rfl rfl rfl (Nat.le_of_ble_eq_true rfl) (by first | exact Nat.le_of_ble_eq_true rfl | omega) (by first | exact Nat.le_of_ble_eq_true rfl | omega) ?_
  rintro v h2 z2 ⟨rfl, rfl, HR2⟩
  refine r_icmp_eq iL_law_391 (fun _ => ?_) (fun g9 => absurd (rfl) g9)
  exact K h2 HR2
theorem lw_undo {L i : Nat} {xs : Nat → Int32} {h : Hp} {z : Nat} (hL : L ≤ 256) (hi : i + 4 ≤ L) (HR : Rel (scr L xs) h) (K : ∀ h', Rel (scr L xs) h' → LR 882 i [] h' z 161 3865) : LR 396 i [] h z 161 3865 := by
  have hs := HR.scr
  obtain ⟨f6, o6⟩ := HR.o6
  obtain ⟨f7, o7⟩ := HR.o7
  have i1 : vp_in (nI i + 1) L := lw_in 1 hL hi (by omega)
  have v1 : (fun j => Value.int (xs j)) (nI i + 1).toNatClampNeg = .int (xs (i + 1)) := lw_v xs 1 hL hi (by omega)
  have i2 : vp_in (nI i + 2) L := lw_in 2 hL hi (by omega)
  have v2 : (fun j => Value.int (xs j)) (nI i + 2).toNatClampNeg = .int (xs (i + 2)) := lw_v xs 2 hL hi (by omega)
  have i3 : vp_in (nI i + 3) L := lw_in 3 hL hi (by omega)
  have v3 : (fun j => Value.int (xs j)) (nI i + 3).toNatClampNeg = .int (xs (i + 3)) := lw_v xs 3 hL hi (by omega)
  obtain ⟨r, X, ⟨q, rfl⟩, hX, C6, C7⟩ := step_undo _  h z HR
  refine r_aload iL_law_396 rfl ?_
  refine r_callV iL_law_397 (cL_60 _ rfl) (C6) (by omega) (o6) rfl rfl rfl (Nat.le_of_ble_eq_true rfl) (by first | exact Nat.le_of_ble_eq_true rfl | omega) (by first | exact Nat.le_of_ble_eq_true rfl | omega) ?_
  rintro v h1 z1 ⟨rfl, rfl, hX1⟩
  have hs1 : h1 0 = some (scr L xs) := (hX h1 hX1 0 (by omega)).trans hs
  have o71 : h1 152 = some (.inr (6, f7)) := (hX h1 hX1 152 (by omega)).trans o7
  refine r_aload iL_law_400 rfl ?_
  refine r_callV iL_law_401 (cL_63 _ rfl) (C7 _ _ hX1) (by omega) (o71) rfl rfl rfl (Nat.le_of_ble_eq_true rfl) (by first | exact Nat.le_of_ble_eq_true rfl | omega) (by first | exact Nat.le_of_ble_eq_true rfl | omega) ?_
  rintro v h2 z2 ⟨rfl, rfl, HR2⟩
  refine r_icmp_eq iL_law_404 (fun _ => ?_) (fun g9 => absurd (rfl) g9)
  exact K h2 HR2
theorem lw_judge {L i : Nat} {xs : Nat → Int32} {h : Hp} {z : Nat} (hL : L ≤ 256) (hi : i + 4 ≤ L) (HR : Rel (scr L xs) h) (K : ∀ h', Rel (scr L xs) h' → LR 882 i [] h' z 161 3865) : LR 409 i [] h z 161 3865 := by
  have hs := HR.scr
  obtain ⟨f6, o6⟩ := HR.o6
  obtain ⟨f7, o7⟩ := HR.o7
  have i1 : vp_in (nI i + 1) L := lw_in 1 hL hi (by omega)
  have v1 : (fun j => Value.int (xs j)) (nI i + 1).toNatClampNeg = .int (xs (i + 1)) := lw_v xs 1 hL hi (by omega)
  have i2 : vp_in (nI i + 2) L := lw_in 2 hL hi (by omega)
  have v2 : (fun j => Value.int (xs j)) (nI i + 2).toNatClampNeg = .int (xs (i + 2)) := lw_v xs 2 hL hi (by omega)
  have i3 : vp_in (nI i + 3) L := lw_in 3 hL hi (by omega)
  have v3 : (fun j => Value.int (xs j)) (nI i + 3).toNatClampNeg = .int (xs (i + 3)) := lw_v xs 3 hL hi (by omega)
  obtain ⟨r, X, ⟨q, rfl⟩, hX, C6, C7⟩ := step_judge _ (xs (i + 1)) (xs (i + 2)) h z HR
  refine r_aload iL_law_409 rfl ?_
  refine r_aload iL_law_410 rfl ?_
  refine r_iload iL_law_411 rfl ?_
  refine r_iconst (v := 1) iL_law_412 rfl ?_
  refine r_iadd iL_law_413 ?_
  refine r_iaload iL_law_414 (hs) (i1) (v1) ?_
  refine r_aload iL_law_415 rfl ?_
  refine r_iload iL_law_416 rfl ?_
  refine r_iconst (v := 2) iL_law_417 rfl ?_
  refine r_iadd iL_law_418 ?_
  refine r_iaload iL_law_419 (hs) (i2) (v2) ?_
  refine r_callV iL_law_420 (cL_64 _ rfl) (C6) (by omega) (o6) rfl rfl rfl (Nat.le_of_ble_eq_true rfl) (by first | exact Nat.le_of_ble_eq_true rfl | omega) (by first | exact Nat.le_of_ble_eq_true rfl | omega) ?_
  rintro v h1 z1 ⟨rfl, rfl, hX1⟩
  have hs1 : h1 0 = some (scr L xs) := (hX h1 hX1 0 (by omega)).trans hs
  have o71 : h1 152 = some (.inr (6, f7)) := (hX h1 hX1 152 (by omega)).trans o7
  refine r_aload iL_law_423 rfl ?_
  refine r_aload iL_law_424 rfl ?_
  refine r_iload iL_law_425 rfl ?_
  refine r_iconst (v := 1) iL_law_426 rfl ?_
  refine r_iadd iL_law_427 ?_
  refine r_iaload iL_law_428 (hs1) (i1) (v1) ?_
  refine r_aload iL_law_429 rfl ?_
  refine r_iload iL_law_430 rfl ?_
  refine r_iconst (v := 2) iL_law_431 rfl ?_
  refine r_iadd iL_law_432 ?_
  refine r_iaload iL_law_433 (hs1) (i2) (v2) ?_
  refine r_callV iL_law_434 (cL_67 _ rfl) (C7 _ _ hX1) (by omega) (o71) rfl rfl rfl (Nat.le_of_ble_eq_true rfl) (by first | exact Nat.le_of_ble_eq_true rfl | omega) (by first | exact Nat.le_of_ble_eq_true rfl | omega) ?_
  rintro v h2 z2 ⟨rfl, rfl, HR2⟩
  refine r_icmp_eq iL_law_437 (fun _ => ?_) (fun g9 => absurd (rfl) g9)
  exact K h2 HR2
theorem lw_clears {L i : Nat} {xs : Nat → Int32} {h : Hp} {z : Nat} (hL : L ≤ 256) (hi : i + 4 ≤ L) (HR : Rel (scr L xs) h) (K : ∀ h', Rel (scr L xs) h' → LR 882 i [] h' z 161 3865) : LR 442 i [] h z 161 3865 := by
  have hs := HR.scr
  obtain ⟨f6, o6⟩ := HR.o6
  obtain ⟨f7, o7⟩ := HR.o7
  have i1 : vp_in (nI i + 1) L := lw_in 1 hL hi (by omega)
  have v1 : (fun j => Value.int (xs j)) (nI i + 1).toNatClampNeg = .int (xs (i + 1)) := lw_v xs 1 hL hi (by omega)
  have i2 : vp_in (nI i + 2) L := lw_in 2 hL hi (by omega)
  have v2 : (fun j => Value.int (xs j)) (nI i + 2).toNatClampNeg = .int (xs (i + 2)) := lw_v xs 2 hL hi (by omega)
  have i3 : vp_in (nI i + 3) L := lw_in 3 hL hi (by omega)
  have v3 : (fun j => Value.int (xs j)) (nI i + 3).toNatClampNeg = .int (xs (i + 3)) := lw_v xs 3 hL hi (by omega)
  by_cases g : xs (i + 2) = 0
  case pos =>
    obtain ⟨r, X, ⟨q, rfl⟩, hX, C6, C7⟩ := step_clears _ (xs (i + 1)) 0 h z HR
    refine r_aload iL_law_442 rfl ?_
    refine r_aload iL_law_443 rfl ?_
    refine r_iload iL_law_444 rfl ?_
    refine r_iconst (v := 1) iL_law_445 rfl ?_
    refine r_iadd iL_law_446 ?_
    refine r_iaload iL_law_447 (hs) (i1) (v1) ?_
    refine r_aload iL_law_448 rfl ?_
    refine r_iload iL_law_449 rfl ?_
    refine r_iconst (v := 2) iL_law_450 rfl ?_
    refine r_iadd iL_law_451 ?_
    refine r_iaload iL_law_452 (hs) (i2) (v2) ?_
    refine r_if_eq iL_law_453 (fun _ => ?_) (fun g9 => absurd (g) g9)
    refine r_iconst (v := 0) iL_law_460 rfl ?_
    refine r_callV iL_law_461 (cL_68 _ rfl) (C6) (by omega) (o6) rfl rfl rfl (Nat.le_of_ble_eq_true rfl) (by first | exact Nat.le_of_ble_eq_true rfl | omega) (by first | exact Nat.le_of_ble_eq_true rfl | omega) ?_
    rintro v h1 z1 ⟨rfl, rfl, hX1⟩
    have hs1 : h1 0 = some (scr L xs) := (hX h1 hX1 0 (by omega)).trans hs
    have o71 : h1 152 = some (.inr (6, f7)) := (hX h1 hX1 152 (by omega)).trans o7
    refine r_aload iL_law_464 rfl ?_
    refine r_aload iL_law_465 rfl ?_
    refine r_iload iL_law_466 rfl ?_
    refine r_iconst (v := 1) iL_law_467 rfl ?_
    refine r_iadd iL_law_468 ?_
    refine r_iaload iL_law_469 (hs1) (i1) (v1) ?_
    refine r_aload iL_law_470 rfl ?_
    refine r_iload iL_law_471 rfl ?_
    refine r_iconst (v := 2) iL_law_472 rfl ?_
    refine r_iadd iL_law_473 ?_
    refine r_iaload iL_law_474 (hs1) (i2) (v2) ?_
    refine r_if_eq iL_law_475 (fun _ => ?_) (fun g9 => absurd (g) g9)
    refine r_iconst (v := 0) iL_law_482 rfl ?_
    refine r_callV iL_law_483 (cL_72 _ rfl) (C7 _ _ hX1) (by omega) (o71) rfl rfl rfl (Nat.le_of_ble_eq_true rfl) (by first | exact Nat.le_of_ble_eq_true rfl | omega) (by first | exact Nat.le_of_ble_eq_true rfl | omega) ?_
    rintro v h2 z2 ⟨rfl, rfl, HR2⟩
    refine r_icmp_eq iL_law_486 (fun _ => ?_) (fun g9 => absurd (rfl) g9)
    exact K h2 HR2
  case neg =>
    obtain ⟨r, X, ⟨q, rfl⟩, hX, C6, C7⟩ := step_clears _ (xs (i + 1)) 1 h z HR
    refine r_aload iL_law_442 rfl ?_
    refine r_aload iL_law_443 rfl ?_
    refine r_iload iL_law_444 rfl ?_
    refine r_iconst (v := 1) iL_law_445 rfl ?_
    refine r_iadd iL_law_446 ?_
    refine r_iaload iL_law_447 (hs) (i1) (v1) ?_
    refine r_aload iL_law_448 rfl ?_
    refine r_iload iL_law_449 rfl ?_
    refine r_iconst (v := 2) iL_law_450 rfl ?_
    refine r_iadd iL_law_451 ?_
    refine r_iaload iL_law_452 (hs) (i2) (v2) ?_
    refine r_if_eq iL_law_453 (fun g9 => absurd g9 (g)) (fun _ => ?_)
    refine r_iconst (v := 1) iL_law_456 rfl ?_
    refine r_goto iL_law_457 ?_
    refine r_callV iL_law_461 (cL_68 _ rfl) (C6) (by omega) (o6) rfl rfl rfl (Nat.le_of_ble_eq_true rfl) (by first | exact Nat.le_of_ble_eq_true rfl | omega) (by first | exact Nat.le_of_ble_eq_true rfl | omega) ?_
    rintro v h1 z1 ⟨rfl, rfl, hX1⟩
    have hs1 : h1 0 = some (scr L xs) := (hX h1 hX1 0 (by omega)).trans hs
    have o71 : h1 152 = some (.inr (6, f7)) := (hX h1 hX1 152 (by omega)).trans o7
    refine r_aload iL_law_464 rfl ?_
    refine r_aload iL_law_465 rfl ?_
    refine r_iload iL_law_466 rfl ?_
    refine r_iconst (v := 1) iL_law_467 rfl ?_
    refine r_iadd iL_law_468 ?_
    refine r_iaload iL_law_469 (hs1) (i1) (v1) ?_
    refine r_aload iL_law_470 rfl ?_
    refine r_iload iL_law_471 rfl ?_
    refine r_iconst (v := 2) iL_law_472 rfl ?_
    refine r_iadd iL_law_473 ?_
    refine r_iaload iL_law_474 (hs1) (i2) (v2) ?_
    refine r_if_eq iL_law_475 (fun g9 => absurd g9 (g)) (fun _ => ?_)
    refine r_iconst (v := 1) iL_law_478 rfl ?_
    refine r_goto iL_law_479 ?_
    refine r_callV iL_law_483 (cL_72 _ rfl) (C7 _ _ hX1) (by omega) (o71) rfl rfl rfl (Nat.le_of_ble_eq_true rfl) (by first | exact Nat.le_of_ble_eq_true rfl | omega) (by first | exact Nat.le_of_ble_eq_true rfl | omega) ?_
    rintro v h2 z2 ⟨rfl, rfl, HR2⟩
    refine r_icmp_eq iL_law_486 (fun _ => ?_) (fun g9 => absurd (rfl) g9)
    exact K h2 HR2
theorem lw_mean {L i : Nat} {xs : Nat → Int32} {h : Hp} {z : Nat} (hL : L ≤ 256) (hi : i + 4 ≤ L) (HR : Rel (scr L xs) h) (K : ∀ h', Rel (scr L xs) h' → LR 882 i [] h' z 161 3865) : LR 491 i [] h z 161 3865 := by
  have hs := HR.scr
  obtain ⟨f6, o6⟩ := HR.o6
  obtain ⟨f7, o7⟩ := HR.o7
  have i1 : vp_in (nI i + 1) L := lw_in 1 hL hi (by omega)
  have v1 : (fun j => Value.int (xs j)) (nI i + 1).toNatClampNeg = .int (xs (i + 1)) := lw_v xs 1 hL hi (by omega)
  have i2 : vp_in (nI i + 2) L := lw_in 2 hL hi (by omega)
  have v2 : (fun j => Value.int (xs j)) (nI i + 2).toNatClampNeg = .int (xs (i + 2)) := lw_v xs 2 hL hi (by omega)
  have i3 : vp_in (nI i + 3) L := lw_in 3 hL hi (by omega)
  have v3 : (fun j => Value.int (xs j)) (nI i + 3).toNatClampNeg = .int (xs (i + 3)) := lw_v xs 3 hL hi (by omega)
  by_cases g : xs (i + 3) = 0
  case pos =>
    obtain ⟨r, X, ⟨q, rfl⟩, hX, C6, C7⟩ := step_mean _ (xs (i + 1)) (xs (i + 2)) 0 h z HR
    refine r_aload iL_law_491 rfl ?_
    refine r_aload iL_law_492 rfl ?_
    refine r_iload iL_law_493 rfl ?_
    refine r_iconst (v := 1) iL_law_494 rfl ?_
    refine r_iadd iL_law_495 ?_
    refine r_iaload iL_law_496 (hs) (i1) (v1) ?_
    refine r_aload iL_law_497 rfl ?_
    refine r_iload iL_law_498 rfl ?_
    refine r_iconst (v := 2) iL_law_499 rfl ?_
    refine r_iadd iL_law_500 ?_
    refine r_iaload iL_law_501 (hs) (i2) (v2) ?_
    refine r_aload iL_law_502 rfl ?_
    refine r_iload iL_law_503 rfl ?_
    refine r_iconst (v := 3) iL_law_504 rfl ?_
    refine r_iadd iL_law_505 ?_
    refine r_iaload iL_law_506 (hs) (i3) (v3) ?_
    refine r_if_eq iL_law_507 (fun _ => ?_) (fun g9 => absurd (g) g9)
    refine r_iconst (v := 0) iL_law_514 rfl ?_
    refine r_callV iL_law_515 (cL_73 _ rfl) (C6) (by omega) (o6) rfl rfl rfl (Nat.le_of_ble_eq_true rfl) (by first | exact Nat.le_of_ble_eq_true rfl | omega) (by first | exact Nat.le_of_ble_eq_true rfl | omega) ?_
    rintro v h1 z1 ⟨rfl, rfl, hX1⟩
    have hs1 : h1 0 = some (scr L xs) := (hX h1 hX1 0 (by omega)).trans hs
    have o71 : h1 152 = some (.inr (6, f7)) := (hX h1 hX1 152 (by omega)).trans o7
    refine r_aload iL_law_518 rfl ?_
    refine r_aload iL_law_519 rfl ?_
    refine r_iload iL_law_520 rfl ?_
    refine r_iconst (v := 1) iL_law_521 rfl ?_
    refine r_iadd iL_law_522 ?_
    refine r_iaload iL_law_523 (hs1) (i1) (v1) ?_
    refine r_aload iL_law_524 rfl ?_
    refine r_iload iL_law_525 rfl ?_
    refine r_iconst (v := 2) iL_law_526 rfl ?_
    refine r_iadd iL_law_527 ?_
    refine r_iaload iL_law_528 (hs1) (i2) (v2) ?_
    refine r_aload iL_law_529 rfl ?_
    refine r_iload iL_law_530 rfl ?_
    refine r_iconst (v := 3) iL_law_531 rfl ?_
    refine r_iadd iL_law_532 ?_
    refine r_iaload iL_law_533 (hs1) (i3) (v3) ?_
    refine r_if_eq iL_law_534 (fun _ => ?_) (fun g9 => absurd (g) g9)
    refine r_iconst (v := 0) iL_law_541 rfl ?_
    refine r_callV iL_law_542 (cL_77 _ rfl) (C7 _ _ hX1) (by omega) (o71) rfl rfl rfl (Nat.le_of_ble_eq_true rfl) (by first | exact Nat.le_of_ble_eq_true rfl | omega) (by first | exact Nat.le_of_ble_eq_true rfl | omega) ?_
    rintro v h2 z2 ⟨rfl, rfl, HR2⟩
    refine r_lcmp iL_law_545 ?_
    refine r_if_eq iL_law_546 (fun _ => ?_) (fun g9 => absurd ((lg_cmp_eq _ _).mpr rfl) g9)
    exact K h2 HR2
  case neg =>
    obtain ⟨r, X, ⟨q, rfl⟩, hX, C6, C7⟩ := step_mean _ (xs (i + 1)) (xs (i + 2)) 1 h z HR
    refine r_aload iL_law_491 rfl ?_
    refine r_aload iL_law_492 rfl ?_
    refine r_iload iL_law_493 rfl ?_
    refine r_iconst (v := 1) iL_law_494 rfl ?_
    refine r_iadd iL_law_495 ?_
    refine r_iaload iL_law_496 (hs) (i1) (v1) ?_
    refine r_aload iL_law_497 rfl ?_
    refine r_iload iL_law_498 rfl ?_
    refine r_iconst (v := 2) iL_law_499 rfl ?_
    refine r_iadd iL_law_500 ?_
    refine r_iaload iL_law_501 (hs) (i2) (v2) ?_
    refine r_aload iL_law_502 rfl ?_
    refine r_iload iL_law_503 rfl ?_
    refine r_iconst (v := 3) iL_law_504 rfl ?_
    refine r_iadd iL_law_505 ?_
    refine r_iaload iL_law_506 (hs) (i3) (v3) ?_
    refine r_if_eq iL_law_507 (fun g9 => absurd g9 (g)) (fun _ => ?_)
    refine r_iconst (v := 1) iL_law_510 rfl ?_
    refine r_goto iL_law_511 ?_
    refine r_callV iL_law_515 (cL_73 _ rfl) (C6) (by omega) (o6) rfl rfl rfl (Nat.le_of_ble_eq_true rfl) (by first | exact Nat.le_of_ble_eq_true rfl | omega) (by first | exact Nat.le_of_ble_eq_true rfl | omega) ?_
    rintro v h1 z1 ⟨rfl, rfl, hX1⟩
    have hs1 : h1 0 = some (scr L xs) := (hX h1 hX1 0 (by omega)).trans hs
    have o71 : h1 152 = some (.inr (6, f7)) := (hX h1 hX1 152 (by omega)).trans o7
    refine r_aload iL_law_518 rfl ?_
    refine r_aload iL_law_519 rfl ?_
    refine r_iload iL_law_520 rfl ?_
    refine r_iconst (v := 1) iL_law_521 rfl ?_
    refine r_iadd iL_law_522 ?_
    refine r_iaload iL_law_523 (hs1) (i1) (v1) ?_
    refine r_aload iL_law_524 rfl ?_
    refine r_iload iL_law_525 rfl ?_
    refine r_iconst (v := 2) iL_law_526 rfl ?_
    refine r_iadd iL_law_527 ?_
    refine r_iaload iL_law_528 (hs1) (i2) (v2) ?_
    refine r_aload iL_law_529 rfl ?_
    refine r_iload iL_law_530 rfl ?_
    refine r_iconst (v := 3) iL_law_531 rfl ?_
    refine r_iadd iL_law_532 ?_
    refine r_iaload iL_law_533 (hs1) (i3) (v3) ?_
    refine r_if_eq iL_law_534 (fun g9 => absurd g9 (g)) (fun _ => ?_)
    refine r_iconst (v := 1) iL_law_537 rfl ?_
    refine r_goto iL_law_538 ?_
    refine r_callV iL_law_542 (cL_77 _ rfl) (C7 _ _ hX1) (by omega) (o71) rfl rfl rfl (Nat.le_of_ble_eq_true rfl) (by first | exact Nat.le_of_ble_eq_true rfl | omega) (by first | exact Nat.le_of_ble_eq_true rfl | omega) ?_
    rintro v h2 z2 ⟨rfl, rfl, HR2⟩
    refine r_lcmp iL_law_545 ?_
    refine r_if_eq iL_law_546 (fun _ => ?_) (fun g9 => absurd ((lg_cmp_eq _ _).mpr rfl) g9)
    exact K h2 HR2
theorem lw_wise {L i : Nat} {xs : Nat → Int32} {h : Hp} {z : Nat} (hL : L ≤ 256) (hi : i + 4 ≤ L) (HR : Rel (scr L xs) h) (K : ∀ h', Rel (scr L xs) h' → LR 882 i [] h' z 161 3865) : LR 551 i [] h z 161 3865 := by
  have hs := HR.scr
  obtain ⟨f6, o6⟩ := HR.o6
  obtain ⟨f7, o7⟩ := HR.o7
  have i1 : vp_in (nI i + 1) L := lw_in 1 hL hi (by omega)
  have v1 : (fun j => Value.int (xs j)) (nI i + 1).toNatClampNeg = .int (xs (i + 1)) := lw_v xs 1 hL hi (by omega)
  have i2 : vp_in (nI i + 2) L := lw_in 2 hL hi (by omega)
  have v2 : (fun j => Value.int (xs j)) (nI i + 2).toNatClampNeg = .int (xs (i + 2)) := lw_v xs 2 hL hi (by omega)
  have i3 : vp_in (nI i + 3) L := lw_in 3 hL hi (by omega)
  have v3 : (fun j => Value.int (xs j)) (nI i + 3).toNatClampNeg = .int (xs (i + 3)) := lw_v xs 3 hL hi (by omega)
  obtain ⟨r, X, ⟨q, rfl⟩, hX, C6, C7⟩ := step_wise _ (xs (i + 1)) (xs (i + 2)) h z HR
  refine r_aload iL_law_551 rfl ?_
  refine r_aload iL_law_552 rfl ?_
  refine r_iload iL_law_553 rfl ?_
  refine r_iconst (v := 1) iL_law_554 rfl ?_
  refine r_iadd iL_law_555 ?_
  refine r_iaload iL_law_556 (hs) (i1) (v1) ?_
  refine r_aload iL_law_557 rfl ?_
  refine r_iload iL_law_558 rfl ?_
  refine r_iconst (v := 2) iL_law_559 rfl ?_
  refine r_iadd iL_law_560 ?_
  refine r_iaload iL_law_561 (hs) (i2) (v2) ?_
  refine r_callV iL_law_562 (cL_78 _ rfl) (C6) (by omega) (o6) rfl rfl rfl (Nat.le_of_ble_eq_true rfl) (by first | exact Nat.le_of_ble_eq_true rfl | omega) (by first | exact Nat.le_of_ble_eq_true rfl | omega) ?_
  rintro v h1 z1 ⟨rfl, rfl, hX1⟩
  have hs1 : h1 0 = some (scr L xs) := (hX h1 hX1 0 (by omega)).trans hs
  have o71 : h1 152 = some (.inr (6, f7)) := (hX h1 hX1 152 (by omega)).trans o7
  refine r_aload iL_law_565 rfl ?_
  refine r_aload iL_law_566 rfl ?_
  refine r_iload iL_law_567 rfl ?_
  refine r_iconst (v := 1) iL_law_568 rfl ?_
  refine r_iadd iL_law_569 ?_
  refine r_iaload iL_law_570 (hs1) (i1) (v1) ?_
  refine r_aload iL_law_571 rfl ?_
  refine r_iload iL_law_572 rfl ?_
  refine r_iconst (v := 2) iL_law_573 rfl ?_
  refine r_iadd iL_law_574 ?_
  refine r_iaload iL_law_575 (hs1) (i2) (v2) ?_
  refine r_callV iL_law_576 (cL_81 _ rfl) (C7 _ _ hX1) (by omega) (o71) rfl rfl rfl (Nat.le_of_ble_eq_true rfl) (by first | exact Nat.le_of_ble_eq_true rfl | omega) (by first | exact Nat.le_of_ble_eq_true rfl | omega) ?_
  rintro v h2 z2 ⟨rfl, rfl, HR2⟩
  refine r_icmp_eq iL_law_579 (fun _ => ?_) (fun g9 => absurd (rfl) g9)
  exact K h2 HR2
theorem lw_first {L i : Nat} {xs : Nat → Int32} {h : Hp} {z : Nat} (hL : L ≤ 256) (hi : i + 4 ≤ L) (HR : Rel (scr L xs) h) (K : ∀ h', Rel (scr L xs) h' → LR 882 i [] h' z 161 3865) : LR 584 i [] h z 161 3865 := by
  have hs := HR.scr
  obtain ⟨f6, o6⟩ := HR.o6
  obtain ⟨f7, o7⟩ := HR.o7
  have i1 : vp_in (nI i + 1) L := lw_in 1 hL hi (by omega)
  have v1 : (fun j => Value.int (xs j)) (nI i + 1).toNatClampNeg = .int (xs (i + 1)) := lw_v xs 1 hL hi (by omega)
  have i2 : vp_in (nI i + 2) L := lw_in 2 hL hi (by omega)
  have v2 : (fun j => Value.int (xs j)) (nI i + 2).toNatClampNeg = .int (xs (i + 2)) := lw_v xs 2 hL hi (by omega)
  have i3 : vp_in (nI i + 3) L := lw_in 3 hL hi (by omega)
  have v3 : (fun j => Value.int (xs j)) (nI i + 3).toNatClampNeg = .int (xs (i + 3)) := lw_v xs 3 hL hi (by omega)
  by_cases g : xs (i + 3) = 0
  case pos =>
    obtain ⟨r, X, ⟨q, rfl⟩, hX, C6, C7⟩ := step_first _ (xs (i + 1)) (xs (i + 2)) 0 h z HR
    refine r_aload iL_law_584 rfl ?_
    refine r_aload iL_law_585 rfl ?_
    refine r_iload iL_law_586 rfl ?_
    refine r_iconst (v := 1) iL_law_587 rfl ?_
    refine r_iadd iL_law_588 ?_
    refine r_iaload iL_law_589 (hs) (i1) (v1) ?_
    refine r_aload iL_law_590 rfl ?_
    refine r_iload iL_law_591 rfl ?_
    refine r_iconst (v := 2) iL_law_592 rfl ?_
    refine r_iadd iL_law_593 ?_
    refine r_iaload iL_law_594 (hs) (i2) (v2) ?_
    refine r_aload iL_law_595 rfl ?_
    refine r_iload iL_law_596 rfl ?_
    refine r_iconst (v := 3) iL_law_597 rfl ?_
    refine r_iadd iL_law_598 ?_
    refine r_iaload iL_law_599 (hs) (i3) (v3) ?_
    refine r_if_eq iL_law_600 (fun _ => ?_) (fun g9 => absurd (g) g9)
    refine r_iconst (v := 0) iL_law_607 rfl ?_
    refine r_callV iL_law_608 (cL_82 _ rfl) (C6) (by omega) (o6) rfl rfl rfl (Nat.le_of_ble_eq_true rfl) (by first | exact Nat.le_of_ble_eq_true rfl | omega) (by first | exact Nat.le_of_ble_eq_true rfl | omega) ?_
    rintro v h1 z1 ⟨rfl, rfl, hX1⟩
    have hs1 : h1 0 = some (scr L xs) := (hX h1 hX1 0 (by omega)).trans hs
    have o71 : h1 152 = some (.inr (6, f7)) := (hX h1 hX1 152 (by omega)).trans o7
    refine r_aload iL_law_611 rfl ?_
    refine r_aload iL_law_612 rfl ?_
    refine r_iload iL_law_613 rfl ?_
    refine r_iconst (v := 1) iL_law_614 rfl ?_
    refine r_iadd iL_law_615 ?_
    refine r_iaload iL_law_616 (hs1) (i1) (v1) ?_
    refine r_aload iL_law_617 rfl ?_
    refine r_iload iL_law_618 rfl ?_
    refine r_iconst (v := 2) iL_law_619 rfl ?_
    refine r_iadd iL_law_620 ?_
    refine r_iaload iL_law_621 (hs1) (i2) (v2) ?_
    refine r_aload iL_law_622 rfl ?_
    refine r_iload iL_law_623 rfl ?_
    refine r_iconst (v := 3) iL_law_624 rfl ?_
    refine r_iadd iL_law_625 ?_
    refine r_iaload iL_law_626 (hs1) (i3) (v3) ?_
    refine r_if_eq iL_law_627 (fun _ => ?_) (fun g9 => absurd (g) g9)
    refine r_iconst (v := 0) iL_law_634 rfl ?_
    refine r_callV iL_law_635 (cL_85 _ rfl) (C7 _ _ hX1) (by omega) (o71) rfl rfl rfl (Nat.le_of_ble_eq_true rfl) (by first | exact Nat.le_of_ble_eq_true rfl | omega) (by first | exact Nat.le_of_ble_eq_true rfl | omega) ?_
    rintro v h2 z2 ⟨rfl, rfl, HR2⟩
    refine r_lcmp iL_law_638 ?_
    refine r_if_eq iL_law_639 (fun _ => ?_) (fun g9 => absurd ((lg_cmp_eq _ _).mpr rfl) g9)
    exact K h2 HR2
  case neg =>
    obtain ⟨r, X, ⟨q, rfl⟩, hX, C6, C7⟩ := step_first _ (xs (i + 1)) (xs (i + 2)) 1 h z HR
    refine r_aload iL_law_584 rfl ?_
    refine r_aload iL_law_585 rfl ?_
    refine r_iload iL_law_586 rfl ?_
    refine r_iconst (v := 1) iL_law_587 rfl ?_
    refine r_iadd iL_law_588 ?_
    refine r_iaload iL_law_589 (hs) (i1) (v1) ?_
    refine r_aload iL_law_590 rfl ?_
    refine r_iload iL_law_591 rfl ?_
    refine r_iconst (v := 2) iL_law_592 rfl ?_
    refine r_iadd iL_law_593 ?_
    refine r_iaload iL_law_594 (hs) (i2) (v2) ?_
    refine r_aload iL_law_595 rfl ?_
    refine r_iload iL_law_596 rfl ?_
    refine r_iconst (v := 3) iL_law_597 rfl ?_
    refine r_iadd iL_law_598 ?_
    refine r_iaload iL_law_599 (hs) (i3) (v3) ?_
    refine r_if_eq iL_law_600 (fun g9 => absurd g9 (g)) (fun _ => ?_)
    refine r_iconst (v := 1) iL_law_603 rfl ?_
    refine r_goto iL_law_604 ?_
    refine r_callV iL_law_608 (cL_82 _ rfl) (C6) (by omega) (o6) rfl rfl rfl (Nat.le_of_ble_eq_true rfl) (by first | exact Nat.le_of_ble_eq_true rfl | omega) (by first | exact Nat.le_of_ble_eq_true rfl | omega) ?_
    rintro v h1 z1 ⟨rfl, rfl, hX1⟩
    have hs1 : h1 0 = some (scr L xs) := (hX h1 hX1 0 (by omega)).trans hs
    have o71 : h1 152 = some (.inr (6, f7)) := (hX h1 hX1 152 (by omega)).trans o7
    refine r_aload iL_law_611 rfl ?_
    refine r_aload iL_law_612 rfl ?_
    refine r_iload iL_law_613 rfl ?_
    refine r_iconst (v := 1) iL_law_614 rfl ?_
    refine r_iadd iL_law_615 ?_
    refine r_iaload iL_law_616 (hs1) (i1) (v1) ?_
    refine r_aload iL_law_617 rfl ?_
    refine r_iload iL_law_618 rfl ?_
    refine r_iconst (v := 2) iL_law_619 rfl ?_
    refine r_iadd iL_law_620 ?_
    refine r_iaload iL_law_621 (hs1) (i2) (v2) ?_
    refine r_aload iL_law_622 rfl ?_
    refine r_iload iL_law_623 rfl ?_
    refine r_iconst (v := 3) iL_law_624 rfl ?_
    refine r_iadd iL_law_625 ?_
    refine r_iaload iL_law_626 (hs1) (i3) (v3) ?_
    refine r_if_eq iL_law_627 (fun g9 => absurd g9 (g)) (fun _ => ?_)
    refine r_iconst (v := 1) iL_law_630 rfl ?_
    refine r_goto iL_law_631 ?_
    refine r_callV iL_law_635 (cL_85 _ rfl) (C7 _ _ hX1) (by omega) (o71) rfl rfl rfl (Nat.le_of_ble_eq_true rfl) (by first | exact Nat.le_of_ble_eq_true rfl | omega) (by first | exact Nat.le_of_ble_eq_true rfl | omega) ?_
    rintro v h2 z2 ⟨rfl, rfl, HR2⟩
    refine r_lcmp iL_law_638 ?_
    refine r_if_eq iL_law_639 (fun _ => ?_) (fun g9 => absurd ((lg_cmp_eq _ _).mpr rfl) g9)
    exact K h2 HR2
theorem lw_alone {L i : Nat} {xs : Nat → Int32} {h : Hp} {z : Nat} (hL : L ≤ 256) (hi : i + 4 ≤ L) (HR : Rel (scr L xs) h) (K : ∀ h', Rel (scr L xs) h' → LR 882 i [] h' z 161 3865) : LR 644 i [] h z 161 3865 := by
  have hs := HR.scr
  obtain ⟨f6, o6⟩ := HR.o6
  obtain ⟨f7, o7⟩ := HR.o7
  have i1 : vp_in (nI i + 1) L := lw_in 1 hL hi (by omega)
  have v1 : (fun j => Value.int (xs j)) (nI i + 1).toNatClampNeg = .int (xs (i + 1)) := lw_v xs 1 hL hi (by omega)
  have i2 : vp_in (nI i + 2) L := lw_in 2 hL hi (by omega)
  have v2 : (fun j => Value.int (xs j)) (nI i + 2).toNatClampNeg = .int (xs (i + 2)) := lw_v xs 2 hL hi (by omega)
  have i3 : vp_in (nI i + 3) L := lw_in 3 hL hi (by omega)
  have v3 : (fun j => Value.int (xs j)) (nI i + 3).toNatClampNeg = .int (xs (i + 3)) := lw_v xs 3 hL hi (by omega)
  by_cases g : xs (i + 3) = 0
  case pos =>
    obtain ⟨r, X, ⟨q, rfl⟩, hX, C6, C7⟩ := step_alone _ (xs (i + 1)) (xs (i + 2)) 0 h z HR
    refine r_aload iL_law_644 rfl ?_
    refine r_aload iL_law_645 rfl ?_
    refine r_iload iL_law_646 rfl ?_
    refine r_iconst (v := 1) iL_law_647 rfl ?_
    refine r_iadd iL_law_648 ?_
    refine r_iaload iL_law_649 (hs) (i1) (v1) ?_
    refine r_aload iL_law_650 rfl ?_
    refine r_iload iL_law_651 rfl ?_
    refine r_iconst (v := 2) iL_law_652 rfl ?_
    refine r_iadd iL_law_653 ?_
    refine r_iaload iL_law_654 (hs) (i2) (v2) ?_
    refine r_aload iL_law_655 rfl ?_
    refine r_iload iL_law_656 rfl ?_
    refine r_iconst (v := 3) iL_law_657 rfl ?_
    refine r_iadd iL_law_658 ?_
    refine r_iaload iL_law_659 (hs) (i3) (v3) ?_
    refine r_if_eq iL_law_660 (fun _ => ?_) (fun g9 => absurd (g) g9)
    refine r_iconst (v := 0) iL_law_667 rfl ?_
    refine r_callV iL_law_668 (cL_86 _ rfl) (C6) (by omega) (o6) rfl rfl rfl (Nat.le_of_ble_eq_true rfl) (by first | exact Nat.le_of_ble_eq_true rfl | omega) (by first | exact Nat.le_of_ble_eq_true rfl | omega) ?_
    rintro v h1 z1 ⟨rfl, rfl, hX1⟩
    have hs1 : h1 0 = some (scr L xs) := (hX h1 hX1 0 (by omega)).trans hs
    have o71 : h1 152 = some (.inr (6, f7)) := (hX h1 hX1 152 (by omega)).trans o7
    refine r_aload iL_law_671 rfl ?_
    refine r_aload iL_law_672 rfl ?_
    refine r_iload iL_law_673 rfl ?_
    refine r_iconst (v := 1) iL_law_674 rfl ?_
    refine r_iadd iL_law_675 ?_
    refine r_iaload iL_law_676 (hs1) (i1) (v1) ?_
    refine r_aload iL_law_677 rfl ?_
    refine r_iload iL_law_678 rfl ?_
    refine r_iconst (v := 2) iL_law_679 rfl ?_
    refine r_iadd iL_law_680 ?_
    refine r_iaload iL_law_681 (hs1) (i2) (v2) ?_
    refine r_aload iL_law_682 rfl ?_
    refine r_iload iL_law_683 rfl ?_
    refine r_iconst (v := 3) iL_law_684 rfl ?_
    refine r_iadd iL_law_685 ?_
    refine r_iaload iL_law_686 (hs1) (i3) (v3) ?_
    refine r_if_eq iL_law_687 (fun _ => ?_) (fun g9 => absurd (g) g9)
    refine r_iconst (v := 0) iL_law_694 rfl ?_
    refine r_callV iL_law_695 (cL_90 _ rfl) (C7 _ _ hX1) (by omega) (o71) rfl rfl rfl (Nat.le_of_ble_eq_true rfl) (by first | exact Nat.le_of_ble_eq_true rfl | omega) (by first | exact Nat.le_of_ble_eq_true rfl | omega) ?_
    rintro v h2 z2 ⟨rfl, rfl, HR2⟩
    refine r_icmp_eq iL_law_698 (fun _ => ?_) (fun g9 => absurd (rfl) g9)
    exact K h2 HR2
  case neg =>
    obtain ⟨r, X, ⟨q, rfl⟩, hX, C6, C7⟩ := step_alone _ (xs (i + 1)) (xs (i + 2)) 1 h z HR
    refine r_aload iL_law_644 rfl ?_
    refine r_aload iL_law_645 rfl ?_
    refine r_iload iL_law_646 rfl ?_
    refine r_iconst (v := 1) iL_law_647 rfl ?_
    refine r_iadd iL_law_648 ?_
    refine r_iaload iL_law_649 (hs) (i1) (v1) ?_
    refine r_aload iL_law_650 rfl ?_
    refine r_iload iL_law_651 rfl ?_
    refine r_iconst (v := 2) iL_law_652 rfl ?_
    refine r_iadd iL_law_653 ?_
    refine r_iaload iL_law_654 (hs) (i2) (v2) ?_
    refine r_aload iL_law_655 rfl ?_
    refine r_iload iL_law_656 rfl ?_
    refine r_iconst (v := 3) iL_law_657 rfl ?_
    refine r_iadd iL_law_658 ?_
    refine r_iaload iL_law_659 (hs) (i3) (v3) ?_
    refine r_if_eq iL_law_660 (fun g9 => absurd g9 (g)) (fun _ => ?_)
    refine r_iconst (v := 1) iL_law_663 rfl ?_
    refine r_goto iL_law_664 ?_
    refine r_callV iL_law_668 (cL_86 _ rfl) (C6) (by omega) (o6) rfl rfl rfl (Nat.le_of_ble_eq_true rfl) (by first | exact Nat.le_of_ble_eq_true rfl | omega) (by first | exact Nat.le_of_ble_eq_true rfl | omega) ?_
    rintro v h1 z1 ⟨rfl, rfl, hX1⟩
    have hs1 : h1 0 = some (scr L xs) := (hX h1 hX1 0 (by omega)).trans hs
    have o71 : h1 152 = some (.inr (6, f7)) := (hX h1 hX1 152 (by omega)).trans o7
    refine r_aload iL_law_671 rfl ?_
    refine r_aload iL_law_672 rfl ?_
    refine r_iload iL_law_673 rfl ?_
    refine r_iconst (v := 1) iL_law_674 rfl ?_
    refine r_iadd iL_law_675 ?_
    refine r_iaload iL_law_676 (hs1) (i1) (v1) ?_
    refine r_aload iL_law_677 rfl ?_
    refine r_iload iL_law_678 rfl ?_
    refine r_iconst (v := 2) iL_law_679 rfl ?_
    refine r_iadd iL_law_680 ?_
    refine r_iaload iL_law_681 (hs1) (i2) (v2) ?_
    refine r_aload iL_law_682 rfl ?_
    refine r_iload iL_law_683 rfl ?_
    refine r_iconst (v := 3) iL_law_684 rfl ?_
    refine r_iadd iL_law_685 ?_
    refine r_iaload iL_law_686 (hs1) (i3) (v3) ?_
    refine r_if_eq iL_law_687 (fun g9 => absurd g9 (g)) (fun _ => ?_)
    refine r_iconst (v := 1) iL_law_690 rfl ?_
    refine r_goto iL_law_691 ?_
    refine r_callV iL_law_695 (cL_90 _ rfl) (C7 _ _ hX1) (by omega) (o71) rfl rfl rfl (Nat.le_of_ble_eq_true rfl) (by first | exact Nat.le_of_ble_eq_true rfl | omega) (by first | exact Nat.le_of_ble_eq_true rfl | omega) ?_
    rintro v h2 z2 ⟨rfl, rfl, HR2⟩
    refine r_icmp_eq iL_law_698 (fun _ => ?_) (fun g9 => absurd (rfl) g9)
    exact K h2 HR2
theorem lw_sheets {L i : Nat} {xs : Nat → Int32} {h : Hp} {z : Nat} (hL : L ≤ 256) (hi : i + 4 ≤ L) (HR : Rel (scr L xs) h) (K : ∀ h', Rel (scr L xs) h' → LR 882 i [] h' z 161 3865) : LR 703 i [] h z 161 3865 := by
  have hs := HR.scr
  obtain ⟨f6, o6⟩ := HR.o6
  obtain ⟨f7, o7⟩ := HR.o7
  have i1 : vp_in (nI i + 1) L := lw_in 1 hL hi (by omega)
  have v1 : (fun j => Value.int (xs j)) (nI i + 1).toNatClampNeg = .int (xs (i + 1)) := lw_v xs 1 hL hi (by omega)
  have i2 : vp_in (nI i + 2) L := lw_in 2 hL hi (by omega)
  have v2 : (fun j => Value.int (xs j)) (nI i + 2).toNatClampNeg = .int (xs (i + 2)) := lw_v xs 2 hL hi (by omega)
  have i3 : vp_in (nI i + 3) L := lw_in 3 hL hi (by omega)
  have v3 : (fun j => Value.int (xs j)) (nI i + 3).toNatClampNeg = .int (xs (i + 3)) := lw_v xs 3 hL hi (by omega)
  obtain ⟨r, X, ⟨q, rfl⟩, hX, C6, C7⟩ := step_sheets _ (xs (i + 1)) (xs (i + 2)) (xs (i + 3)) h z HR
  refine r_aload iL_law_703 rfl ?_
  refine r_aload iL_law_704 rfl ?_
  refine r_iload iL_law_705 rfl ?_
  refine r_iconst (v := 1) iL_law_706 rfl ?_
  refine r_iadd iL_law_707 ?_
  refine r_iaload iL_law_708 (hs) (i1) (v1) ?_
  refine r_aload iL_law_709 rfl ?_
  refine r_iload iL_law_710 rfl ?_
  refine r_iconst (v := 2) iL_law_711 rfl ?_
  refine r_iadd iL_law_712 ?_
  refine r_iaload iL_law_713 (hs) (i2) (v2) ?_
  refine r_aload iL_law_714 rfl ?_
  refine r_iload iL_law_715 rfl ?_
  refine r_iconst (v := 3) iL_law_716 rfl ?_
  refine r_iadd iL_law_717 ?_
  refine r_iaload iL_law_718 (hs) (i3) (v3) ?_
  refine r_callV iL_law_719 (cL_91 _ rfl) (C6) (by omega) (o6) rfl rfl rfl (Nat.le_of_ble_eq_true rfl) (by first | exact Nat.le_of_ble_eq_true rfl | omega) (by first | exact Nat.le_of_ble_eq_true rfl | omega) ?_
  rintro v h1 z1 ⟨rfl, rfl, hX1⟩
  have hs1 : h1 0 = some (scr L xs) := (hX h1 hX1 0 (by omega)).trans hs
  have o71 : h1 152 = some (.inr (6, f7)) := (hX h1 hX1 152 (by omega)).trans o7
  refine r_aload iL_law_722 rfl ?_
  refine r_aload iL_law_723 rfl ?_
  refine r_iload iL_law_724 rfl ?_
  refine r_iconst (v := 1) iL_law_725 rfl ?_
  refine r_iadd iL_law_726 ?_
  refine r_iaload iL_law_727 (hs1) (i1) (v1) ?_
  refine r_aload iL_law_728 rfl ?_
  refine r_iload iL_law_729 rfl ?_
  refine r_iconst (v := 2) iL_law_730 rfl ?_
  refine r_iadd iL_law_731 ?_
  refine r_iaload iL_law_732 (hs1) (i2) (v2) ?_
  refine r_aload iL_law_733 rfl ?_
  refine r_iload iL_law_734 rfl ?_
  refine r_iconst (v := 3) iL_law_735 rfl ?_
  refine r_iadd iL_law_736 ?_
  refine r_iaload iL_law_737 (hs1) (i3) (v3) ?_
  refine r_callV iL_law_738 (cL_95 _ rfl) (C7 _ _ hX1) (by omega) (o71) rfl rfl rfl (Nat.le_of_ble_eq_true rfl) (by first | exact Nat.le_of_ble_eq_true rfl | omega) (by first | exact Nat.le_of_ble_eq_true rfl | omega) ?_
  rintro v h2 z2 ⟨rfl, rfl, HR2⟩
  refine r_icmp_eq iL_law_741 (fun _ => ?_) (fun g9 => absurd (rfl) g9)
  exact K h2 HR2
theorem lw_seed {L i : Nat} {xs : Nat → Int32} {h : Hp} {z : Nat} (hL : L ≤ 256) (hi : i + 4 ≤ L) (HR : Rel (scr L xs) h) (K : ∀ h', Rel (scr L xs) h' → LR 882 i [] h' z 161 3865) : LR 746 i [] h z 161 3865 := by
  have hs := HR.scr
  obtain ⟨f6, o6⟩ := HR.o6
  obtain ⟨f7, o7⟩ := HR.o7
  have i1 : vp_in (nI i + 1) L := lw_in 1 hL hi (by omega)
  have v1 : (fun j => Value.int (xs j)) (nI i + 1).toNatClampNeg = .int (xs (i + 1)) := lw_v xs 1 hL hi (by omega)
  have i2 : vp_in (nI i + 2) L := lw_in 2 hL hi (by omega)
  have v2 : (fun j => Value.int (xs j)) (nI i + 2).toNatClampNeg = .int (xs (i + 2)) := lw_v xs 2 hL hi (by omega)
  have i3 : vp_in (nI i + 3) L := lw_in 3 hL hi (by omega)
  have v3 : (fun j => Value.int (xs j)) (nI i + 3).toNatClampNeg = .int (xs (i + 3)) := lw_v xs 3 hL hi (by omega)
  obtain ⟨r, X, ⟨q, rfl⟩, hX, C6, C7⟩ := step_seed _ (lng (xs (i + 1)) (xs (i + 2))) h z HR
  refine r_aload iL_law_746 rfl ?_
  refine r_aload iL_law_747 rfl ?_
  refine r_iload iL_law_748 rfl ?_
  refine r_iconst (v := 1) iL_law_749 rfl ?_
  refine r_iadd iL_law_750 ?_
  refine r_iaload iL_law_751 (hs) (i1) (v1) ?_
  refine r_i2l iL_law_752 ?_
  refine r_bipush (v := 32) iL_law_753 rfl ?_
  refine r_lshl iL_law_755 ?_
  refine r_aload iL_law_756 rfl ?_
  refine r_iload iL_law_757 rfl ?_
  refine r_iconst (v := 2) iL_law_758 rfl ?_
  refine r_iadd iL_law_759 ?_
  refine r_iaload iL_law_760 (hs) (i2) (v2) ?_
  refine r_i2l iL_law_761 ?_
  refine r_ldc2 (v := 4294967295) iL_law_762 (gt_4 27 rfl rfl) ?_
  refine r_land iL_law_765 ?_
  refine r_lor iL_law_766 ?_
  refine r_callV iL_law_767 (cL_96 _ rfl) (C6) (by omega) (o6) rfl rfl rfl (Nat.le_of_ble_eq_true rfl) (by first | exact Nat.le_of_ble_eq_true rfl | omega) (by first | exact Nat.le_of_ble_eq_true rfl | omega) ?_
  rintro v h1 z1 ⟨rfl, rfl, hX1⟩
  have hs1 : h1 0 = some (scr L xs) := (hX h1 hX1 0 (by omega)).trans hs
  have o71 : h1 152 = some (.inr (6, f7)) := (hX h1 hX1 152 (by omega)).trans o7
  refine r_aload iL_law_770 rfl ?_
  refine r_aload iL_law_771 rfl ?_
  refine r_iload iL_law_772 rfl ?_
  refine r_iconst (v := 1) iL_law_773 rfl ?_
  refine r_iadd iL_law_774 ?_
  refine r_iaload iL_law_775 (hs1) (i1) (v1) ?_
  refine r_i2l iL_law_776 ?_
  refine r_bipush (v := 32) iL_law_777 rfl ?_
  refine r_lshl iL_law_779 ?_
  refine r_aload iL_law_780 rfl ?_
  refine r_iload iL_law_781 rfl ?_
  refine r_iconst (v := 2) iL_law_782 rfl ?_
  refine r_iadd iL_law_783 ?_
  refine r_iaload iL_law_784 (hs1) (i2) (v2) ?_
  refine r_i2l iL_law_785 ?_
  refine r_ldc2 (v := 4294967295) iL_law_786 (gt_4 27 rfl rfl) ?_
  refine r_land iL_law_789 ?_
  refine r_lor iL_law_790 ?_
  refine r_callV iL_law_791 (cL_100 _ rfl) (C7 _ _ hX1) (by omega) (o71) rfl rfl rfl (Nat.le_of_ble_eq_true rfl) (by first | exact Nat.le_of_ble_eq_true rfl | omega) (by first | exact Nat.le_of_ble_eq_true rfl | omega) ?_
  rintro v h2 z2 ⟨rfl, rfl, HR2⟩
  refine r_lcmp iL_law_794 ?_
  refine r_if_eq iL_law_795 (fun _ => ?_) (fun g9 => absurd ((lg_cmp_eq _ _).mpr rfl) g9)
  exact K h2 HR2
theorem lw_fair {L i : Nat} {xs : Nat → Int32} {h : Hp} {z : Nat} (hL : L ≤ 256) (hi : i + 4 ≤ L) (HR : Rel (scr L xs) h) (K : ∀ h', Rel (scr L xs) h' → LR 882 i [] h' z 161 3865) : LR 800 i [] h z 161 3865 := by
  have hs := HR.scr
  obtain ⟨f6, o6⟩ := HR.o6
  obtain ⟨f7, o7⟩ := HR.o7
  have i1 : vp_in (nI i + 1) L := lw_in 1 hL hi (by omega)
  have v1 : (fun j => Value.int (xs j)) (nI i + 1).toNatClampNeg = .int (xs (i + 1)) := lw_v xs 1 hL hi (by omega)
  have i2 : vp_in (nI i + 2) L := lw_in 2 hL hi (by omega)
  have v2 : (fun j => Value.int (xs j)) (nI i + 2).toNatClampNeg = .int (xs (i + 2)) := lw_v xs 2 hL hi (by omega)
  have i3 : vp_in (nI i + 3) L := lw_in 3 hL hi (by omega)
  have v3 : (fun j => Value.int (xs j)) (nI i + 3).toNatClampNeg = .int (xs (i + 3)) := lw_v xs 3 hL hi (by omega)
  obtain ⟨r, X, ⟨q, rfl⟩, hX, C6, C7⟩ := step_fair _  h z HR
  refine r_aload iL_law_800 rfl ?_
  refine r_callV iL_law_801 (cL_101 _ rfl) (C6) (by omega) (o6) rfl rfl rfl (Nat.le_of_ble_eq_true rfl) (by first | exact Nat.le_of_ble_eq_true rfl | omega) (by first | exact Nat.le_of_ble_eq_true rfl | omega) ?_
  rintro v h1 z1 ⟨rfl, rfl, hX1⟩
  have hs1 : h1 0 = some (scr L xs) := (hX h1 hX1 0 (by omega)).trans hs
  have o71 : h1 152 = some (.inr (6, f7)) := (hX h1 hX1 152 (by omega)).trans o7
  refine r_aload iL_law_804 rfl ?_
  refine r_callV iL_law_805 (cL_104 _ rfl) (C7 _ _ hX1) (by omega) (o71) rfl rfl rfl (Nat.le_of_ble_eq_true rfl) (by first | exact Nat.le_of_ble_eq_true rfl | omega) (by first | exact Nat.le_of_ble_eq_true rfl | omega) ?_
  rintro v h2 z2 ⟨rfl, rfl, HR2⟩
  refine r_icmp_eq iL_law_808 (fun _ => ?_) (fun g9 => absurd (rfl) g9)
  exact K h2 HR2
theorem lw_keep {L i : Nat} {xs : Nat → Int32} {h : Hp} {z : Nat} (hL : L ≤ 256) (hi : i + 4 ≤ L) (HR : Rel (scr L xs) h) (K : ∀ h', Rel (scr L xs) h' → LR 882 i [] h' z 161 3865) : LR 813 i [] h z 161 3865 := by
  have hs := HR.scr
  obtain ⟨f6, o6⟩ := HR.o6
  obtain ⟨f7, o7⟩ := HR.o7
  have i1 : vp_in (nI i + 1) L := lw_in 1 hL hi (by omega)
  have v1 : (fun j => Value.int (xs j)) (nI i + 1).toNatClampNeg = .int (xs (i + 1)) := lw_v xs 1 hL hi (by omega)
  have i2 : vp_in (nI i + 2) L := lw_in 2 hL hi (by omega)
  have v2 : (fun j => Value.int (xs j)) (nI i + 2).toNatClampNeg = .int (xs (i + 2)) := lw_v xs 2 hL hi (by omega)
  have i3 : vp_in (nI i + 3) L := lw_in 3 hL hi (by omega)
  have v3 : (fun j => Value.int (xs j)) (nI i + 3).toNatClampNeg = .int (xs (i + 3)) := lw_v xs 3 hL hi (by omega)
  obtain ⟨r, X, ⟨q, rfl⟩, hX, C6, C7⟩ := step_keep _ (xs (i + 1)) h z HR
  refine r_aload iL_law_813 rfl ?_
  refine r_aload iL_law_814 rfl ?_
  refine r_iload iL_law_815 rfl ?_
  refine r_iconst (v := 1) iL_law_816 rfl ?_
  refine r_iadd iL_law_817 ?_
  refine r_iaload iL_law_818 (hs) (i1) (v1) ?_
  refine r_callV iL_law_819 (cL_105 _ rfl) (C6) (by omega) (o6) rfl rfl rfl (Nat.le_of_ble_eq_true rfl) (by first | exact Nat.le_of_ble_eq_true rfl | omega) (by first | exact Nat.le_of_ble_eq_true rfl | omega) ?_
  rintro v h1 z1 ⟨rfl, rfl, hX1⟩
  have hs1 : h1 0 = some (scr L xs) := (hX h1 hX1 0 (by omega)).trans hs
  have o71 : h1 152 = some (.inr (6, f7)) := (hX h1 hX1 152 (by omega)).trans o7
  refine r_aload iL_law_822 rfl ?_
  refine r_aload iL_law_823 rfl ?_
  refine r_iload iL_law_824 rfl ?_
  refine r_iconst (v := 1) iL_law_825 rfl ?_
  refine r_iadd iL_law_826 ?_
  refine r_iaload iL_law_827 (hs1) (i1) (v1) ?_
  refine r_callV iL_law_828 (cL_108 _ rfl) (C7 _ _ hX1) (by omega) (o71) rfl rfl rfl (Nat.le_of_ble_eq_true rfl) (by first | exact Nat.le_of_ble_eq_true rfl | omega) (by first | exact Nat.le_of_ble_eq_true rfl | omega) ?_
  rintro v h2 z2 ⟨rfl, rfl, HR2⟩
  refine r_icmp_eq iL_law_831 (fun _ => ?_) (fun g9 => absurd (rfl) g9)
  exact K h2 HR2
theorem lw_again {L i : Nat} {xs : Nat → Int32} {h : Hp} {z : Nat} (hL : L ≤ 256) (hi : i + 4 ≤ L) (HR : Rel (scr L xs) h) (K : ∀ h', Rel (scr L xs) h' → LR 882 i [] h' z 161 3865) : LR 836 i [] h z 161 3865 := by
  have hs := HR.scr
  obtain ⟨f6, o6⟩ := HR.o6
  obtain ⟨f7, o7⟩ := HR.o7
  have i1 : vp_in (nI i + 1) L := lw_in 1 hL hi (by omega)
  have v1 : (fun j => Value.int (xs j)) (nI i + 1).toNatClampNeg = .int (xs (i + 1)) := lw_v xs 1 hL hi (by omega)
  have i2 : vp_in (nI i + 2) L := lw_in 2 hL hi (by omega)
  have v2 : (fun j => Value.int (xs j)) (nI i + 2).toNatClampNeg = .int (xs (i + 2)) := lw_v xs 2 hL hi (by omega)
  have i3 : vp_in (nI i + 3) L := lw_in 3 hL hi (by omega)
  have v3 : (fun j => Value.int (xs j)) (nI i + 3).toNatClampNeg = .int (xs (i + 3)) := lw_v xs 3 hL hi (by omega)
  obtain ⟨r, X, ⟨q, rfl⟩, hX, C6, C7⟩ := step_again _ (xs (i + 1)) h z HR
  refine r_aload iL_law_836 rfl ?_
  refine r_aload iL_law_837 rfl ?_
  refine r_iload iL_law_838 rfl ?_
  refine r_iconst (v := 1) iL_law_839 rfl ?_
  refine r_iadd iL_law_840 ?_
  refine r_iaload iL_law_841 (hs) (i1) (v1) ?_
  refine r_callV iL_law_842 (cL_109 _ rfl) (C6) (by omega) (o6) rfl rfl rfl (Nat.le_of_ble_eq_true rfl) (by first | exact Nat.le_of_ble_eq_true rfl | omega) (by first | exact Nat.le_of_ble_eq_true rfl | omega) ?_
  rintro v h1 z1 ⟨rfl, rfl, hX1⟩
  have hs1 : h1 0 = some (scr L xs) := (hX h1 hX1 0 (by omega)).trans hs
  have o71 : h1 152 = some (.inr (6, f7)) := (hX h1 hX1 152 (by omega)).trans o7
  refine r_aload iL_law_845 rfl ?_
  refine r_aload iL_law_846 rfl ?_
  refine r_iload iL_law_847 rfl ?_
  refine r_iconst (v := 1) iL_law_848 rfl ?_
  refine r_iadd iL_law_849 ?_
  refine r_iaload iL_law_850 (hs1) (i1) (v1) ?_
  refine r_callV iL_law_851 (cL_112 _ rfl) (C7 _ _ hX1) (by omega) (o71) rfl rfl rfl (Nat.le_of_ble_eq_true rfl) (by first | exact Nat.le_of_ble_eq_true rfl | omega) (by first | exact Nat.le_of_ble_eq_true rfl | omega) ?_
  rintro v h2 z2 ⟨rfl, rfl, HR2⟩
  refine r_icmp_eq iL_law_854 (fun _ => ?_) (fun g9 => absurd (rfl) g9)
  exact K h2 HR2
theorem lw_count {L i : Nat} {xs : Nat → Int32} {h : Hp} {z : Nat} (hL : L ≤ 256) (hi : i + 4 ≤ L) (HR : Rel (scr L xs) h) (K : ∀ h', Rel (scr L xs) h' → LR 882 i [] h' z 161 3865) : LR 859 i [] h z 161 3865 := by
  have hs := HR.scr
  obtain ⟨f6, o6⟩ := HR.o6
  obtain ⟨f7, o7⟩ := HR.o7
  have i1 : vp_in (nI i + 1) L := lw_in 1 hL hi (by omega)
  have v1 : (fun j => Value.int (xs j)) (nI i + 1).toNatClampNeg = .int (xs (i + 1)) := lw_v xs 1 hL hi (by omega)
  have i2 : vp_in (nI i + 2) L := lw_in 2 hL hi (by omega)
  have v2 : (fun j => Value.int (xs j)) (nI i + 2).toNatClampNeg = .int (xs (i + 2)) := lw_v xs 2 hL hi (by omega)
  have i3 : vp_in (nI i + 3) L := lw_in 3 hL hi (by omega)
  have v3 : (fun j => Value.int (xs j)) (nI i + 3).toNatClampNeg = .int (xs (i + 3)) := lw_v xs 3 hL hi (by omega)
  obtain ⟨r, X, ⟨q, rfl⟩, hX, C6, C7⟩ := step_count _ (xs (i + 1)) h z HR
  refine r_aload iL_law_859 rfl ?_
  refine r_aload iL_law_860 rfl ?_
  refine r_iload iL_law_861 rfl ?_
  refine r_iconst (v := 1) iL_law_862 rfl ?_
  refine r_iadd iL_law_863 ?_
  refine r_iaload iL_law_864 (hs) (i1) (v1) ?_
  refine r_callV iL_law_865 (cL_113 _ rfl) (C6) (by omega) (o6) rfl rfl rfl (Nat.le_of_ble_eq_true rfl) (by first | exact Nat.le_of_ble_eq_true rfl | omega) (by first | exact Nat.le_of_ble_eq_true rfl | omega) ?_
  rintro v h1 z1 ⟨rfl, rfl, hX1⟩
  have hs1 : h1 0 = some (scr L xs) := (hX h1 hX1 0 (by omega)).trans hs
  have o71 : h1 152 = some (.inr (6, f7)) := (hX h1 hX1 152 (by omega)).trans o7
  refine r_aload iL_law_868 rfl ?_
  refine r_aload iL_law_869 rfl ?_
  refine r_iload iL_law_870 rfl ?_
  refine r_iconst (v := 1) iL_law_871 rfl ?_
  refine r_iadd iL_law_872 ?_
  refine r_iaload iL_law_873 (hs1) (i1) (v1) ?_
  refine r_callV iL_law_874 (cL_116 _ rfl) (C7 _ _ hX1) (by omega) (o71) rfl rfl rfl (Nat.le_of_ble_eq_true rfl) (by first | exact Nat.le_of_ble_eq_true rfl | omega) (by first | exact Nat.le_of_ble_eq_true rfl | omega) ?_
  rintro v h2 z2 ⟨rfl, rfl, HR2⟩
  refine r_icmp_eq iL_law_877 (fun _ => ?_) (fun g9 => absurd (rfl) g9)
  exact K h2 HR2
