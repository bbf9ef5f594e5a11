theorem neww_L_X6 : Cond.classLink RL 7 RX6 ∈ GW ∧ Cond.instantiable RX6 9 ∈ GW ∧ Cond.initialized RX6 ∈ GW ∧ (∀ w ∈ u_ws RX6 TX6 9, w ∈ GW) := ⟨(gt_1 11 rfl rfl), (gt_1 12 rfl rfl), (gt_1 1 rfl rfl), gwc_X6⟩
theorem objw_X6 : Cond.methodLink RX6 3 objectInit ∈ GW ∧ Cond.instanceMethod objectInit ∈ GW ∧ Cond.code objectInit ⟨#[0xb1]⟩ 1 none ∈ GW := ⟨(gt_1 16 rfl rfl), (gt_1 17 rfl rfl), (gt_1 18 rfl rfl)⟩
theorem neww_X6_X4 : Cond.classLink RX6 9 RX4 ∈ GW ∧ Cond.instantiable RX4 2 ∈ GW ∧ Cond.initialized RX4 ∈ GW ∧ (∀ w ∈ u_ws RX4 TX4 2, w ∈ GW) := ⟨(gt_1 19 rfl rfl), (gt_1 20 rfl rfl), (gt_1 2 rfl rfl), gwc_X4⟩
theorem objw_X4 : Cond.methodLink RX4 3 objectInit ∈ GW ∧ Cond.instanceMethod objectInit ∈ GW ∧ Cond.code objectInit ⟨#[0xb1]⟩ 1 none ∈ GW := ⟨(gt_1 24 rfl rfl), (gt_1 17 rfl rfl), (gt_1 18 rfl rfl)⟩
theorem neww_X6_X2 : Cond.classLink RX6 16 RX2 ∈ GW ∧ Cond.instantiable RX2 4 ∈ GW ∧ Cond.initialized RX2 ∈ GW ∧ (∀ w ∈ u_ws RX2 TX2 4, w ∈ GW) := ⟨(gt_1 34 rfl rfl), (gt_1 35 rfl rfl), (gt_1 3 rfl rfl), gwc_X2⟩
theorem objw_X2 : Cond.methodLink RX2 3 objectInit ∈ GW ∧ Cond.instanceMethod objectInit ∈ GW ∧ Cond.code objectInit ⟨#[0xb1]⟩ 1 none ∈ GW := ⟨(gt_1 39 rfl rfl), (gt_1 17 rfl rfl), (gt_1 18 rfl rfl)⟩
theorem neww_X2_X5 : Cond.classLink RX2 9 RX5 ∈ GW ∧ Cond.instantiable RX5 9 ∈ GW ∧ Cond.initialized RX5 ∈ GW ∧ (∀ w ∈ u_ws RX5 TX5 9, w ∈ GW) := ⟨(gt_1 40 rfl rfl), (gt_1 42 rfl rfl), (gt_1 4 rfl rfl), gwc_X5⟩
theorem objw_X5 : Cond.methodLink RX5 3 objectInit ∈ GW ∧ Cond.instanceMethod objectInit ∈ GW ∧ Cond.code objectInit ⟨#[0xb1]⟩ 1 none ∈ GW := ⟨(gt_1 46 rfl rfl), (gt_1 17 rfl rfl), (gt_1 18 rfl rfl)⟩
theorem neww_X6_X0 : Cond.classLink RX6 26 RX0 ∈ GW ∧ Cond.instantiable RX0 3 ∈ GW ∧ Cond.initialized RX0 ∈ GW ∧ (∀ w ∈ u_ws RX0 TX0 3, w ∈ GW) := ⟨(gt_1 102 rfl rfl), (gt_1 103 rfl rfl), (gt_1 5 rfl rfl), gwc_X0⟩
theorem objw_X0 : Cond.methodLink RX0 3 objectInit ∈ GW ∧ Cond.instanceMethod objectInit ∈ GW ∧ Cond.code objectInit ⟨#[0xb1]⟩ 1 none ∈ GW := ⟨(gt_1 107 rfl rfl), (gt_1 17 rfl rfl), (gt_1 18 rfl rfl)⟩
theorem neww_X0_X2 : Cond.classLink RX0 9 RX2 ∈ GW ∧ Cond.instantiable RX2 4 ∈ GW ∧ Cond.initialized RX2 ∈ GW ∧ (∀ w ∈ u_ws RX2 TX2 4, w ∈ GW) := ⟨(gt_1 108 rfl rfl), (gt_1 35 rfl rfl), (gt_1 3 rfl rfl), gwc_X2⟩
theorem neww_X6_X5 : Cond.classLink RX6 41 RX5 ∈ GW ∧ Cond.instantiable RX5 9 ∈ GW ∧ Cond.initialized RX5 ∈ GW ∧ (∀ w ∈ u_ws RX5 TX5 9, w ∈ GW) := ⟨(gt_1 122 rfl rfl), (gt_1 42 rfl rfl), (gt_1 4 rfl rfl), gwc_X5⟩
theorem neww_X6_X3 : Cond.classLink RX6 48 RX3 ∈ GW ∧ Cond.instantiable RX3 2 ∈ GW ∧ Cond.initialized RX3 ∈ GW ∧ (∀ w ∈ u_ws RX3 TX3 2, w ∈ GW) := ⟨(gt_1 124 rfl rfl), (gt_1 125 rfl rfl), (gt_1 6 rfl rfl), gwc_X3⟩
theorem objw_X3 : Cond.methodLink RX3 3 objectInit ∈ GW ∧ Cond.instanceMethod objectInit ∈ GW ∧ Cond.code objectInit ⟨#[0xb1]⟩ 1 none ∈ GW := ⟨(gt_1 129 rfl rfl), (gt_1 17 rfl rfl), (gt_1 18 rfl rfl)⟩
theorem neww_L_X7 : Cond.classLink RL 10 RX7 ∈ GW ∧ Cond.instantiable RX7 17 ∈ GW ∧ Cond.initialized RX7 ∈ GW ∧ (∀ w ∈ u_ws RX7 TX7 17, w ∈ GW) := ⟨(gt_3 1 rfl rfl), (gt_3 2 rfl rfl), (gt_1 7 rfl rfl), gwc_X7⟩
theorem objw_X7 : Cond.methodLink RX7 1 objectInit ∈ GW ∧ Cond.instanceMethod objectInit ∈ GW ∧ Cond.code objectInit ⟨#[0xb1]⟩ 1 none ∈ GW := ⟨(gt_3 6 rfl rfl), (gt_1 17 rfl rfl), (gt_1 18 rfl rfl)⟩
theorem r_putO {M : MD} {d mc ms pc pc' z k n : Nat} {Q : Option Value → Hp → Nat → Prop} {L S : List Value} {h : Hp} {idx ci j a : Nat} {fs : List Value} {v : Value} {ty : FieldType} (hi : Ins M pc (.putfield idx) 3 pc') (hl : FP M idx ci j ty) (ha : 2 ≤ a) (hlen : j < fs.length) (hfit : fitV ty v) (K : R M d mc ms Q pc' L S (hset h a (.inr (ci, fs.set j v))) z k n) : R M d mc ms Q pc L (v :: .ref a :: S) (hset h a (.inr (ci, fs))) z k n := r_putfield hi hl ha (hset_eq _ _ _) hlen hfit (by rw [hset_hset]; exact K)
theorem nI_inc (p : Nat) : nI p + Int32.ofInt 1 = nI (p + 1) := (nI_succ p).symm
def imax (x y : Int32) : Int32 := if x < y then y else x
def imin (x y : Int32) : Int32 := if y < x then y else x
def lmax (x y : Int64) : Int64 := if y < x then x else y
theorem r_mmax {M : MD} {d mc ms pc pc' z k n : Nat} {Q : Option Value → Hp → Nat → Prop} {L S : List Value} {h : Hp} {idx : Nat} {x y : Int32} (hi : Ins M pc (.invokestatic idx) 3 pc') (hc : CS M idx MJ9_max_7cf53 2) (hd1 : 1 ≤ d) (hS8 : (S.map fun v => v.category).sum ≤ 8) (K : R M d mc ms Q pc' L (.int (imax x y) :: S) h z k n) : R M d mc ms Q pc L (.int y :: .int x :: S) h z k n := by
  intro p l e Rm s m args below meth c E Qf O H locs ls hH hS hL hk hn
  obtain ⟨hx, hb, hml, hown, hts, hrm, hin, hK, hZ, hX, hB, hRC⟩ := id O
  obtain ⟨hd, rfl⟩ := hi
  obtain ⟨⟨w1, w2, w3, w5⟩, hd3, hm29⟩ := hc
  have hc8 := catS (E := E) hS8
  exact va_mmax hx hb (by rw [hml]; exact hL.1.symm) hown (hts _ w1) (hts _ w2) (hts _ w3) (hts _ w5) (by omega) (by omega) (by omega) (by omega) hd (K p l e Rm s m args below meth c E Qf O H locs ls hH hS hL hk hn)
theorem r_mmin {M : MD} {d mc ms pc pc' z k n : Nat} {Q : Option Value → Hp → Nat → Prop} {L S : List Value} {h : Hp} {idx : Nat} {x y : Int32} (hi : Ins M pc (.invokestatic idx) 3 pc') (hc : CS M idx MJ9_min_7cf53 2) (hd1 : 1 ≤ d) (hS8 : (S.map fun v => v.category).sum ≤ 8) (K : R M d mc ms Q pc' L (.int (imin x y) :: S) h z k n) : R M d mc ms Q pc L (.int y :: .int x :: S) h z k n := by
  intro p l e Rm s m args below meth c E Qf O H locs ls hH hS hL hk hn
  obtain ⟨hx, hb, hml, hown, hts, hrm, hin, hK, hZ, hX, hB, hRC⟩ := id O
  obtain ⟨hd, rfl⟩ := hi
  obtain ⟨⟨w1, w2, w3, w5⟩, hd3, hm29⟩ := hc
  have hc8 := catS (E := E) hS8
  exact va_mmin hx hb (by rw [hml]; exact hL.1.symm) hown (hts _ w1) (hts _ w2) (hts _ w3) (hts _ w5) (by omega) (by omega) (by omega) (by omega) hd (K p l e Rm s m args below meth c E Qf O H locs ls hH hS hL hk hn)
theorem r_mmaxL {M : MD} {d mc ms pc pc' z k n : Nat} {Q : Option Value → Hp → Nat → Prop} {L S : List Value} {h : Hp} {idx : Nat} {x y : Int64} (hi : Ins M pc (.invokestatic idx) 3 pc') (hc : CS M idx MJ9_max_f86c9 2) (hd1 : 1 ≤ d) (hS8 : (S.map fun v => v.category).sum ≤ 8) (K : R M d mc ms Q pc' L (.long (lmax x y) :: S) h z k n) : R M d mc ms Q pc L (.long y :: .long x :: S) h z k n := by
  intro p l e Rm s m args below meth c E Qf O H locs ls hH hS hL hk hn
  obtain ⟨hx, hb, hml, hown, hts, hrm, hin, hK, hZ, hX, hB, hRC⟩ := id O
  obtain ⟨hd, rfl⟩ := hi
  obtain ⟨⟨w1, w2, w3, w5⟩, hd3, hm29⟩ := hc
  have hc8 := catS (E := E) hS8
  exact va_mmax_long hx hb (by rw [hml]; exact hL.1.symm) hown (hts _ w1) (hts _ w2) (hts _ w3) (hts _ w5) (by omega) (by omega) (by omega) (by omega) hd (K p l e Rm s m args below meth c E Qf O H locs ls hH hS hL hk hn)
theorem r_copy {M : MD} {d mc ms pc pc' z k n : Nat} {Q : Option Value → Hp → Nat → Prop} {L S : List Value} {h : Hp} {idx a0 a1 w : Nat} {f g : Nat → Value} {nw : Int32} (hi : Ins M pc (.invokestatic idx) 3 pc') (hw : Cond.methodLink M.1.cls idx arraycopyName ∈ GW ∧ Cond.native arraycopyName ∈ GW ∧ Cond.static arraycopyName ∈ GW ∧ Cond.initialized "java/lang/System" ∈ GW) (hd1 : 1 ≤ d) (ha0 : 2 ≤ a0) (ha : 2 ≤ a1) (hh0 : h a0 = some (.inl (.int, w, f))) (hh1 : h a1 = some (.inl (.int, w, g))) (hfi : ∀ i, i < w → ∃ x, f i = .int x) (hw31 : w < 2 ^ 31) (hnw : nw = nI w) (hS8 : (S.map fun v => v.category).sum ≤ 8) (K : R M d mc ms Q pc' L S (hset h a1 (.inl (.int, w, va_cpy f g 0 0 w))) z k n) : R M d mc ms Q pc L (.int nw :: .int 0 :: .ref a1 :: .int 0 :: .ref a0 :: S) h z k n := by
  intro p l e Rm s m args below meth c E Qf O H locs ls hH hS hL hk hn
  obtain ⟨hx, hb, hml, hown, hts, hrm, hin, hK, hZ, hX, hB, hRC⟩ := id O
  obtain ⟨hd, rfl⟩ := hi
  subst hnw
  obtain ⟨w1, w2, w3, w4⟩ := hw
  have hc8 := catS (E := E) hS8
  obtain ⟨-, c0, p1, p2, p3, p4, p5, p6, p7⟩ := hH.2.2.2.2 a0 _ hh0
  obtain ⟨cA0, rfl, q2, q3⟩ := p7 ha0
  obtain ⟨-, c1, s1, s2, s3, s4, s5, s6, s7⟩ := hH.2.2.2.2 a1 _ hh1
  obtain ⟨cA1, rfl, r2, r3⟩ := s7 ha
  dsimp only at *
  have hn0 : (nI w).toNatClampNeg = w := nI_clamp hw31
  have hn1 : ¬ nI w < 0 := nI_pos hw31
  have hn2 : (nI w).toInt = (w : Int) := nI_toInt hw31
  obtain ⟨-, k0, hk0, cm0, hkk0⟩ := p2
  obtain ⟨-, k1, hk1, cm1, hkk1⟩ := s2
  intro T hT X
  obtain ⟨vm', X', step⟩ := X.arraycopy hx hown (hts _ w1) (hts _ w2) (hts _ w3) (hts _ w4) (src := ad E a0) (dst := ad E a1) (cs := arrV cA0 w (fun j => sh E (f j))) (cd := arrV cA1 w (fun j => sh E (g j))) (srcPos := 0) (destPos := 0) (n := nI w) (by rw [hT]; exact p1) (by rw [hT]; exact s1)
    (fun _ h => by cases h) (fun _ h => by cases h) (fun h => by cases h) (fun h => by cases h) hk0 hk1 hkk0 hkk1 (by simp [refKind]) (by decide) (by decide) hn1
    (by rw [hn2, arrV_size]; show ¬ (0 : Int) + w > w; omega)
    (by rw [hn2, arrV_size]; show ¬ (0 : Int) + w > w; omega)
    (fun vm₁ _ i hi => by
      rw [hn0] at hi
      obtain ⟨x, hx9⟩ := hfi i hi
      have e : (arrV cA0 w (fun j => sh E (f j))).slots.getD ((0 : Int32).toNatClampNeg + i) .null = .int x := by
        rw [Array.getD_eq_getD_getElem?, show (0 : Int32).toNatClampNeg + i = i by simp, arrV_read _ _ hi, hx9]
        rfl
      rw [e]
      exact ⟨rfl, trivial⟩)
    (g := F0 m pc ls (.int (nI w) :: .int 0 :: .ref (ad E a1) :: .int 0 :: .ref (ad E a0) :: S.map (sh E))) rfl (by rw [hml]; exact hL.1) (rest := S.map (sh E)) rfl (by rw [hb]; exact hd) (by omega) (by
      show 2 * 0 + _ + (nativeFrameWords "java/lang/System" "arraycopy" 5 + 11) ≤ _
      have : nativeFrameWords "java/lang/System" "arraycopy" 5 = 7 := by decide
      omega)
  have e1 : copied (arrV cA0 w (fun j => sh E (f j))) (arrV cA1 w (fun j => sh E (g j))) 0 0 (nI w) = arrV cA1 w (fun j => sh E (va_cpy f g 0 0 w j)) := by
    have e := va_copied (sp := 0) (dp := 0) (n := w) (fun v : Value => v) cA0 cA1 (n1 := w) (fun j => sh E (f j)) (fun j => sh E (g j)) (show 0 + w ≤ w by omega)
    have e2 : (fun j => va_cpy (fun j => sh E (f j)) (fun j => sh E (g j)) 0 0 w j) = fun j => sh E (va_cpy f g 0 0 w j) := by
      funext j
      unfold va_cpy
      split <;> rfl
    rw [← e2, ← e]
    unfold copied
    rw [hn0]
    rfl
  rw [e1] at X' step
  have hl : ad E a1 < H.size := (Array.getElem?_eq_some_iff.mp s1).1
  generalize hcl : arrV cA1 w (fun j => sh E (va_cpy f g 0 0 w j)) = cN at X' step
  have hheap : ((T.setVm vm').setCell (ad E a1) cN).heap = H.setIfInBounds (ad E a1) cN := by rw [← hT]; rfl
  have g1 : (H.setIfInBounds (ad E a1) cN)[ad E a1]? = some cN := by simp [Array.getElem?_setIfInBounds, hl]
  have g2 : (H.setIfInBounds (ad E a1) cN).size = H.size := by simp
  have g3 : ∀ q : Nat, q ≠ ad E a1 → (H.setIfInBounds (ad E a1) cN)[q]? = H[q]? := fun q hq => by simp [Array.getElem?_setIfInBounds, Ne.symm hq]
  have hcc : arAt E s a1 .int w (va_cpy f g 0 0 w) (H.setIfInBounds (ad E a1) cN) := by
    rw [arrV_size] at s5
    exact ⟨_, by rw [g1, ← hcl], r2 _ _, (fun q => by cases q), by rw [arrV_size]; exact Nat.le_refl _, by rw [arrV_size], fun j hj => arrV_read _ _ hj, fun _ => ⟨cA1, rfl, r2, r3⟩⟩
  obtain ⟨t, a1', b1⟩ := K p l e Rm s m args below meth c E Qf O _ _ ls (hH.set ha hh1 hcc g2 g3) ⟨by rw [g2]; exact hS.1, fun q v1 v2 => by
      rw [g3 q (fun e => v2 (by rw [e, ad_ge ha]; exact Nat.le_add_right _ _))]
      exact hS.2.1 q v1 v2, fun q hq => by
      rcases List.mem_append.mp hq with h9 | h9
      · exact hS.2.2 q h9
      · obtain ⟨zz, -, hz⟩ := List.mem_map.mp h9
        rw [← hz]
        show E.2.2.1 ≤ ad E a1
        rw [ad_ge ha]; exact Nat.le_add_right _ _⟩ hL hk hn _ hheap X'
  exact ⟨t, step t a1', b1⟩
theorem vr_outer (c : ClassId) (N h0 : Nat) : ∀ i : Nat, Jvm.Free.Multi.outerC c N h0 i = arrV c N (fun j => va_rf (if j < i then some (h0 + 1 + j) else none))
  | 0 => by
    show ({ cls := c, slots := Array.replicate N .null, vm := .none } : Cell) = _
    rw [arrV_new]
    refine congrArg (arrV c N) (funext fun j => ?_)
    simp [va_rf]
  | i + 1 => by
    show (Jvm.Free.Multi.outerC c N h0 i).setSlot i (.ref (h0 + 1 + i)) = _
    rw [vr_outer c N h0 i, arrV_store]
    refine congrArg (arrV c N) (funext fun j => ?_)
    by_cases e : j = i
    · subst e
      simp [updV, va_rf]
    · by_cases h : j < i
      · simp [updV, e, h, Nat.lt_succ_of_lt h]
      · simp [updV, e, h, show ¬ j < i + 1 by omega]
theorem arrV_congr9 {cA : ClassId} {w : Nat} {f g : Nat → Value} (h : ∀ j, j < w → f j = g j) : arrV cA w f = arrV cA w g := by
  unfold arrV
  congr 1
  apply Array.ext
  · simp
  · intro i h1 h2
    simp at h1
    simp [h i h1]
def mkGrid (h : Hp) (z N' K' : Nat) : Hp := fun a => if a = z then some (.inl (.array .int, N', fun j => .ref (z + 1 + j))) else if z < a ∧ a < z + 1 + N' then some (.inl (.int, K', fun _ => .int 0)) else h a
set_option maxHeartbeats 1000000 in
theorem r_multi {M : MD} {d mc ms pc pc' z k n : Nat} {Q : Option Value → Hp → Nat → Prop} {L S : List Value} {h : Hp} {idx : Nat} {nw kw : Int32} {N' K' : Nat} (hi : Ins M pc (.multianewarray idx 2) 4 pc') (hw : Cond.classLink M.1.cls idx "[[I" ∈ GW ∧ Cond.arrayClass .int ∈ GW) (hN : nw = nI N') (hK' : kw = nI K') (hN9 : N' ≤ 1000) (hK9 : K' ≤ 1000) (hk1 : k + (1 + N') ≤ mc) (hn1 : n + (N' + N' * K') ≤ ms) (K : R M d mc ms Q pc' L (.ref z :: S) (mkGrid h z N' K') (z + 1 + N') (k + 1 + N') (n + N' + N' * K')) : R M d mc ms Q pc L (.int kw :: .int nw :: S) h z k n := by
  intro p l e Rm s m args below meth c E Qf O H locs ls hH hS hL hk hn
  obtain ⟨hx, hb, hml, hown, hts, hrm, hin, hK, hZ, hX, hB, hRC⟩ := id O
  obtain ⟨hd, rfl⟩ := hi
  subst hN; subst hK'
  have hn0 : (nI N').toNatClampNeg = N' := nI_clamp (by omega)
  have hn2 : (nI K').toNatClampNeg = K' := nI_clamp (by omega)
  intro T hT Xs
  obtain ⟨vm₁, cA, comp, -, fA, fC, hO, hI, X', step⟩ := Xs.multianewarray2F hx (own := M.1.cls) (index := idx) (ty := .int) hown (hts _ hw.1) hX.2.2.2.2 (hts _ hw.2) (g := F0 m pc ls (.int (nI K') :: .int (nI N') :: S.map (sh E))) rfl (by rw [hb]; exact hd) rfl (nI_pos (by omega)) (nI_pos (by omega)) (by rw [hn0]; omega) (by rw [hn2]; show K' * 4 ≤ _; omega) (by rw [hn2]; omega) rfl rfl (by rw [hn0]; omega) (by rw [hn0, hn2]; omega)
  rw [hn0, hn2] at X' step
  generalize hF : Jvm.Free.Multi.fill (T.setVm vm₁) cA comp N' K' (defaultValue .int) N' = F at X' step
  have hTh : (T.setVm vm₁).heap = H := hT
  obtain ⟨f1, f2, -, -⟩ := Jvm.Free.Multi.fill_facts (T.setVm vm₁) cA comp N' K' (defaultValue .int) N'
  rw [hF, hTh] at f1 f2
  rw [vr_outer] at f2
  have hold : ∀ x : Nat, x < H.size → F.heap[x]? = H[x]? := fun x hx9 => by
    have := Jvm.Free.Multi.fill_old (T.setVm vm₁) cA comp N' K' (defaultValue .int) (a := x) (by rw [hTh]; exact hx9) N'
    rw [hF, hTh] at this
    exact this
  have hrow : ∀ j : Nat, j < N' → F.heap[H.size + 1 + j]? = some (Jvm.Free.Multi.innerC comp K' (defaultValue .int)) := fun j hj => by
    have := Jvm.Free.Multi.fill_inner (T.setVm vm₁) cA comp N' K' (defaultValue .int) N' j hj
    rw [hF, hTh] at this
    exact this
  have hIn : Jvm.Free.Multi.innerC comp K' (defaultValue .int) = arrV comp K' (fun _ => .int 0) := arrV_new comp K' (.int 0)
  have hz0 : ad E z = H.size := hH.top
  obtain ⟨g0, g1, g2, g3, g4⟩ := id hH
  have hz1 : E.2.2.1 + (z - 2) = H.size := by rw [← hz0, ad_ge g0]
  have hAO : ArrOfT s cA (.array .int) := fun n9 z9 => ⟨fun k9 h9 => (by cases h9), (hO 0 0 0).1.2⟩
  have hAI : ArrOfT s comp .int := fun n9 z9 => ⟨fun k9 h9 => (by cases h9), (hI 0 (.int 0)).1.2⟩
  have hR9 : hR E s (mkGrid h z N' K') (z + 1 + N') F.heap := by
    refine ⟨by omega, g1, g2, by rw [f1]; omega, fun b x hx9 => ?_⟩
    unfold mkGrid at hx9
    by_cases hb1 : b = z
    · subst hb1
      rw [if_pos rfl] at hx9
      cases hx9
      refine ⟨by omega, _, by rw [hz0]; exact f2, hAO _ _, (fun q => by cases q), by rw [arrV_size]; exact Nat.le_refl _, by rw [arrV_size], fun j hj => ?_, fun _ => ⟨cA, ?_, hAO, fA⟩⟩
      · rw [arrV_read _ _ hj, if_pos hj]
        show some (Value.ref _) = some (Value.ref (ad E (b + 1 + j)))
        rw [ad_ge (by omega)]
        have e9 : H.size + 1 + j = E.2.2.1 + (b + 1 + j - 2) := by omega
        rw [e9]
      · apply arrV_congr9
        intro j hj
        rw [if_pos hj]
        show Value.ref _ = Value.ref (ad E (b + 1 + j))
        rw [ad_ge (by omega)]
        have e9 : H.size + 1 + j = E.2.2.1 + (b + 1 + j - 2) := by omega
        rw [e9]
    · rw [if_neg hb1] at hx9
      by_cases hb2 : z < b ∧ b < z + 1 + N'
      · rw [if_pos hb2] at hx9
        cases hx9
        have hbz : ad E b = H.size + 1 + (b - z - 1) := by rw [ad_ge (by omega)]; omega
        exact ⟨by omega, _, by rw [hbz, hrow _ (by omega), hIn]; rfl, hAI _ _, (fun q => by cases q), by rw [arrV_size]; exact Nat.le_refl _, by rw [arrV_size], fun j hj => arrV_read _ _ hj, fun _ => ⟨comp, rfl, hAI, fC⟩⟩
      · rw [if_neg hb2] at hx9
        obtain ⟨k1, k2⟩ := g4 b x hx9
        refine ⟨by omega, k2.kept (hold _ ?_)⟩
        by_cases hb3 : 2 ≤ b
        · rw [ad_ge hb3]; omega
        · have := ad_lt hH (show b < 2 by omega)
          omega
  have hst : (.ref H.size : Value) = sh E (.ref z) := by show _ = Value.ref (ad E z); rw [hz0]
  rw [hT, hst] at step
  obtain ⟨t, a1, b1⟩ := K p l e Rm s m args below meth c E Qf O F.heap locs ls hR9 (va_S.push1 hS (by omega) hold) hL (by omega) (by omega) F rfl X'
  exact ⟨t, step t a1, b1⟩
/-- an array's cells count only below its length -/
theorem hR_arr {E : eE} {s : State} {h : Hp} {z a w : Nat} {ty : FieldType} {f g : Nat → Value} {H : Heap} (hH : hR E s h z H) (hh : h a = some (.inl (ty, w, f))) (e : ∀ j, j < w → f j = g j) : hR E s (hset h a (.inl (ty, w, g))) z H := by
  refine ⟨hH.1, hH.2.1, hH.2.2.1, hH.2.2.2.1, fun b x hx => ?_⟩
  by_cases hb : b = a
  · subst hb
    rw [hset_eq] at hx
    cases hx
    obtain ⟨k1, cell, h1, h2, h3, h4, h5, h6, h7⟩ := hH.2.2.2.2 b _ hh
    dsimp only at h2 h4 h5 h6 h7
    exact ⟨k1, cell, h1, h2, h3, h4, h5, fun j hj => by rw [h6 j hj]; exact congrArg (fun v => some (sh E v)) (e j hj), fun q => by
      obtain ⟨cA, e1, e2, e3⟩ := h7 q
      exact ⟨cA, by rw [e1]; exact arrV_congr9 fun j hj => congrArg (sh E) (e j hj), e2, e3⟩⟩
  · rw [hset_ne _ _ hb] at hx
    exact hH.2.2.2.2 b x hx
theorem R_arr {M : MD} {d mc ms pc z k n : Nat} {Q : Option Value → Hp → Nat → Prop} {L S : List Value} {h : Hp} {a w : Nat} {ty : FieldType} {f : Nat → Value} (g : Nat → Value) (hh : h a = some (.inl (ty, w, f))) (e : ∀ j, j < w → f j = g j) (K : R M d mc ms Q pc L S (hset h a (.inl (ty, w, g))) z k n) : R M d mc ms Q pc L S h z k n := by
  intro p l e' Rm s m args below meth c E Qf O H locs ls hH hS hL hk hn
  exact K p l e' Rm s m args below meth c E Qf O H locs ls (hR_arr hH hh e) hS hL hk hn
theorem gridw : Cond.classLink MX3_init.1.cls 9 "[[I" ∈ GW ∧ Cond.arrayClass .int ∈ GW := ⟨(gt_1 130 rfl rfl), (gt_1 33 rfl rfl)⟩
theorem copyw : Cond.methodLink MX3_goOn.1.cls 31 arraycopyName ∈ GW ∧ Cond.native arraycopyName ∈ GW ∧ Cond.static arraycopyName ∈ GW ∧ Cond.initialized "java/lang/System" ∈ GW := ⟨(gt_2 203 rfl rfl), (gt_2 205 rfl rfl), (gt_2 204 rfl rfl), (gt_1 10 rfl rfl)⟩
