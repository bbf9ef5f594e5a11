theorem neww_L_X6 : Cond.classLink RL 7 RX6 ∈ GW ∧ Cond.instantiable RX6 9 ∈ GW ∧ Cond.initialized RX6 ∈ GW ∧ (∀ w ∈ u_ws RX6 TX6 9, w ∈ GW) := ⟨(gt_1 11 rfl rfl), (gt_1 12 rfl rfl), (gt_1 1 rfl rfl), gwc_X6⟩
theorem objw_X6 : Cond.methodLink RX6 3 objectInit ∈ GW ∧ Cond.instanceMethod objectInit ∈ GW ∧ Cond.code objectInit ⟨#[0xb1]⟩ 1 none ∈ GW := ⟨(gt_1 16 rfl rfl), (gt_1 17 rfl rfl), (gt_1 18 rfl rfl)⟩
theorem neww_X6_X4 : Cond.classLink RX6 9 RX4 ∈ GW ∧ Cond.instantiable RX4 2 ∈ GW ∧ Cond.initialized RX4 ∈ GW ∧ (∀ w ∈ u_ws RX4 TX4 2, w ∈ GW) := ⟨(gt_1 19 rfl rfl), (gt_1 20 rfl rfl), (gt_1 2 rfl rfl), gwc_X4⟩
theorem objw_X4 : Cond.methodLink RX4 3 objectInit ∈ GW ∧ Cond.instanceMethod objectInit ∈ GW ∧ Cond.code objectInit ⟨#[0xb1]⟩ 1 none ∈ GW := ⟨(gt_1 24 rfl rfl), (gt_1 17 rfl rfl), (gt_1 18 rfl rfl)⟩
theorem neww_X6_X2 : Cond.classLink RX6 16 RX2 ∈ GW ∧ Cond.instantiable RX2 4 ∈ GW ∧ Cond.initialized RX2 ∈ GW ∧ (∀ w ∈ u_ws RX2 TX2 4, w ∈ GW) := ⟨(gt_1 34 rfl rfl), (gt_1 35 rfl rfl), (gt_1 3 rfl rfl), gwc_X2⟩
theorem objw_X2 : Cond.methodLink RX2 3 objectInit ∈ GW ∧ Cond.instanceMethod objectInit ∈ GW ∧ Cond.code objectInit ⟨#[0xb1]⟩ 1 none ∈ GW := ⟨(gt_1 39 rfl rfl), (gt_1 17 rfl rfl), (gt_1 18 rfl rfl)⟩
theorem neww_X2_X5 : Cond.classLink RX2 9 RX5 ∈ GW ∧ Cond.instantiable RX5 9 ∈ GW ∧ Cond.initialized RX5 ∈ GW ∧ (∀ w ∈ u_ws RX5 TX5 9, w ∈ GW) := ⟨(gt_1 40 rfl rfl), (gt_1 42 rfl rfl), (gt_1 4 rfl rfl), gwc_X5⟩
theorem objw_X5 : Cond.methodLink RX5 3 objectInit ∈ GW ∧ Cond.instanceMethod objectInit ∈ GW ∧ Cond.code objectInit ⟨#[0xb1]⟩ 1 none ∈ GW := ⟨(gt_1 46 rfl rfl), (gt_1 17 rfl rfl), (gt_1 18 rfl rfl)⟩
theorem neww_X6_X0 : Cond.classLink RX6 26 RX0 ∈ GW ∧ Cond.instantiable RX0 3 ∈ GW ∧ Cond.initialized RX0 ∈ GW ∧ (∀ w ∈ u_ws RX0 TX0 3, w ∈ GW) := ⟨(gt_1 102 rfl rfl), (gt_1 103 rfl rfl), (gt_1 5 rfl rfl), gwc_X0⟩
theorem objw_X0 : Cond.methodLink RX0 3 objectInit ∈ GW ∧ Cond.instanceMethod objectInit ∈ GW ∧ Cond.code objectInit ⟨#[0xb1]⟩ 1 none ∈ GW := ⟨(gt_1 107 rfl rfl), (gt_1 17 rfl rfl), (gt_1 18 rfl rfl)⟩
theorem neww_X0_X2 : Cond.classLink RX0 9 RX2 ∈ GW ∧ Cond.instantiable RX2 4 ∈ GW ∧ Cond.initialized RX2 ∈ GW ∧ (∀ w ∈ u_ws RX2 TX2 4, w ∈ GW) := ⟨(gt_1 108 rfl rfl), (gt_1 35 rfl rfl), (gt_1 3 rfl rfl), gwc_X2⟩
theorem neww_X6_X5 : Cond.classLink RX6 41 RX5 ∈ GW ∧ Cond.instantiable RX5 9 ∈ GW ∧ Cond.initialized RX5 ∈ GW ∧ (∀ w ∈ u_ws RX5 TX5 9, w ∈ GW) := ⟨(gt_1 122 rfl rfl), (gt_1 42 rfl rfl), (gt_1 4 rfl rfl), gwc_X5⟩
theorem neww_X6_X3 : Cond.classLink RX6 48 RX3 ∈ GW ∧ Cond.instantiable RX3 2 ∈ GW ∧ Cond.initialized RX3 ∈ GW ∧ (∀ w ∈ u_ws RX3 TX3 2, w ∈ GW) := ⟨(gt_1 124 rfl rfl), (gt_1 125 rfl rfl), (gt_1 6 rfl rfl), gwc_X3⟩
theorem objw_X3 : Cond.methodLink RX3 3 objectInit ∈ GW ∧ Cond.instanceMethod objectInit ∈ GW ∧ Cond.code objectInit ⟨#[0xb1]⟩ 1 none ∈ GW := ⟨(gt_1 129 rfl rfl), (gt_1 17 rfl rfl), (gt_1 18 rfl rfl)⟩
theorem neww_L_X7 : Cond.classLink RL 10 RX7 ∈ GW ∧ Cond.instantiable RX7 17 ∈ GW ∧ Cond.initialized RX7 ∈ GW ∧ (∀ w ∈ u_ws RX7 TX7 17, w ∈ GW) := ⟨(gt_3 1 rfl rfl), (gt_3 2 rfl rfl), (gt_1 7 rfl rfl), gwc_X7⟩
theorem objw_X7 : Cond.methodLink RX7 1 objectInit ∈ GW ∧ Cond.instanceMethod objectInit ∈ GW ∧ Cond.code objectInit ⟨#[0xb1]⟩ 1 none ∈ GW := ⟨(gt_3 6 rfl rfl), (gt_1 17 rfl rfl), (gt_1 18 rfl rfl)⟩
theorem r_putO {M : MD} {d mc ms pc pc' z k n : Nat} {Q : Option Value → Hp → Nat → Prop} {L S : List Value} {h : Hp} {idx ci j a : Nat} {fs : List Value} {v : Value} {ty : FieldType} (hi : Ins M pc (.putfield idx) 3 pc') (hl : FP M idx ci j ty) (ha : 2 ≤ a) (hlen : j < fs.length) (hfit : fitV ty v) (K : R M d mc ms Q pc' L S (hset h a (.inr (ci, fs.set j v))) z k n) : R M d mc ms Q pc L (v :: .ref a :: S) (hset h a (.inr (ci, fs))) z k n := r_putfield hi hl ha (hset_eq _ _ _) hlen hfit (by rw [hset_hset]; exact K)
theorem nI_inc (p : Nat) : nI p + Int32.ofInt 1 = nI (p + 1) := (nI_succ p).symm
def imax (x y : Int32) : Int32 := if x < y then y else x
def imin (x y : Int32) : Int32 := if y < x then y else x
def lmax (x y : Int64) : Int64 := if y < x then x else y
theorem r_mmax {M : MD} {d mc ms pc pc' z k n : Nat} {Q : Option Value → Hp → Nat → Prop} {L S : List Value} {h : Hp} {idx : Nat} {x y : Int32} (hi : Ins M pc (.invokestatic idx) 3 pc') (hc : CS M idx MJ9_max_7cf53 2) (hd1 : 1 ≤ d) (hS8 : (S.map fun v => v.category).sum ≤ 8) (K : R M d mc ms Q pc' L (.int (imax x y) :: S) h z k n) : R M d mc ms Q pc L (.int y :: .int x :: S) h z k n := by
  intro p l e Rm s m args below meth c E Qf O H locs ls hH hS hL hk hn
  obtain ⟨hx, hb, hml, hown, hts, hrm, hin, hK, hZ, hX, hB, hRC⟩ := id O
  obtain ⟨hd, rfl⟩ := hi
  obtain ⟨⟨w1, w2, w3, w5⟩, hd3, hm29⟩ := hc
  have hc8 := catS (E := E) hS8
  exact va_mmax hx hb (by rw [hml]; exact hL.1.symm) hown (hts _ w1) (hts _ w2) (hts _ w3) (hts _ w5) (by omega) (by omega) (by omega) (by omega) hd (K p l e Rm s m args below meth c E Qf O H locs ls hH hS hL hk hn)
theorem r_mmin {M : MD} {d mc ms pc pc' z k n : Nat} {Q : Option Value → Hp → Nat → Prop} {L S : List Value} {h : Hp} {idx : Nat} {x y : Int32} (hi : Ins M pc (.invokestatic idx) 3 pc') (hc : CS M idx MJ9_min_7cf53 2) (hd1 : 1 ≤ d) (hS8 : (S.map fun v => v.category).sum ≤ 8) (K : R M d mc ms Q pc' L (.int (imin x y) :: S) h z k n) : R M d mc ms Q pc L (.int y :: .int x :: S) h z k n := by
  intro p l e Rm s m args below meth c E Qf O H locs ls hH hS hL hk hn
  obtain ⟨hx, hb, hml, hown, hts, hrm, hin, hK, hZ, hX, hB, hRC⟩ := id O
  obtain ⟨hd, rfl⟩ := hi
  obtain ⟨⟨w1, w2, w3, w5⟩, hd3, hm29⟩ := hc
  have hc8 := catS (E := E) hS8
  exact va_mmin hx hb (by rw [hml]; exact hL.1.symm) hown (hts _ w1) (hts _ w2) (hts _ w3) (hts _ w5) (by omega) (by omega) (by omega) (by omega) hd (K p l e Rm s m args below meth c E Qf O H locs ls hH hS hL hk hn)
theorem r_mmaxL {M : MD} {d mc ms pc pc' z k n : Nat} {Q : Option Value → Hp → Nat → Prop} {L S : List Value} {h : Hp} {idx : Nat} {x y : Int64} (hi : Ins M pc (.invokestatic idx) 3 pc') (hc : CS M idx MJ9_max_f86c9 2) (hd1 : 1 ≤ d) (hS8 : (S.map fun v => v.category).sum ≤ 8) (K : R M d mc ms Q pc' L (.long (lmax x y) :: S) h z k n) : R M d mc ms Q pc L (.long y :: .long x :: S) h z k n := by
  intro p l e Rm s m args below meth c E Qf O H locs ls hH hS hL hk hn
  obtain ⟨hx, hb, hml, hown, hts, hrm, hin, hK, hZ, hX, hB, hRC⟩ := id O
  obtain ⟨hd, rfl⟩ := hi
  obtain ⟨⟨w1, w2, w3, w5⟩, hd3, hm29⟩ := hc
  have hc8 := catS (E := E) hS8
  exact va_mmax_long hx hb (by rw [hml]; exact hL.1.symm) hown (hts _ w1) (hts _ w2) (hts _ w3) (hts _ w5) (by omega) (by omega) (by omega) (by omega) hd (K p l e Rm s m args below meth c E Qf O H locs ls hH hS hL hk hn)
