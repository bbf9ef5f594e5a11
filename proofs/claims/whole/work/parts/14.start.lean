/-! a contest begins from a text; the row of acts -/
def startT (B : Nat → Int32) : Nat → (Nat → Int32) → (Nat → Int32) := fun i _ => kStart (B (3 * i + 3) - 48) (B (3 * i + 4) - 48)
def startC (B : Nat → Int32) (n : Nat) (t : Nat → Nat → Int32) : Cn := (n, B 1 - 48, nxt n (mapT (startT B) t n) 0 n, mapT (startT B) t n)
theorem tAt.out {h : Hp} {x : Nat} {T : Tx} (H : tAt h x T) {c : Nat} (K : Cn) (hd : x + 2 ≤ c ∨ c + 6 ≤ x) : tAt (cOv h c K) x T := ⟨by rw [cOv_out _ _ _ (by omega)]; exact H.1, by rw [cOv_out _ _ _ (by omega)]; exact H.2⟩
theorem Fn_t {M : MD} {d x : Nat} {A : List Value} {h : Hp} {T : Tx} {r : Option Value} (H : tAt h x T) (F : Fn M d A (tOv h x T) r) : Fn M d A h r := by rw [H.ov] at F; exact F
theorem c2_startFrom (h : Hp) (c x : Nat) (hc : 2 ≤ c) {n : Nat} (hn : n ≤ 4) (K : Cn) (B : Nat → Int32) (hd : x + 2 ≤ c ∨ c + 6 ≤ x) (H : tAt h x (3 * n + 2, B)) : Pr MX2_startFrom 2 [.ref c, .ref x] (cOv h c K) none (cOv h c (startC B n K.2.2.2)) := by
  obtain ⟨n0, b0, u0, t0⟩ := K
  intro z
  have HH : ∀ K', tAt (cOv h c K') x (3 * n + 2, B) := fun K' => H.out K' hd
  refine Cal_of_R (by decide +kernel) (L := [.ref c, .ref x, .null]) rfl (Nat.le_of_ble_eq_true rfl) ?_
  have loop : ∀ (j p : Nat), p + j = n → ∀ z, R MX2_startFrom 2 0 0 (fun v h' z' => v = none ∧ h' = cOv h c (startC B n t0) ∧ z' = z) 18 [.ref c, .ref x, .int (nI p)] [] (cOv h c (n, B 1 - 48, u0, mapT (startT B) t0 p)) z 0 0 := by
    intro j
    induction j with
    | zero =>
      intro p hp z
      obtain rfl : p = n := by omega
      refine r_iload iX2_startFrom_18 rfl ?_
      refine r_aload iX2_startFrom_19 rfl ?_
      refine r_getfield iX2_startFrom_20 (flX2_18 _ rfl) (cOv_obj _ _ _) rfl ?_
      refine r_icmp_ge iX2_startFrom_23 (fun _ => ?_) (fun g9 => absurd (nI_le (by omega) (by omega)) g9)
      refine r_aload iX2_startFrom_51 rfl ?_
      refine r_aload iX2_startFrom_52 rfl ?_
      refine r_aload iX2_startFrom_53 rfl ?_
      refine r_getfield iX2_startFrom_54 (flX2_18 _ rfl) (cOv_obj _ _ _) rfl ?_
      refine r_iconst (v := 1) iX2_startFrom_57 rfl ?_
      refine r_isub iX2_startFrom_58 ?_
      refine r_callV iX2_startFrom_59 (cX2_48 _ rfl) (c2_nextBehind h c hn _ _ _ _ (f := p) (by simp) (Nat.le_refl _) _) (by omega) (cOv_obj _ _ _) rfl rfl rfl (Nat.le_of_ble_eq_true rfl) (by first | exact Nat.le_of_ble_eq_true rfl | omega) (by first | exact Nat.le_of_ble_eq_true rfl | omega) ?_
      rintro v h' z' ⟨rfl, rfl, rfl⟩
      refine r_cturn iX2_startFrom_62 (fpX2_25 _ rfl) hc ?_
      refine r_vret iX2_startFrom_65 rfl ?_
      exact ⟨rfl, by rw [nxt_n]; rfl, rfl⟩
    | succ j ih =>
      intro p hp z
      have hp4 : p < 4 := by omega
      refine r_iload iX2_startFrom_18 rfl ?_
      refine r_aload iX2_startFrom_19 rfl ?_
      refine r_getfield iX2_startFrom_20 (flX2_18 _ rfl) (cOv_obj _ _ _) rfl ?_
      refine r_icmp_ge iX2_startFrom_23 (fun g9 => absurd g9 (nI_ge (by omega) (by omega))) (fun _ => ?_)
      refine r_aload iX2_startFrom_26 rfl ?_
      refine r_getfield iX2_startFrom_27 (flX2_11 _ rfl) (cOv_obj _ _ _) rfl ?_
      refine r_iload iX2_startFrom_30 rfl ?_
      refine r_aaload iX2_startFrom_31 rfl (cOv_arr _ _ _) (in4 hp4) (thr_ix c hp4) ?_
      refine r_aload iX2_startFrom_32 rfl ?_
      refine r_iload iX2_startFrom_33 rfl ?_
      refine r_callV iX2_startFrom_34 (cX2_37 _ rfl) (Fn_t (HH _) (c4_strengthTold _ x _ (by omega) B p (by omega)) _) (by omega) ((HH _).1) rfl rfl rfl (Nat.le_of_ble_eq_true rfl) (by first | exact Nat.le_of_ble_eq_true rfl | omega) (by first | exact Nat.le_of_ble_eq_true rfl | omega) ?_
      rintro v h' z' ⟨rfl, rfl, rfl⟩
      refine r_aload iX2_startFrom_37 rfl ?_
      refine r_iload iX2_startFrom_38 rfl ?_
      refine r_callV iX2_startFrom_39 (cX2_41 _ rfl) (Fn_t (HH _) (c4_windTold _ x _ (by omega) B p (by omega)) _) (by omega) ((HH _).1) rfl rfl rfl (Nat.le_of_ble_eq_true rfl) (by first | exact Nat.le_of_ble_eq_true rfl | omega) (by first | exact Nat.le_of_ble_eq_true rfl | omega) ?_
      rintro v h' z' ⟨rfl, rfl, rfl⟩
      refine r_callV iX2_startFrom_42 (cX2_44 _ rfl) (Pr_at (cOv_thr _ _ _ hp4) (c5_start _ _ (by omega) _ _) _) (by omega) (cOv_thr _ _ _ hp4) rfl rfl rfl (Nat.le_of_ble_eq_true rfl) (by first | exact Nat.le_of_ble_eq_true rfl | omega) (by first | exact Nat.le_of_ble_eq_true rfl | omega) ?_
      rintro v h' z' ⟨rfl, rfl, rfl⟩
      rw [cOv_setT _ _ _ _ _ _ hp4]
      have e : upT (mapT (startT B) t0 p) p (kStart (B (3 * p + 3) - 48) (B (3 * p + 4) - 48)) = mapT (startT B) t0 (p + 1) := mapT_s (startT B) t0 p
      rw [e]
      refine r_iinc_2 iX2_startFrom_45 (by first | exact nI_inc _ | rfl) rfl ?_
      refine r_goto iX2_startFrom_48 ?_
      exact ih (p + 1) (by omega) z'
  refine r_aload iX2_startFrom_0 rfl ?_
  refine r_aload iX2_startFrom_1 rfl ?_
  refine r_callV iX2_startFrom_2 (cX2_28 _ rfl) (Fn_t (HH _) (c4_throwersTold _ x n hn B) _) (by omega) ((HH _).1) rfl rfl rfl (Nat.le_of_ble_eq_true rfl) (by first | exact Nat.le_of_ble_eq_true rfl | omega) (by first | exact Nat.le_of_ble_eq_true rfl | omega) ?_
  rintro v h' z' ⟨rfl, rfl, rfl⟩
  refine r_csize iX2_startFrom_5 (fpX2_18 _ rfl) hc ?_
  refine r_aload iX2_startFrom_8 rfl ?_
  refine r_aload iX2_startFrom_9 rfl ?_
  refine r_callV iX2_startFrom_10 (cX2_34 _ rfl) (Fn_t (HH _) (c4_barTold _ x _ (by omega) B (by omega)) _) (by omega) ((HH _).1) rfl rfl rfl (Nat.le_of_ble_eq_true rfl) (by first | exact Nat.le_of_ble_eq_true rfl | omega) (by first | exact Nat.le_of_ble_eq_true rfl | omega) ?_
  rintro v h' z' ⟨rfl, rfl, rfl⟩
  refine r_cbar iX2_startFrom_13 (fpX2_22 _ rfl) hc ?_
  refine r_iconst (v := 0) iX2_startFrom_16 rfl ?_
  refine r_istore_2 iX2_startFrom_17 rfl ?_
  have e := loop n 0 (by omega) z'
  rw [mapT_0] at e
  exact e
/-- the row of acts: the contests ahead of them, 16 of six cells from a + 2 on; how many, where the next goes -/
def aAt (h : Hp) (a : Nat) (sz nx : Nat) (W : Nat → Cn) : Prop := h a = some (.inr (0, [.ref (a + 1), .int (nI sz), .int (nI nx)])) ∧ h (a + 1) = some (.inl (.object "UpWithSheaf$Contest", 16, fun j => .ref (a + 2 + 6 * j))) ∧ ∀ j, j < 16 → conAt h (a + 2 + 6 * j) (W j)
def upW (W : Nat → Cn) (j : Nat) (K : Cn) : Nat → Cn := fun i => if i = j then K else W i
theorem con_ix (a : Nat) {i : Nat} (hi : i < 16) : (fun j : Nat => Value.ref (a + 2 + 6 * j)) (nI i).toNatClampNeg = .ref (a + 2 + 6 * i) := by
  show Value.ref (a + 2 + 6 * (nI i).toNatClampNeg) = _
  rw [nI_clamp (by omega)]
theorem in16 {i : Nat} (hi : i < 16) : vp_in (nI i) 16 := vp_in_nI hi (by decide)
/-- what stays: all but the cells that f names -/
def keeps (h h' : Hp) (f : Nat → Prop) : Prop := ∀ a, ¬ f a → h' a = h a
def copyC (K : Cn) (t : Nat → Nat → Int32) : Cn := (K.1, K.2.1, K.2.2.1, mapT (fun j _ => K.2.2.2 j) t K.1)
theorem c0_forget (h : Hp) (a : Nat) (ha : 2 ≤ a) (r : Nat) (x y : Int32) : Pr MX0_forget 0 [.ref a] (hset h a (.inr (0, [.ref r, .int x, .int y]))) none (hset h a (.inr (0, [.ref r, .int 0, .int 0]))) := by
  intro z
  refine Cal_of_R (by decide +kernel) (L := [.ref a]) rfl (Nat.le_of_ble_eq_true rfl) ?_
  refine r_aload iX0_forget_0 rfl ?_
  refine r_iconst (v := 0) iX0_forget_1 rfl ?_
  refine r_putO iX0_forget_2 (fpX0_18 _ rfl) ha (Nat.le_of_ble_eq_true rfl) ⟨rfl, rfl⟩ ?_
  refine r_aload iX0_forget_5 rfl ?_
  refine r_iconst (v := 0) iX0_forget_6 rfl ?_
  refine r_putO iX0_forget_7 (fpX0_22 _ rfl) ha (Nat.le_of_ble_eq_true rfl) ⟨rfl, rfl⟩ ?_
  refine r_vret iX0_forget_10 rfl ?_
  exact ⟨rfl, rfl, rfl⟩
theorem Pr_con {M : MD} {d : Nat} {A : List Value} {h h1 : Hp} {r : Option Value} {c : Nat} {K : Cn} (H : conAt h c K) (P : Pr M d A (cOv h c K) r h1) : Pr M d A h r h1 := by rw [H.ov] at P; exact P
theorem Fn_con {M : MD} {d : Nat} {A : List Value} {h : Hp} {r : Option Value} {c : Nat} {K : Cn} (H : conAt h c K) (P : Fn M d A (cOv h c K) r) : Fn M d A h r := by rw [H.ov] at P; exact P
theorem R_heap {M : MD} {d mc ms pc z k n : Nat} {Q : Option Value → Hp → Nat → Prop} {L S : List Value} {h h2 : Hp} (e : h = h2) (K : R M d mc ms Q pc L S h2 z k n) : R M d mc ms Q pc L S h z k n := e ▸ K
def nx1 (nx : Nat) : Nat := if nx + 1 < 16 then nx + 1 else 0
def sz1 (sz : Nat) : Nat := if sz < 16 then sz + 1 else sz
def remH (h : Hp) (a sz nx : Nat) (W : Nat → Cn) (K : Cn) : Hp := hset (cOv h (a + 2 + 6 * nx) (copyC K (W nx).2.2.2)) a (.inr (0, [.ref (a + 1), .int (nI (sz1 sz)), .int (nI (nx1 nx))]))
theorem c0_remember (h : Hp) (a c : Nat) (ha : 2 ≤ a) {sz nx : Nat} (hsz : sz ≤ 16) (hnx : nx < 16) {W : Nat → Cn} {K : Cn} (hn : K.1 ≤ 4) (H : aAt h a sz nx W) (HK : conAt h c K) (hd : c + 6 ≤ a ∨ a + 98 ≤ c) : Pr MX0_remember 2 [.ref a, .ref c] h none (remH h a sz nx W K) := by
  obtain ⟨n, b, u, t⟩ := K
  intro z
  refine Cal_of_R (by decide +kernel) (L := [.ref a, .ref c]) rfl (Nat.le_of_ble_eq_true rfl) ?_
  refine r_aload iX0_remember_0 rfl ?_
  refine r_getfield iX0_remember_1 (flX0_11 _ rfl) (H.1) rfl ?_
  refine r_aload iX0_remember_4 rfl ?_
  refine r_getfield iX0_remember_5 (flX0_22 _ rfl) (H.1) rfl ?_
  refine r_aaload iX0_remember_8 rfl (H.2.1) (in16 hnx) (con_ix a hnx) ?_
  refine r_aload iX0_remember_9 rfl ?_
  refine r_callV iX0_remember_10 (cX0_25 _ rfl) (Pr_con (H.2.2 nx hnx) (c2_copyFrom h _ c (by omega) _ hn b u t (by omega) HK) _) (by omega) ((H.2.2 nx hnx).1) rfl rfl rfl (Nat.le_of_ble_eq_true rfl) (by first | exact Nat.le_of_ble_eq_true rfl | omega) (by first | exact Nat.le_of_ble_eq_true rfl | omega) ?_
  rintro v h' z' ⟨rfl, rfl, rfl⟩
  have hobj : cOv h (a + 2 + 6 * nx) (n, b, u, mapT (fun j _ => t j) (W nx).2.2.2 n) a = some (.inr (0, [.ref (a + 1), .int (nI sz), .int (nI nx)])) := by rw [cOv_out _ _ _ (by omega)]; exact H.1
  refine R_heap (hset_self hobj).symm ?_
  have tail : ∀ x : Int32, x = nI (nx1 nx) → ∀ z, R MX0_remember 2 0 0 (fun v h' z' => v = none ∧ h' = remH h a sz nx W (n, b, u, t) ∧ z' = z) 35 [.ref a, .ref c] [.int x, .ref a] (hset (cOv h (a + 2 + 6 * nx) (n, b, u, mapT (fun j _ => t j) (W nx).2.2.2 n)) a (.inr (0, [.ref (a + 1), .int (nI sz), .int (nI nx)]))) z 0 0 := by
    intro x hx z
    refine r_putO iX0_remember_35 (fpX0_22 _ rfl) ha (Nat.le_of_ble_eq_true rfl) ⟨rfl, rfl⟩ ?_
    refine r_aload iX0_remember_38 rfl ?_
    refine r_getfield iX0_remember_39 (flX0_18 _ rfl) (hset_eq _ _ _) rfl ?_
    refine r_bipush (v := 16) iX0_remember_42 rfl ?_
    refine r_icmp_ge iX0_remember_44 (fun g => ?_) (fun g => ?_)
    · have g2 : ¬ sz < 16 := fun q => nI_ge (a := sz) (b := 16) q (by omega) g
      refine r_vret iX0_remember_57 rfl ?_
      refine ⟨rfl, ?_, rfl⟩
      rw [hx, remH, sz1, if_neg g2]; rfl
    · have g2 : sz < 16 := by
        rcases Nat.lt_or_ge sz 16 with q | q
        · exact q
        · exact absurd (nI_le (a := 16) q (by omega)) g
      refine r_aload iX0_remember_47 rfl ?_
      refine r_dup iX0_remember_48 rfl ?_
      refine r_getfield iX0_remember_49 (flX0_18 _ rfl) (hset_eq _ _ _) rfl ?_
      refine r_iconst (v := 1) iX0_remember_52 rfl ?_
      refine r_iadd iX0_remember_53 ?_
      refine r_putO iX0_remember_54 (fpX0_18 _ rfl) ha (Nat.le_of_ble_eq_true rfl) ⟨rfl, rfl⟩ ?_
      refine r_vret iX0_remember_57 rfl ?_
      refine ⟨rfl, ?_, rfl⟩
      rw [hx, remH, sz1, if_pos g2, nI_succ]; rfl
  refine r_aload iX0_remember_13 rfl ?_
  refine r_aload iX0_remember_14 rfl ?_
  refine r_getfield iX0_remember_15 (flX0_22 _ rfl) (hset_eq _ _ _) rfl ?_
  refine r_iconst (v := 1) iX0_remember_18 rfl ?_
  refine r_iadd iX0_remember_19 ?_
  refine r_bipush (v := 16) iX0_remember_20 rfl ?_
  refine r_icmp_ge iX0_remember_22 (fun g => ?_) (fun g => ?_)
  · have g2 : ¬ nx + 1 < 16 := fun q => nI_ge (a := nx + 1) (b := 16) q (by omega) (by rw [nI_succ nx]; exact g)
    refine r_iconst (v := 0) iX0_remember_34 rfl ?_
    exact tail _ (by rw [nx1, if_neg g2]; rfl) _
  · have g2 : nx + 1 < 16 := by
      rcases Nat.lt_or_ge (nx + 1) 16 with q | q
      · exact q
      · exact absurd (show nI 16 ≤ nI nx + 1 by rw [← nI_succ]; exact nI_le (a := 16) q (by omega)) g
    refine r_aload iX0_remember_25 rfl ?_
    refine r_getfield iX0_remember_26 (flX0_22 _ rfl) (hset_eq _ _ _) rfl ?_
    refine r_iconst (v := 1) iX0_remember_29 rfl ?_
    refine r_iadd iX0_remember_30 ?_
    refine r_goto iX0_remember_31 ?_
    exact tail _ (by rw [nx1, if_pos g2, nI_succ]) _
theorem remH_at {h : Hp} {a sz nx : Nat} {W : Nat → Cn} (K : Cn) (hnx : nx < 16) (H : aAt h a sz nx W) : aAt (remH h a sz nx W K) a (sz1 sz) (nx1 nx) (upW W nx (copyC K (W nx).2.2.2)) := by
  unfold remH
  refine ⟨hset_eq _ _ _, ?_, fun j hj => ?_⟩
  · rw [hset_ne _ _ (by omega), cOv_out _ _ _ (by omega)]; exact H.2.1
  · by_cases g : j = nx
    · subst g
      rw [upW, if_pos rfl]
      exact (conAt_cOv h _ _).kept fun x h1 h2 => hset_ne _ _ (by omega)
    · rw [upW, if_neg g]
      exact ((H.2.2 j hj).out _ (by omega)).kept fun x h1 h2 => hset_ne _ _ (by omega)
theorem remH_out {h : Hp} {a sz nx : Nat} {W : Nat → Cn} {K : Cn} (hnx : nx < 16) {x : Nat} (hx : x < a ∨ a + 98 ≤ x) : remH h a sz nx W K x = h x := by
  unfold remH
  rw [hset_ne _ _ (by omega), cOv_out _ _ _ (by omega)]
def nxB (nx : Nat) : Nat := if 0 < nx then nx - 1 else 15
theorem nxB_lt {nx : Nat} (h : nx < 16) : nxB nx < 16 := by unfold nxB; split <;> omega
def takH (h : Hp) (a c sz nx : Nat) (W : Nat → Cn) (K : Cn) : Hp := hset (cOv h c (copyC (W (nxB nx)) K.2.2.2)) a (.inr (0, [.ref (a + 1), .int (nI (sz - 1)), .int (nI (nxB nx))]))
theorem c0_takeBack (h : Hp) (a c : Nat) (ha : 2 ≤ a) (hc : 2 ≤ c) {sz nx : Nat} (hs0 : 0 < sz) (hsz : sz ≤ 16) (hnx : nx < 16) {W : Nat → Cn} {K : Cn} (hn : (W (nxB nx)).1 ≤ 4) (H : aAt h a sz nx W) (HK : conAt h c K) (hd : c + 6 ≤ a ∨ a + 98 ≤ c) : Pr MX0_takeBack 2 [.ref a, .ref c] h none (takH h a c sz nx W K) := by
  intro z
  refine Cal_of_R (by decide +kernel) (L := [.ref a, .ref c]) rfl (Nat.le_of_ble_eq_true rfl) ?_
  refine R_heap (hset_self H.1).symm ?_
  have tail : ∀ x : Int32, x = nI (nxB nx) → ∀ z, R MX0_takeBack 2 0 0 (fun v h' z' => v = none ∧ h' = takH h a c sz nx W K ∧ z' = z) 19 [.ref a, .ref c] [.int x, .ref a] (hset h a (.inr (0, [.ref (a + 1), .int (nI sz), .int (nI nx)]))) z 0 0 := by
    intro x hx z
    subst hx
    have hb := nxB_lt hnx
    refine r_putO iX0_takeBack_19 (fpX0_22 _ rfl) ha (Nat.le_of_ble_eq_true rfl) ⟨rfl, rfl⟩ ?_
    have H1 : aAt (hset h a (.inr (0, [.ref (a + 1), .int (nI sz), .int (nI (nxB nx))]))) a sz (nxB nx) W := ⟨hset_eq _ _ _, by rw [hset_ne _ _ (by omega)]; exact H.2.1, fun j hj => (H.2.2 j hj).kept fun x h1 h2 => hset_ne _ _ (by omega)⟩
    have HK1 : conAt (hset h a (.inr (0, [.ref (a + 1), .int (nI sz), .int (nI (nxB nx))]))) c K := HK.kept fun x h1 h2 => hset_ne _ _ (by omega)
    refine R_heap (show _ = hset h a (.inr (0, [.ref (a + 1), .int (nI sz), .int (nI (nxB nx))])) from rfl) ?_
    refine r_aload iX0_takeBack_22 rfl ?_
    refine r_aload iX0_takeBack_23 rfl ?_
    refine r_getfield iX0_takeBack_24 (flX0_11 _ rfl) (hset_eq _ _ _) rfl ?_
    refine r_aload iX0_takeBack_27 rfl ?_
    refine r_getfield iX0_takeBack_28 (flX0_22 _ rfl) (hset_eq _ _ _) rfl ?_
    refine r_aaload iX0_takeBack_31 rfl (H1.2.1) (in16 hb) (con_ix a hb) ?_
    refine r_callV iX0_takeBack_32 (cX0_25 _ rfl) (Pr_con HK1 (c2_copyFrom _ c _ hc K hn _ _ _ (by omega) (H1.2.2 (nxB nx) hb)) _) (by omega) (HK1.1) rfl rfl rfl (Nat.le_of_ble_eq_true rfl) (by first | exact Nat.le_of_ble_eq_true rfl | omega) (by first | exact Nat.le_of_ble_eq_true rfl | omega) ?_
    rintro v h' z' ⟨rfl, rfl, rfl⟩
    have hobj : cOv (hset h a (.inr (0, [.ref (a + 1), .int (nI sz), .int (nI (nxB nx))]))) c ((W (nxB nx)).1, (W (nxB nx)).2.1, (W (nxB nx)).2.2.1, mapT (fun j _ => (W (nxB nx)).2.2.2 j) K.2.2.2 (W (nxB nx)).1) a = some (.inr (0, [.ref (a + 1), .int (nI sz), .int (nI (nxB nx))])) := by rw [cOv_out _ _ _ (by omega), hset_eq]
    refine R_heap (hset_self hobj).symm ?_
    refine r_aload iX0_takeBack_35 rfl ?_
    refine r_dup iX0_takeBack_36 rfl ?_
    refine r_getfield iX0_takeBack_37 (flX0_18 _ rfl) (hset_eq _ _ _) rfl ?_
    refine r_iconst (v := 1) iX0_takeBack_40 rfl ?_
    refine r_isub iX0_takeBack_41 ?_
    refine r_putO iX0_takeBack_42 (fpX0_18 _ rfl) ha (Nat.le_of_ble_eq_true rfl) ⟨rfl, rfl⟩ ?_
    refine r_vret iX0_takeBack_45 rfl ?_
    refine ⟨rfl, ?_, rfl⟩
    have e1 : nI sz - 1 = nI (sz - 1) := by rw [show sz = sz - 1 + 1 by omega, nI_pred]; rfl
    rw [e1]
    funext x
    unfold takH
    by_cases g : x = a
    · rw [g, hset_eq, hset_eq]; rfl
    · rw [hset_ne _ _ g, hset_ne _ _ g]
      unfold cOv
      rw [hset_ne _ _ g]; rfl
  refine r_aload iX0_takeBack_0 rfl ?_
  refine r_aload iX0_takeBack_1 rfl ?_
  refine r_getfield iX0_takeBack_2 (flX0_22 _ rfl) (hset_eq _ _ _) rfl ?_
  refine r_if_le iX0_takeBack_5 (fun g => ?_) (fun g => ?_)
  · have g2 : ¬ 0 < nx := fun q => nI_nle q (by omega) g
    refine r_bipush (v := 15) iX0_takeBack_17 rfl ?_
    exact tail _ (by rw [nxB, if_neg g2]; rfl) _
  · have g2 : 0 < nx := by
      rcases Nat.eq_zero_or_pos nx with q | q
      · exact absurd (by rw [q]; decide) g
      · exact q
    refine r_aload iX0_takeBack_8 rfl ?_
    refine r_getfield iX0_takeBack_9 (flX0_22 _ rfl) (hset_eq _ _ _) rfl ?_
    refine r_iconst (v := 1) iX0_takeBack_12 rfl ?_
    refine r_isub iX0_takeBack_13 ?_
    refine r_goto iX0_takeBack_14 ?_
    exact tail _ (by rw [nxB, if_pos g2]; show nI nx - 1 = _; rw [show nx = nx - 1 + 1 by omega, nI_pred]; rfl) _
