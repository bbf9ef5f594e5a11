/-! the model's acts, slots and copies -/
/-- F with m places from d on as in G from s on -/
def cpy (F G : Nat → Int32) (d s m : Nat) : Nat → Int32 := fun q => if d ≤ q ∧ q < d + m then G (s + (q - d)) else F q
theorem cpy_0 (F G : Nat → Int32) (d s : Nat) : cpy F G d s 0 = F := by
  funext q; unfold cpy; rw [if_neg (by omega)]
theorem cpy_s (F G : Nat → Int32) (d s p : Nat) : upd (cpy F G d s p) (d + p) (G (s + p)) = cpy F G d s (p + 1) := by
  funext q
  rw [upd_at]
  by_cases g : q = d + p
  · subst g
    rw [if_pos rfl, cpy, if_pos (by omega), show s + (d + p - d) = s + p by omega]
  · rw [if_neg g]; unfold cpy
    by_cases g2 : d ≤ q ∧ q < d + p
    · rw [if_pos g2, if_pos (by omega)]
    · rw [if_neg g2, if_neg (by omega)]
theorem cpy_in (F G : Nat → Int32) {d s m q : Nat} (h : q < m) : cpy F G d s m (d + q) = G (s + q) := by
  unfold cpy; rw [if_pos (by omega), show s + (d + q - d) = s + q by omega]
theorem cpy_out (F G : Nat → Int32) {d s m q : Nat} (h : q < d ∨ d + m ≤ q) : cpy F G d s m q = F q := by
  unfold cpy; rw [if_neg (by omega)]
/-- the k-th array made anew -/
def stA (A : Nat → Nat → Int32) (k : Nat) (F : Nat → Int32) : Nat → Nat → Int32 := fun j => if j = k then F else A j
theorem upA_stA (A : Nat → Nat → Int32) (k : Nat) (F : Nat → Int32) (p : Nat) (v : Int32) : upA (stA A k F) k p v = stA A k (upd F p v) := by
  funext j; unfold upA stA
  by_cases g : j = k
  · rw [if_pos g, if_pos rfl, if_pos g]
  · rw [if_neg g, if_neg g, if_neg g]
theorem stA_id (A : Nat → Nat → Int32) (k : Nat) : stA A k (A k) = A := by
  funext j; unfold stA
  by_cases g : j = k
  · rw [if_pos g, g]
  · rw [if_neg g]
theorem stA_eq {A : Nat → Nat → Int32} {k : Nat} {F : Nat → Int32} : stA A k F k = F := if_pos rfl
theorem stA_ne {A : Nat → Nat → Int32} {k : Nat} {F : Nat → Int32} {j : Nat} (h : j ≠ k) : stA A k F j = A j := if_neg h
/-- thirty places from s on hold the contest -/
def EnG (st wd F : Nat → Int32) (s n : Nat) (b u : Int32) (t : Nat → Nat → Int32) : Prop := F s = b ∧ F (s + 1) = u ∧ ∀ i, i < n → t i 0 = st i ∧ t i 1 = wd i ∧ ∀ w, w < 7 → t i (w + 2) = F (s + 2 + 7 * i + w)
theorem En_G {A : Nat → Nat → Int32} {l n : Nat} {b u : Int32} {t : Nat → Nat → Int32} : En A l n b u t ↔ EnG (A 0) (A 1) (A 3) (30 * l) n b u t := Iff.rfl
theorem EnG.copied {st wd F G : Nat → Int32} {d s n : Nat} {b u : Int32} {t : Nat → Nat → Int32} (H : EnG st wd G s n b u t) (hn : n ≤ 4) : EnG st wd (cpy F G d s 30) d n b u t := by
  refine ⟨?_, ?_, fun i hi => ⟨(H.2.2 i hi).1, (H.2.2 i hi).2.1, fun w hw => ?_⟩⟩
  · have e := cpy_in F G (d := d) (s := s) (m := 30) (q := 0) (by omega)
    rw [Nat.add_zero, Nat.add_zero] at e; rw [e]; exact H.1
  · rw [cpy_in F G (d := d) (s := s) (m := 30) (q := 1) (by omega)]; exact H.2.1
  · rw [show d + 2 + 7 * i + w = d + (2 + 7 * i + w) by omega, cpy_in F G (by omega), show s + (2 + 7 * i + w) = s + 2 + 7 * i + w by omega]
    exact (H.2.2 i hi).2.2 w hw
theorem EnG.out {st wd F G : Nat → Int32} {d s s' n : Nat} {b u : Int32} {t : Nat → Nat → Int32} (H : EnG st wd F s' n b u t) (hn : n ≤ 4) (hd : s' + 30 ≤ d ∨ d + 30 ≤ s') : EnG st wd (cpy F G d s 30) s' n b u t := by
  refine ⟨?_, ?_, fun i hi => ⟨(H.2.2 i hi).1, (H.2.2 i hi).2.1, fun w hw => ?_⟩⟩
  · rw [cpy_out F G (by omega)]; exact H.1
  · rw [cpy_out F G (by omega)]; exact H.2.1
  · rw [cpy_out F G (by omega)]; exact (H.2.2 i hi).2.2 w hw
theorem EnG.same {st wd F G : Nat → Int32} {s n : Nat} {b u : Int32} {t : Nat → Nat → Int32} (H : EnG st wd F s n b u t) (hn : n ≤ 4) (e : ∀ q, s ≤ q → q < s + 30 → G q = F q) : EnG st wd G s n b u t :=
  ⟨(e _ (by omega) (by omega)).trans H.1, (e _ (by omega) (by omega)).trans H.2.1, fun i hi => ⟨(H.2.2 i hi).1, (H.2.2 i hi).2.1, fun w hw => by rw [e _ (by omega) (by omega)]; exact (H.2.2 i hi).2.2 w hw⟩⟩
theorem EnG.congr {st wd F : Nat → Int32} {s n : Nat} {b u : Int32} {t t' : Nat → Nat → Int32} (H : EnG st wd F s n b u t) (e : ∀ i, i < n → ∀ j, j < 9 → t' i j = t i j) : EnG st wd F s n b u t' :=
  ⟨H.1, H.2.1, fun i hi => ⟨(e i hi 0 (by omega)).trans (H.2.2 i hi).1, (e i hi 1 (by omega)).trans (H.2.2 i hi).2.1, fun w hw => (e i hi (w + 2) (by omega)).trans ((H.2.2 i hi).2.2 w hw)⟩⟩
theorem c7_keepAct (h : Hp) {I : Nat → Int32} (J : Nat → Int64) (A : Nat → Nat → Int32) (me : Nat → Int64) {nx sz : Nat} (h3 : I 3 = nI nx) (h2 : I 2 = nI sz) (hnx : nx < 16) (hsz : sz ≤ 16) : Pr MX7_keepAct 0 [.ref 152] (mOv h (I, J, A, me)) none (mOv h (upd (upd I 3 (nI (nx1 nx))) 2 (nI (sz1 sz)), J, stA A 4 (cpy (A 4) (A 3) (30 * nx) 0 30), me)) := by
  intro z
  refine Cal_of_R (by decide +kernel) (L := [.ref 152, .null]) rfl (Nat.le_of_ble_eq_true rfl) ?_
  have em : nI (nx + 1) - nI (nx + 1) / 16 * 16 = nI (nx1 nx) := by
    have : ∀ nx, nx < 16 → nI (nx + 1) - nI (nx + 1) / 16 * 16 = nI (nx1 nx) := by decide +kernel
    exact this nx hnx
  have loop : ∀ (j p : Nat), p + j = 30 → R MX7_keepAct 0 0 0 (fun v h' z' => v = none ∧ h' = mOv h (upd (upd I 3 (nI (nx1 nx))) 2 (nI (sz1 sz)), J, stA A 4 (cpy (A 4) (A 3) (30 * nx) 0 30), me) ∧ z' = z) 2 [.ref 152, .int (nI p)] [] (mOv h (I, J, stA A 4 (cpy (A 4) (A 3) (30 * nx) 0 p), me)) z 0 0 := by
    intro j
    induction j with
    | zero =>
      intro p hp
      obtain rfl : p = 30 := by omega
      refine r_iload iX7_keepAct_2 rfl ?_
      refine r_bipush (v := 30) iX7_keepAct_3 rfl ?_
      refine r_icmp_ge iX7_keepAct_5 (fun _ => ?_) (fun g9 => absurd (by decide) g9)
      refine r_aload iX7_keepAct_34 rfl ?_
      refine r_aload iX7_keepAct_35 rfl ?_
      refine r_gnext iX7_keepAct_36 (flX7_97 _ rfl) ?_
      rw [h3]
      refine r_iconst (v := 1) iX7_keepAct_39 rfl ?_
      refine r_iadd iX7_keepAct_40 ?_
      rw [nI_1]
      refine r_bipush (v := 16) iX7_keepAct_41 rfl ?_
      refine r_irem iX7_keepAct_43 (by decide) ?_
      rw [em]
      refine r_mnext iX7_keepAct_44 (fpX7_97 _ rfl) ?_
      refine r_aload iX7_keepAct_47 rfl ?_
      refine r_aload iX7_keepAct_48 rfl ?_
      refine r_gacts iX7_keepAct_49 (flX7_71 _ rfl) ?_
      rw [show upd I 3 (nI (nx1 nx)) 2 = nI sz from h2]
      by_cases g : sz < 16
      · refine r_bipush (v := 16) iX7_keepAct_52 rfl ?_
        refine r_icmp_ge iX7_keepAct_54 (fun g9 => absurd g9 (nI_ge (b := 16) g (by omega))) (fun _ => ?_)
        refine r_aload iX7_keepAct_57 rfl ?_
        refine r_gacts iX7_keepAct_58 (flX7_71 _ rfl) ?_
        rw [show upd I 3 (nI (nx1 nx)) 2 = nI sz from h2]
        refine r_iconst (v := 1) iX7_keepAct_61 rfl ?_
        refine r_iadd iX7_keepAct_62 ?_
        rw [nI_1]
        refine r_goto iX7_keepAct_63 ?_
        refine r_macts iX7_keepAct_68 (fpX7_71 _ rfl) ?_
        refine r_vret iX7_keepAct_71 rfl ?_
        exact ⟨rfl, by rw [sz1, if_pos g], rfl⟩
      · have : sz = 16 := by omega
        subst this
        refine r_bipush (v := 16) iX7_keepAct_52 rfl ?_
        refine r_icmp_ge iX7_keepAct_54 (fun _ => ?_) (fun g9 => absurd (by decide) g9)
        refine r_bipush (v := 16) iX7_keepAct_66 rfl ?_
        refine r_macts iX7_keepAct_68 (fpX7_71 _ rfl) ?_
        refine r_vret iX7_keepAct_71 rfl ?_
        exact ⟨rfl, rfl, rfl⟩
    | succ j ih =>
      intro p hp
      refine r_iload iX7_keepAct_2 rfl ?_
      refine r_bipush (v := 30) iX7_keepAct_3 rfl ?_
      refine r_icmp_ge iX7_keepAct_5 (fun g9 => absurd g9 (nI_ge (b := 30) (by omega) (by omega))) (fun _ => ?_)
      refine r_aload iX7_keepAct_8 rfl ?_
      refine r_grow iX7_keepAct_9 (flX7_22 _ rfl) ?_
      refine r_bipush (v := 30) iX7_keepAct_12 rfl ?_
      refine r_aload iX7_keepAct_14 rfl ?_
      refine r_gnext iX7_keepAct_15 (flX7_97 _ rfl) ?_
      rw [h3]
      refine r_imul iX7_keepAct_18 ?_
      refine r_iload iX7_keepAct_19 rfl ?_
      refine r_iadd iX7_keepAct_20 ?_
      rw [ix0, nI_add]
      refine r_aload iX7_keepAct_21 rfl ?_
      refine r_gnow iX7_keepAct_22 (flX7_19 _ rfl) ?_
      refine r_iload iX7_keepAct_25 rfl ?_
      refine r_ld3 iX7_keepAct_26 rfl (by omega) ?_
      refine r_st4 iX7_keepAct_27 rfl (by omega) ?_
      rw [show stA A 4 (cpy (A 4) (A 3) (30 * nx) 0 p) 3 p = A 3 (0 + p) by rw [stA_ne (by omega), Nat.zero_add], upA_stA, cpy_s]
      refine r_iinc_1 iX7_keepAct_28 (by first | exact nI_inc _ | rfl) rfl ?_
      refine r_goto iX7_keepAct_31 ?_
      exact ih (p + 1) (by omega)
  refine r_iconst (v := 0) iX7_keepAct_0 rfl ?_
  refine r_istore_1 iX7_keepAct_1 rfl ?_
  have e := loop 30 0 (by omega)
  rw [cpy_0, stA_id] at e
  exact e
theorem c7_copyNow (h : Hp) (I : Nat → Int32) (J : Nat → Int64) (A : Nat → Nat → Int32) (me : Nat → Int64) : Pr MX7_copyNow 0 [.ref 152] (mOv h (I, J, A, me)) none (mOv h (I, J, stA A 3 (cpy (A 3) (A 3) 30 0 30), me)) := by
  intro z
  refine Cal_of_R (by decide +kernel) (L := [.ref 152, .null]) rfl (Nat.le_of_ble_eq_true rfl) ?_
  have loop : ∀ (j p : Nat), p + j = 30 → R MX7_copyNow 0 0 0 (fun v h' z' => v = none ∧ h' = mOv h (I, J, stA A 3 (cpy (A 3) (A 3) 30 0 30), me) ∧ z' = z) 2 [.ref 152, .int (nI p)] [] (mOv h (I, J, stA A 3 (cpy (A 3) (A 3) 30 0 p), me)) z 0 0 := by
    intro j
    induction j with
    | zero =>
      intro p hp
      obtain rfl : p = 30 := by omega
      refine r_iload iX7_copyNow_2 rfl ?_
      refine r_bipush (v := 30) iX7_copyNow_3 rfl ?_
      refine r_icmp_ge iX7_copyNow_5 (fun _ => ?_) (fun g9 => absurd (by decide) g9)
      refine r_vret iX7_copyNow_29 rfl ?_
      exact ⟨rfl, rfl, rfl⟩
    | succ j ih =>
      intro p hp
      refine r_iload iX7_copyNow_2 rfl ?_
      refine r_bipush (v := 30) iX7_copyNow_3 rfl ?_
      refine r_icmp_ge iX7_copyNow_5 (fun g9 => absurd g9 (nI_ge (b := 30) (by omega) (by omega))) (fun _ => ?_)
      refine r_aload iX7_copyNow_8 rfl ?_
      refine r_gnow iX7_copyNow_9 (flX7_19 _ rfl) ?_
      refine r_bipush (v := 30) iX7_copyNow_12 rfl ?_
      refine r_iload iX7_copyNow_14 rfl ?_
      refine r_iadd iX7_copyNow_15 ?_
      rw [show (30 : Int32) + nI p = nI (30 + p) from nI_add 30 p]
      refine r_aload iX7_copyNow_16 rfl ?_
      refine r_gnow iX7_copyNow_17 (flX7_19 _ rfl) ?_
      refine r_iload iX7_copyNow_20 rfl ?_
      refine r_ld3 iX7_copyNow_21 rfl (by omega) ?_
      refine r_st3 iX7_copyNow_22 rfl (by omega) ?_
      rw [show stA A 3 (cpy (A 3) (A 3) 30 0 p) 3 p = A 3 (0 + p) by rw [stA_eq, cpy_out _ _ (by omega), Nat.zero_add], upA_stA, cpy_s]
      refine r_iinc_1 iX7_copyNow_23 (by first | exact nI_inc _ | rfl) rfl ?_
      refine r_goto iX7_copyNow_26 ?_
      exact ih (p + 1) (by omega)
  refine r_iconst (v := 0) iX7_copyNow_0 rfl ?_
  refine r_istore_1 iX7_copyNow_1 rfl ?_
  have e := loop 30 0 (by omega)
  rw [cpy_0, stA_id] at e
  exact e
theorem c7_undo_no (h : Hp) {I : Nat → Int32} (J : Nat → Int64) (A : Nat → Nat → Int32) (me : Nat → Int64) (h2 : I 2 = 0) : Fn MX7_undo 0 [.ref 152] (mOv h (I, J, A, me)) (some (.int (-3))) := by
  intro z
  refine Cal_of_R (by decide +kernel) (L := [.ref 152, .null]) rfl (Nat.le_of_ble_eq_true rfl) ?_
  refine r_aload iX7_undo_0 rfl ?_
  refine r_gacts iX7_undo_1 (flX7_71 _ rfl) ?_
  rw [h2]
  refine r_if_ne iX7_undo_4 (fun g9 => absurd (rfl) g9) (fun _ => ?_)
  refine r_bipush (v := (-3)) iX7_undo_7 rfl ?_
  refine r_iret iX7_undo_9 rfl ?_
  exact ⟨rfl, rfl, rfl⟩
theorem c7_undo (h : Hp) {I : Nat → Int32} (J : Nat → Int64) (A : Nat → Nat → Int32) (me : Nat → Int64) {nx sz : Nat} (h3 : I 3 = nI nx) (h2 : I 2 = nI sz) (hnx : nx < 16) (h0 : 0 < sz) (hsz : sz ≤ 16) : Pr MX7_undo 0 [.ref 152] (mOv h (I, J, A, me)) (some (.int (nI (sz - 1)))) (mOv h (upd (upd I 2 (nI (sz - 1))) 3 (nI (nxB nx)), J, stA A 3 (cpy (A 3) (A 4) 0 (30 * nxB nx) 30), me)) := by
  intro z
  refine Cal_of_R (by decide +kernel) (L := [.ref 152, .null]) rfl (Nat.le_of_ble_eq_true rfl) ?_
  have em : nI (nx + 15) - nI (nx + 15) / 16 * 16 = nI (nxB nx) := by
    have : ∀ nx, nx < 16 → nI (nx + 15) - nI (nx + 15) / 16 * 16 = nI (nxB nx) := by decide +kernel
    exact this nx hnx
  have hB : nxB nx < 16 := by unfold nxB; split <;> omega
  have loop : ∀ (j p : Nat), p + j = 30 → R MX7_undo 0 0 0 (fun v h' z' => v = some (.int (nI (sz - 1))) ∧ h' = mOv h (upd (upd I 2 (nI (sz - 1))) 3 (nI (nxB nx)), J, stA A 3 (cpy (A 3) (A 4) 0 (30 * nxB nx) 30), me) ∧ z' = z) 36 [.ref 152, .int (nI p)] [] (mOv h (upd (upd I 2 (nI (sz - 1))) 3 (nI (nxB nx)), J, stA A 3 (cpy (A 3) (A 4) 0 (30 * nxB nx) p), me)) z 0 0 := by
    intro j
    induction j with
    | zero =>
      intro p hp
      obtain rfl : p = 30 := by omega
      refine r_iload iX7_undo_36 rfl ?_
      refine r_bipush (v := 30) iX7_undo_37 rfl ?_
      refine r_icmp_ge iX7_undo_39 (fun _ => ?_) (fun g9 => absurd (by decide) g9)
      refine r_aload iX7_undo_68 rfl ?_
      refine r_gacts iX7_undo_69 (flX7_71 _ rfl) ?_
      refine r_iret iX7_undo_72 rfl ?_
      exact ⟨rfl, rfl, rfl⟩
    | succ j ih =>
      intro p hp
      refine r_iload iX7_undo_36 rfl ?_
      refine r_bipush (v := 30) iX7_undo_37 rfl ?_
      refine r_icmp_ge iX7_undo_39 (fun g9 => absurd g9 (nI_ge (b := 30) (by omega) (by omega))) (fun _ => ?_)
      refine r_aload iX7_undo_42 rfl ?_
      refine r_gnow iX7_undo_43 (flX7_19 _ rfl) ?_
      refine r_iload iX7_undo_46 rfl ?_
      refine r_aload iX7_undo_47 rfl ?_
      refine r_grow iX7_undo_48 (flX7_22 _ rfl) ?_
      refine r_bipush (v := 30) iX7_undo_51 rfl ?_
      refine r_aload iX7_undo_53 rfl ?_
      refine r_gnext iX7_undo_54 (flX7_97 _ rfl) ?_
      rw [show upd (upd I 2 (nI (sz - 1))) 3 (nI (nxB nx)) 3 = nI (nxB nx) from rfl]
      refine r_imul iX7_undo_57 ?_
      refine r_iload iX7_undo_58 rfl ?_
      refine r_iadd iX7_undo_59 ?_
      rw [ix0, nI_add]
      refine r_ld4 iX7_undo_60 rfl (by omega) ?_
      refine r_st3 iX7_undo_61 rfl (by omega) ?_
      have e1 := cpy_s (A 3) (A 4) 0 (30 * nxB nx) p
      rw [Nat.zero_add] at e1
      rw [show stA A 3 (cpy (A 3) (A 4) 0 (30 * nxB nx) p) 4 (30 * nxB nx + p) = A 4 (30 * nxB nx + p) by rw [stA_ne (by omega)], upA_stA, e1]
      refine r_iinc_1 iX7_undo_62 (by first | exact nI_inc _ | rfl) rfl ?_
      refine r_goto iX7_undo_65 ?_
      exact ih (p + 1) (by omega)
  refine r_aload iX7_undo_0 rfl ?_
  refine r_gacts iX7_undo_1 (flX7_71 _ rfl) ?_
  rw [h2]
  refine r_if_ne iX7_undo_4 (fun _ => ?_) (fun g9 => absurd g9 (nI_ne0 h0 (by omega)))
  refine r_aload iX7_undo_10 rfl ?_
  refine r_dup iX7_undo_11 rfl ?_
  refine r_gacts iX7_undo_12 (flX7_71 _ rfl) ?_
  rw [h2]
  refine r_iconst (v := 1) iX7_undo_15 rfl ?_
  refine r_isub iX7_undo_16 ?_
  rw [show nI sz - 1 = nI (sz - 1) from nI_sub (b := 1) (by omega)]
  refine r_macts iX7_undo_17 (fpX7_71 _ rfl) ?_
  refine r_aload iX7_undo_20 rfl ?_
  refine r_aload iX7_undo_21 rfl ?_
  refine r_gnext iX7_undo_22 (flX7_97 _ rfl) ?_
  rw [show upd I 2 (nI (sz - 1)) 3 = nI nx from h3]
  refine r_bipush (v := 15) iX7_undo_25 rfl ?_
  refine r_iadd iX7_undo_27 ?_
  rw [show nI nx + 15 = nI (nx + 15) from nI_add nx 15]
  refine r_bipush (v := 16) iX7_undo_28 rfl ?_
  refine r_irem iX7_undo_30 (by decide) ?_
  rw [em]
  refine r_mnext iX7_undo_31 (fpX7_97 _ rfl) ?_
  refine r_iconst (v := 0) iX7_undo_34 rfl ?_
  refine r_istore_1 iX7_undo_35 rfl ?_
  have e := loop 30 0 (by omega)
  rw [cpy_0, stA_id] at e
  exact e
theorem c7_keep_no (h : Hp) (s : Ms) {x : Int32} (hx : x < 0 ∨ 1 < x) : Fn MX7_keep 1 [.ref 152, .int x] (mOv h s) (some (.int (-1))) := by
  intro z
  refine Cal_of_R (by decide +kernel) (L := [.ref 152, .int x, .null]) rfl (Nat.le_of_ble_eq_true rfl) ?_
  refine r_iload iX7_keep_0 rfl ?_
  refine r_i2l iX7_keep_1 ?_
  refine r_lconst (v := 0) iX7_keep_2 rfl ?_
  refine r_lconst (v := 1) iX7_keep_3 rfl ?_
  refine r_callS iX7_keep_4 (cX7_44 _ rfl) (c7_inE _ (x := x) (lo := 0) (hi := 1) rfl rfl rfl _) (by omega) rfl rfl (Nat.le_of_ble_eq_true rfl) (by first | exact Nat.le_of_ble_eq_true rfl | omega) (by first | exact Nat.le_of_ble_eq_true rfl | omega) ?_
  rintro v h' z' ⟨rfl, rfl, rfl⟩
  rw [if_neg (show ¬ (0 ≤ x ∧ x ≤ 1) from fun q => hx.elim (fun r => absurd q.1 (Int32.not_le.mpr r)) (fun r => absurd q.2 (Int32.not_le.mpr r)))]
  refine r_if_ne iX7_keep_7 (fun g9 => absurd (rfl) g9) (fun _ => ?_)
  refine r_iconst (v := (-1)) iX7_keep_10 rfl ?_
  refine r_iret iX7_keep_11 rfl ?_
  exact ⟨rfl, rfl, rfl⟩
theorem c7_keep (h : Hp) (I : Nat → Int32) (J : Nat → Int64) (A : Nat → Nat → Int32) (me : Nat → Int64) {s : Nat} (hs : s < 2) : Pr MX7_keep 1 [.ref 152, .int (nI s)] (mOv h (I, J, A, me)) (some (.int (A 3 0))) (mOv h (I, J, stA (upA A 7 s 1) 8 (cpy (A 8) (A 3) (30 * s) 0 30), me)) := by
  intro z
  refine Cal_of_R (by decide +kernel) (L := [.ref 152, .int (nI s), .null]) rfl (Nat.le_of_ble_eq_true rfl) ?_
  refine r_iload iX7_keep_0 rfl ?_
  refine r_i2l iX7_keep_1 ?_
  refine r_lconst (v := 0) iX7_keep_2 rfl ?_
  refine r_lconst (v := 1) iX7_keep_3 rfl ?_
  refine r_callS iX7_keep_4 (cX7_44 _ rfl) (c7_inE _ (x := nI s) (lo := 0) (hi := 1) rfl rfl rfl _) (by omega) rfl rfl (Nat.le_of_ble_eq_true rfl) (by first | exact Nat.le_of_ble_eq_true rfl | omega) (by first | exact Nat.le_of_ble_eq_true rfl | omega) ?_
  rintro v h' z' ⟨rfl, rfl, rfl⟩
  rw [if_pos (show (0 : Int32) ≤ nI s ∧ nI s ≤ 1 from ⟨nI_pos' (by omega), nI_le (b := 1) (by omega) (by omega)⟩)]
  refine r_if_ne iX7_keep_7 (fun _ => ?_) (fun g9 => absurd g9 (by decide))
  refine r_aload iX7_keep_12 rfl ?_
  refine r_gisKept iX7_keep_13 (flX7_35 _ rfl) ?_
  refine r_iload iX7_keep_16 rfl ?_
  refine r_iconst (v := 1) iX7_keep_17 rfl ?_
  refine r_st7 iX7_keep_18 rfl (by omega) (by simp) ?_
  refine r_iconst (v := 0) iX7_keep_19 rfl ?_
  refine r_istore_2 iX7_keep_20 rfl ?_
  have loop : ∀ (j p : Nat), p + j = 30 → R MX7_keep 1 0 0 (fun v h' z'_1 => v = some (.int (A 3 0)) ∧ h' = mOv h (I, J, stA (upA A 7 s 1) 8 (cpy (A 8) (A 3) (30 * s) 0 30), me) ∧ z'_1 = z') 21 [.ref 152, .int (nI s), .int (nI p)] [] (mOv h (I, J, stA (upA A 7 s 1) 8 (cpy (A 8) (A 3) (30 * s) 0 p), me)) z' 0 0 := by
    intro j
    induction j with
    | zero =>
      intro p hp
      obtain rfl : p = 30 := by omega
      refine r_iload iX7_keep_21 rfl ?_
      refine r_bipush (v := 30) iX7_keep_22 rfl ?_
      refine r_icmp_ge iX7_keep_24 (fun _ => ?_) (fun g9 => absurd (by decide) g9)
      refine r_aload iX7_keep_50 rfl ?_
      refine r_gnow iX7_keep_51 (flX7_19 _ rfl) ?_
      refine r_iconst (v := 0) iX7_keep_54 rfl ?_
      refine r_ld3 iX7_keep_55 ((show (0 : Int32) = nI 0 from rfl)) (by omega) ?_
      refine r_iret iX7_keep_56 rfl ?_
      exact ⟨rfl, rfl, rfl⟩
    | succ j ih =>
      intro p hp
      refine r_iload iX7_keep_21 rfl ?_
      refine r_bipush (v := 30) iX7_keep_22 rfl ?_
      refine r_icmp_ge iX7_keep_24 (fun g9 => absurd g9 (nI_ge (b := 30) (by omega) (by omega))) (fun _ => ?_)
      refine r_aload iX7_keep_27 rfl ?_
      refine r_gkept iX7_keep_28 (flX7_39 _ rfl) ?_
      refine r_bipush (v := 30) iX7_keep_31 rfl ?_
      refine r_iload iX7_keep_33 rfl ?_
      refine r_imul iX7_keep_34 ?_
      refine r_iload iX7_keep_35 rfl ?_
      refine r_iadd iX7_keep_36 ?_
      rw [ix0, nI_add]
      refine r_aload iX7_keep_37 rfl ?_
      refine r_gnow iX7_keep_38 (flX7_19 _ rfl) ?_
      refine r_iload iX7_keep_41 rfl ?_
      refine r_ld3 iX7_keep_42 rfl (by omega) ?_
      refine r_st8 iX7_keep_43 rfl (by omega) ?_
      rw [show stA (upA A 7 s 1) 8 (cpy (A 8) (A 3) (30 * s) 0 p) 3 p = A 3 (0 + p) by rw [stA_ne (by omega), upA_ne (by omega), Nat.zero_add], upA_stA, cpy_s]
      refine r_iinc_2 iX7_keep_44 (by first | exact nI_inc _ | rfl) rfl ?_
      refine r_goto iX7_keep_47 ?_
      exact ih (p + 1) (by omega)
  have e := loop 30 0 (by omega)
  rw [cpy_0, show stA (upA A 7 s 1) 8 (A 8) = upA A 7 s 1 by rw [show A 8 = upA A 7 s 1 8 from rfl, stA_id]] at e
  exact e
theorem c7_again_unk (h : Hp) (s : Ms) {x : Int32} (hx : x < 0 ∨ 1 < x) : Fn MX7_again 1 [.ref 152, .int x] (mOv h s) (some (.int (-1))) := by
  intro z
  refine Cal_of_R (by decide +kernel) (L := [.ref 152, .int x, .null]) rfl (Nat.le_of_ble_eq_true rfl) ?_
  refine r_iload iX7_again_0 rfl ?_
  refine r_i2l iX7_again_1 ?_
  refine r_lconst (v := 0) iX7_again_2 rfl ?_
  refine r_lconst (v := 1) iX7_again_3 rfl ?_
  refine r_callS iX7_again_4 (cX7_44 _ rfl) (c7_inE _ (x := x) (lo := 0) (hi := 1) rfl rfl rfl _) (by omega) rfl rfl (Nat.le_of_ble_eq_true rfl) (by first | exact Nat.le_of_ble_eq_true rfl | omega) (by first | exact Nat.le_of_ble_eq_true rfl | omega) ?_
  rintro v h' z' ⟨rfl, rfl, rfl⟩
  rw [if_neg (show ¬ (0 ≤ x ∧ x ≤ 1) from fun q => hx.elim (fun r => absurd q.1 (Int32.not_le.mpr r)) (fun r => absurd q.2 (Int32.not_le.mpr r)))]
  refine r_if_ne iX7_again_7 (fun g9 => absurd (rfl) g9) (fun _ => ?_)
  refine r_iconst (v := (-1)) iX7_again_10 rfl ?_
  refine r_iret iX7_again_11 rfl ?_
  exact ⟨rfl, rfl, rfl⟩
theorem c7_again_no (h : Hp) (I : Nat → Int32) (J : Nat → Int64) (A : Nat → Nat → Int32) (me : Nat → Int64) {s : Nat} (hs : s < 2) (hk : A 7 s = 0) : Fn MX7_again 1 [.ref 152, .int (nI s)] (mOv h (I, J, A, me)) (some (.int (-3))) := by
  intro z
  refine Cal_of_R (by decide +kernel) (L := [.ref 152, .int (nI s), .null]) rfl (Nat.le_of_ble_eq_true rfl) ?_
  refine r_iload iX7_again_0 rfl ?_
  refine r_i2l iX7_again_1 ?_
  refine r_lconst (v := 0) iX7_again_2 rfl ?_
  refine r_lconst (v := 1) iX7_again_3 rfl ?_
  refine r_callS iX7_again_4 (cX7_44 _ rfl) (c7_inE _ (x := nI s) (lo := 0) (hi := 1) rfl rfl rfl _) (by omega) rfl rfl (Nat.le_of_ble_eq_true rfl) (by first | exact Nat.le_of_ble_eq_true rfl | omega) (by first | exact Nat.le_of_ble_eq_true rfl | omega) ?_
  rintro v h' z' ⟨rfl, rfl, rfl⟩
  rw [if_pos (show (0 : Int32) ≤ nI s ∧ nI s ≤ 1 from ⟨nI_pos' (by omega), nI_le (b := 1) (by omega) (by omega)⟩)]
  refine r_if_ne iX7_again_7 (fun _ => ?_) (fun g9 => absurd g9 (by decide))
  refine r_aload iX7_again_12 rfl ?_
  refine r_gisKept iX7_again_13 (flX7_35 _ rfl) ?_
  refine r_iload iX7_again_16 rfl ?_
  refine r_ld7 iX7_again_17 rfl (by omega) ?_
  rw [hk]
  refine r_if_ne iX7_again_18 (fun g9 => absurd (rfl) g9) (fun _ => ?_)
  refine r_bipush (v := (-3)) iX7_again_21 rfl ?_
  refine r_iret iX7_again_23 rfl ?_
  exact ⟨rfl, rfl, rfl⟩
theorem c7_again (h : Hp) (I : Nat → Int32) (J : Nat → Int64) (A : Nat → Nat → Int32) (me : Nat → Int64) {s : Nat} (hs : s < 2) (hk : ¬ A 7 s = 0) : Pr MX7_again 1 [.ref 152, .int (nI s)] (mOv h (I, J, A, me)) (some (.int (A 8 (30 * s)))) (mOv h (upd I 2 0, J, stA A 3 (cpy (A 3) (A 8) 0 (30 * s) 30), me)) := by
  intro z
  refine Cal_of_R (by decide +kernel) (L := [.ref 152, .int (nI s), .null]) rfl (Nat.le_of_ble_eq_true rfl) ?_
  refine r_iload iX7_again_0 rfl ?_
  refine r_i2l iX7_again_1 ?_
  refine r_lconst (v := 0) iX7_again_2 rfl ?_
  refine r_lconst (v := 1) iX7_again_3 rfl ?_
  refine r_callS iX7_again_4 (cX7_44 _ rfl) (c7_inE _ (x := nI s) (lo := 0) (hi := 1) rfl rfl rfl _) (by omega) rfl rfl (Nat.le_of_ble_eq_true rfl) (by first | exact Nat.le_of_ble_eq_true rfl | omega) (by first | exact Nat.le_of_ble_eq_true rfl | omega) ?_
  rintro v h' z' ⟨rfl, rfl, rfl⟩
  rw [if_pos (show (0 : Int32) ≤ nI s ∧ nI s ≤ 1 from ⟨nI_pos' (by omega), nI_le (b := 1) (by omega) (by omega)⟩)]
  refine r_if_ne iX7_again_7 (fun _ => ?_) (fun g9 => absurd g9 (by decide))
  refine r_aload iX7_again_12 rfl ?_
  refine r_gisKept iX7_again_13 (flX7_35 _ rfl) ?_
  refine r_iload iX7_again_16 rfl ?_
  refine r_ld7 iX7_again_17 rfl (by omega) ?_
  refine r_if_ne iX7_again_18 (fun _ => ?_) (fun g9 => absurd g9 (hk))
  refine r_iconst (v := 0) iX7_again_24 rfl ?_
  refine r_istore_2 iX7_again_25 rfl ?_
  have loop : ∀ (j p : Nat), p + j = 30 → R MX7_again 1 0 0 (fun v h' z'_1 => v = some (.int (A 8 (30 * s))) ∧ h' = mOv h (upd I 2 0, J, stA A 3 (cpy (A 3) (A 8) 0 (30 * s) 30), me) ∧ z'_1 = z') 26 [.ref 152, .int (nI s), .int (nI p)] [] (mOv h (I, J, stA A 3 (cpy (A 3) (A 8) 0 (30 * s) p), me)) z' 0 0 := by
    intro j
    induction j with
    | zero =>
      intro p hp
      obtain rfl : p = 30 := by omega
      refine r_iload iX7_again_26 rfl ?_
      refine r_bipush (v := 30) iX7_again_27 rfl ?_
      refine r_icmp_ge iX7_again_29 (fun _ => ?_) (fun g9 => absurd (by decide) g9)
      refine r_aload iX7_again_55 rfl ?_
      refine r_iconst (v := 0) iX7_again_56 rfl ?_
      refine r_macts iX7_again_57 (fpX7_71 _ rfl) ?_
      refine r_aload iX7_again_60 rfl ?_
      refine r_gnow iX7_again_61 (flX7_19 _ rfl) ?_
      refine r_iconst (v := 0) iX7_again_64 rfl ?_
      refine r_ld3 iX7_again_65 ((show (0 : Int32) = nI 0 from rfl)) (by omega) ?_
      refine r_iret iX7_again_66 rfl ?_
      exact ⟨rfl, rfl, rfl⟩
    | succ j ih =>
      intro p hp
      refine r_iload iX7_again_26 rfl ?_
      refine r_bipush (v := 30) iX7_again_27 rfl ?_
      refine r_icmp_ge iX7_again_29 (fun g9 => absurd g9 (nI_ge (b := 30) (by omega) (by omega))) (fun _ => ?_)
      refine r_aload iX7_again_32 rfl ?_
      refine r_gnow iX7_again_33 (flX7_19 _ rfl) ?_
      refine r_iload iX7_again_36 rfl ?_
      refine r_aload iX7_again_37 rfl ?_
      refine r_gkept iX7_again_38 (flX7_39 _ rfl) ?_
      refine r_bipush (v := 30) iX7_again_41 rfl ?_
      refine r_iload iX7_again_43 rfl ?_
      refine r_imul iX7_again_44 ?_
      refine r_iload iX7_again_45 rfl ?_
      refine r_iadd iX7_again_46 ?_
      rw [ix0, nI_add]
      refine r_ld8 iX7_again_47 rfl (by omega) ?_
      refine r_st3 iX7_again_48 rfl (by omega) ?_
      have e1 := cpy_s (A 3) (A 8) 0 (30 * s) p
      rw [Nat.zero_add] at e1
      rw [show stA A 3 (cpy (A 3) (A 8) 0 (30 * s) p) 8 (30 * s + p) = A 8 (30 * s + p) by rw [stA_ne (by omega)], upA_stA, e1]
      refine r_iinc_2 iX7_again_49 (by first | exact nI_inc _ | rfl) rfl ?_
      refine r_goto iX7_again_52 ?_
      exact ih (p + 1) (by omega)
  have e := loop 30 0 (by omega)
  rw [cpy_0, stA_id] at e
  exact e
theorem c7_act_no (h : Hp) (I : Nat → Int32) (J : Nat → Int64) {A : Nat → Nat → Int32} (me : Nat → Int64) (hu : A 3 1 = -9) (x : Int32) : Fn MX7_act 4 [.ref 152, .int x] (mOv h (I, J, A, me)) (some (.int (-3))) := by
  intro z
  refine Cal_of_R (by decide +kernel) (L := [.ref 152, .int x]) rfl (Nat.le_of_ble_eq_true rfl) ?_
  refine r_aload iX7_act_0 rfl ?_
  refine r_gnow iX7_act_1 (flX7_19 _ rfl) ?_
  refine r_iconst (v := 1) iX7_act_4 rfl ?_
  refine r_ld3 iX7_act_5 ((show (1 : Int32) = nI 1 from rfl)) (by omega) ?_
  rw [hu]
  refine r_bipush (v := (-9)) iX7_act_6 rfl ?_
  refine r_icmp_ne iX7_act_8 (fun g9 => absurd (rfl) g9) (fun _ => ?_)
  refine r_bipush (v := (-3)) iX7_act_11 rfl ?_
  refine r_iret iX7_act_13 rfl ?_
  exact ⟨rfl, rfl, rfl⟩
theorem c7_act (h : Hp) {I : Nat → Int32} (J : Nat → Int64) {A : Nat → Nat → Int32} (me : Nat → Int64) {n : Nat} {b : Int32} {i : Nat} {t : Nat → Nat → Int32} {nx sz : Nat} (h0 : I 0 = nI n) (h3 : I 3 = nI nx) (h2 : I 2 = nI sz) (hnx : nx < 16) (hsz : sz ≤ 16) (H : En A 0 n b (nI i) t) (hn : n ≤ 4) (hi : i < n) (h7 : t i 7 = 0) {r : Nat} (hr : t i 3 = nI r) (hr2 : r ≤ 2) {w : Nat} (hw : w < 3) (z : Nat) : Cal MX7_act 4 0 0 [.ref 152, .int (nI w)] (mOv h (I, J, A, me)) z (fun v h' z' => v = some (.int (actC n b i t w).2.2.1) ∧ z' = z ∧ ∃ A', h' = mOv h (upd (upd I 3 (nI (nx1 nx))) 2 (nI (sz1 sz)), J, A', me) ∧ fr 0 (stA A 4 (cpy (A 4) (A 3) (30 * nx) 0 30)) A' ∧ En A' 0 n (actC n b i t w).2.1 (actC n b i t w).2.2.1 (actC n b i t w).2.2.2) := by
  refine Cal_of_R (by decide +kernel) (L := [.ref 152, .int (nI w)]) rfl (Nat.le_of_ble_eq_true rfl) ?_
  refine r_aload iX7_act_0 rfl ?_
  refine r_gnow iX7_act_1 (flX7_19 _ rfl) ?_
  refine r_iconst (v := 1) iX7_act_4 rfl ?_
  refine r_ld3 iX7_act_5 ((show (1 : Int32) = nI 1 from rfl)) (by omega) ?_
  rw [show A 3 1 = nI i from H.2.1]
  refine r_bipush (v := (-9)) iX7_act_6 rfl ?_
  refine r_icmp_ne iX7_act_8 (fun _ => ?_) (fun g9 => absurd g9 (nI_9 (by omega)))
  refine r_aload iX7_act_14 rfl ?_
  refine r_callV iX7_act_15 (cX7_111 _ rfl) (c7_keepAct h J A me h3 h2 hnx hsz _) (by omega) (mOv_obj _ _) rfl rfl rfl (Nat.le_of_ble_eq_true rfl) (by first | exact Nat.le_of_ble_eq_true rfl | omega) (by first | exact Nat.le_of_ble_eq_true rfl | omega) ?_
  rintro v h' z' ⟨rfl, rfl, rfl⟩
  have H' : En (stA A 4 (cpy (A 4) (A 3) (30 * nx) 0 30)) 0 n b (nI i) t := H
  refine r_aload iX7_act_18 rfl ?_
  refine r_iconst (v := 0) iX7_act_19 rfl ?_
  refine r_iload iX7_act_20 rfl ?_
  refine r_callV iX7_act_21 (cX7_114 _ rfl) (c7_make h J me (I := upd (upd I 3 (nI (nx1 nx))) 2 (nI (sz1 sz))) h0 (fr_refl 0 _) H' (l := 0) (by omega) hn hi h7 hr hr2 hw z') (by omega) (mOv_obj _ _) rfl rfl rfl (Nat.le_of_ble_eq_true rfl) (by first | exact Nat.le_of_ble_eq_true rfl | omega) (by first | exact Nat.le_of_ble_eq_true rfl | omega) ?_
  rintro v h' z9 ⟨rfl, rfl, A', rfl, q1, q2⟩
  refine r_aload iX7_act_24 rfl ?_
  refine r_gnow iX7_act_25 (flX7_19 _ rfl) ?_
  refine r_iconst (v := 1) iX7_act_28 rfl ?_
  refine r_ld3 iX7_act_29 ((show (1 : Int32) = nI 1 from rfl)) (by omega) ?_
  rw [show A' 3 1 = (actC n b i t w).2.2.1 from q2.2.1]
  refine r_iret iX7_act_30 rfl ?_
  exact ⟨rfl, rfl, A', rfl, q1, q2⟩
