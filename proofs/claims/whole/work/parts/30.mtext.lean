/-! the model's text and field -/
theorem c7_write_no (h : Hp) (s : Ms) (x : Int32) (v : Int64) (hx : x < 1 ∨ 8 < x) : Fn MX7_write 3 [.ref 152, .int x, .long v] (mOv h s) (some (.int (-2))) := by
  intro z
  refine Cal_of_R (by decide +kernel) (L := [.ref 152, .int x, .long v, .null, .null]) rfl (Nat.le_of_ble_eq_true rfl) ?_
  refine r_iload iX7_write_0 rfl ?_
  refine r_i2l iX7_write_1 ?_
  refine r_lconst (v := 1) iX7_write_2 rfl ?_
  refine r_ldc2 (v := 8) iX7_write_3 (gt_3 64 rfl rfl) ?_
  refine r_callS iX7_write_6 (cX7_44 _ rfl) (c7_inE _ (x := x) (lo := 1) (hi := 8) rfl rfl rfl _) (by omega) rfl rfl (Nat.le_of_ble_eq_true rfl) (by first | exact Nat.le_of_ble_eq_true rfl | omega) (by first | exact Nat.le_of_ble_eq_true rfl | omega) ?_
  rintro w h' z' ⟨rfl, rfl, rfl⟩
  rw [if_neg (show ¬ (1 ≤ x ∧ x ≤ 8) from fun q => hx.elim (fun r => absurd q.1 (Int32.not_le.mpr r)) (fun r => absurd q.2 (Int32.not_le.mpr r)))]
  refine r_if_ne iX7_write_9 (fun g9 => absurd (rfl) g9) (fun _ => ?_)
  refine r_bipush (v := (-2)) iX7_write_12 rfl ?_
  refine r_iret iX7_write_14 rfl ?_
  exact ⟨rfl, rfl, rfl⟩
theorem c7_write_in (h : Hp) (s : Ms) {Q : Option Value → Hp → Nat → Prop} {n : Nat} (h1 : 1 ≤ n) (h8 : n ≤ 8) (v : Int64) (z : Nat) (K : R MX7_write 3 0 0 Q 15 [.ref 152, .int (nI n), .long v, .null, .null] [] (mOv h s) z 0 0) : R MX7_write 3 0 0 Q 0 [.ref 152, .int (nI n), .long v, .null, .null] [] (mOv h s) z 0 0 := by
  refine r_iload iX7_write_0 rfl ?_
  refine r_i2l iX7_write_1 ?_
  refine r_lconst (v := 1) iX7_write_2 rfl ?_
  refine r_ldc2 (v := 8) iX7_write_3 (gt_3 64 rfl rfl) ?_
  refine r_callS iX7_write_6 (cX7_44 _ rfl) (c7_inE _ (x := nI n) (lo := 1) (hi := 8) rfl rfl rfl _) (by omega) rfl rfl (Nat.le_of_ble_eq_true rfl) (by first | exact Nat.le_of_ble_eq_true rfl | omega) (by first | exact Nat.le_of_ble_eq_true rfl | omega) ?_
  rintro w h' z' ⟨rfl, rfl, rfl⟩
  rw [if_pos (show (1 : Int32) ≤ nI n ∧ nI n ≤ 8 from ⟨nI_le (a := 1) h1 (by omega), nI_le (b := 8) h8 (by omega)⟩)]
  refine r_if_ne iX7_write_9 (fun _ => ?_) (fun g9 => absurd g9 (by decide))
  exact K
theorem c7_write_full (h : Hp) {I : Nat → Int32} (J : Nat → Int64) (A : Nat → Nat → Int32) (me : Nat → Int64) {l n : Nat} (hI : I 1 = nI l) (hl : l ≤ 16) (h1 : 1 ≤ n) (h8 : n ≤ 8) (hf : 16 < l + n) (v : Int64) : Fn MX7_write 3 [.ref 152, .int (nI n), .long v] (mOv h (I, J, A, me)) (some (.int (-4))) := by
  intro z
  refine Cal_of_R (by decide +kernel) (L := [.ref 152, .int (nI n), .long v, .null, .null]) rfl (Nat.le_of_ble_eq_true rfl) ?_
  refine c7_write_in h _ h1 h8 v z ?_
  refine r_aload iX7_write_15 rfl ?_
  refine r_glength iX7_write_16 (flX7_48 _ rfl) ?_
  refine r_iload iX7_write_19 rfl ?_
  rw [hI]
  refine r_iadd iX7_write_20 ?_
  rw [nI_add]
  refine r_bipush (v := 16) iX7_write_21 rfl ?_
  refine r_icmp_le iX7_write_23 (fun g9 => absurd g9 (nI_ge (b := l + n) (a := 16) (by omega) (by omega))) (fun _ => ?_)
  refine r_bipush (v := (-4)) iX7_write_26 rfl ?_
  refine r_iret iX7_write_28 rfl ?_
  exact ⟨rfl, rfl, rfl⟩
/-- the state with the text T -/
def wI (I : Nat → Int32) (T : Tx) : Nat → Int32 := upd I 1 (nI T.1)
def wA (A : Nat → Nat → Int32) (T : Tx) : Nat → Nat → Int32 := fun k => if k = 2 then T.2 else A k
theorem upd_upd {f : Nat → Int32} {k : Nat} {x y : Int32} : upd (upd f k x) k y = upd f k y := by
  funext j; unfold upd; by_cases g : j = k
  · rw [if_pos g, if_pos g]
  · rw [if_neg g, if_neg g, if_neg g]
theorem upd_self' {f : Nat → Int32} {k : Nat} {x : Int32} (e : f k = x) : upd f k x = f := by
  funext j; unfold upd; by_cases g : j = k
  · rw [if_pos g, g, e]
  · rw [if_neg g]
theorem wA_upd (A : Nat → Nat → Int32) (l : Nat) (B : Nat → Int32) (p : Nat) (v : Int32) (l' : Nat) : upA (wA A (l, B)) 2 p v = wA A (l', upd B p v) := by
  funext k; unfold upA wA
  by_cases g : k = 2
  · rw [if_pos g, if_pos g]; rfl
  · rw [if_neg g, if_neg g, if_neg g]
theorem c7_write_ok (h : Hp) (I : Nat → Int32) (J : Nat → Int64) (A : Nat → Nat → Int32) (me : Nat → Int64) {l n : Nat} (B : Nat → Int32) (h1 : 1 ≤ n) (h8 : n ≤ 8) (hf : l + n ≤ 16) (v : Int64) : Pr MX7_write 3 [.ref 152, .int (nI n), .long v] (mOv h (wI I (l, B), J, wA A (l, B), me)) (some (.int (nI (l + n)))) (mOv h (wI I (app v n (l, B)), J, wA A (app v n (l, B)), me)) := by
  intro z
  refine Cal_of_R (by decide +kernel) (L := [.ref 152, .int (nI n), .long v, .null, .null]) rfl (Nat.le_of_ble_eq_true rfl) ?_
  refine c7_write_in h _ h1 h8 v z ?_
  refine r_aload iX7_write_15 rfl ?_
  refine r_glength iX7_write_16 (flX7_48 _ rfl) ?_
  refine r_iload iX7_write_19 rfl ?_
  rw [show wI I (l, B) 1 = nI l from rfl]
  refine r_iadd iX7_write_20 ?_
  rw [nI_add]
  refine r_bipush (v := 16) iX7_write_21 rfl ?_
  refine r_icmp_le iX7_write_23 (fun _ => ?_) (fun g9 => absurd (nI_le (b := 16) (a := l + n) (by omega) (by omega)) g9)
  refine r_iload iX7_write_29 rfl ?_
  refine r_iconst (v := 1) iX7_write_30 rfl ?_
  refine r_isub iX7_write_31 ?_
  refine r_istore_4 iX7_write_32 rfl ?_
  have loop : ∀ (j l : Nat) (B : Nat → Int32) (w : Int32), j ≤ 8 → l + j ≤ 16 → w = nI j - 1 → R MX7_write 3 0 0 (fun v' h' z' => v' = some (.int (nI (l + j))) ∧ h' = mOv h (wI I (app v j (l, B)), J, wA A (app v j (l, B)), me) ∧ z' = z) 34 [.ref 152, .int (nI n), .long v, .null, .int w] [] (mOv h (wI I (l, B), J, wA A (l, B), me)) z 0 0 := by
    intro j
    induction j with
    | zero =>
      intro l B w hj hl hw
      have h0 : w < 0 := by rw [hw]; decide
      refine r_iload iX7_write_34 rfl ?_
      refine r_if_lt iX7_write_36 (fun _ => ?_) (fun g9 => absurd (h0) g9)
      refine r_aload iX7_write_76 rfl ?_
      refine r_glength iX7_write_77 (flX7_48 _ rfl) ?_
      refine r_iret iX7_write_80 rfl ?_
      exact ⟨rfl, rfl, rfl⟩
    | succ j ih =>
      intro l B w hj hl hw
      have hw2 : w = nI j := by rw [hw, nI_pred]
      subst hw2
      refine r_iload iX7_write_34 rfl ?_
      refine r_if_lt iX7_write_36 (fun g9 => absurd g9 (nI_pos (by omega))) (fun _ => ?_)
      refine r_aload iX7_write_39 rfl ?_
      refine r_gtext iX7_write_40 (flX7_16 _ rfl) ?_
      refine r_aload iX7_write_43 rfl ?_
      refine r_glength iX7_write_44 (flX7_48 _ rfl) ?_
      refine r_lload iX7_write_47 rfl ?_
      refine r_bipush (v := 8) iX7_write_48 rfl ?_
      refine r_iload iX7_write_50 rfl ?_
      refine r_imul iX7_write_52 ?_
      refine r_lshr iX7_write_53 ?_
      refine r_ldc2 (v := 255) iX7_write_54 (gt_3 68 rfl rfl) ?_
      refine r_land iX7_write_57 ?_
      refine r_l2i iX7_write_58 ?_
      rw [byt_m v (by omega)]
      refine r_st2 iX7_write_59 ((show wI I (l, B) 1 = nI l from rfl)) ((show l < 16 by omega)) ?_
      rw [wA_upd A l B l (byt v j) (l + 1)]
      refine r_aload iX7_write_60 rfl ?_
      refine r_dup iX7_write_61 rfl ?_
      refine r_glength iX7_write_62 (flX7_48 _ rfl) ?_
      refine r_iconst (v := 1) iX7_write_65 rfl ?_
      rw [show wI I (l, B) 1 = nI l from rfl]
      refine r_iadd iX7_write_66 ?_
      rw [nI_1]
      refine r_mlength iX7_write_67 (fpX7_48 _ rfl) ?_
      rw [show upd (wI I (l, B)) 1 (nI (l + 1)) = wI I (l + 1, upd B l (byt v j)) from upd_upd]
      refine r_iinc_4 iX7_write_70 rfl rfl ?_
      refine r_goto iX7_write_73 ?_
      have e := ih (l + 1) (upd B l (byt v j)) _ (by omega) (by omega) (Int32.sub_eq_add_neg (nI j) 1).symm
      rw [show l + 1 + j = l + (j + 1) by omega] at e
      exact e
  exact loop n l B _ h8 hf rfl
theorem rng_in (lo s : Int32) : (if lo ≤ s ∧ s ≤ 57 then (1 : Int32) else 0) = b2i (rng lo s) := by
  unfold rng b2i
  by_cases h1 : s < lo
  · rw [if_neg (fun q => absurd q.1 (Int32.not_le.mpr h1)), decide_eq_true h1]; rfl
  · by_cases h2 : 57 < s
    · rw [if_neg (fun q => absurd q.2 (Int32.not_le.mpr h2)), decide_eq_false h1, decide_eq_true h2]; rfl
    · rw [if_pos ⟨Int32.not_lt.mp h1, Int32.not_lt.mp h2⟩, decide_eq_false h1, decide_eq_false h2]; rfl
theorem c7_fits (h : Hp) (I : Nat → Int32) (J : Nat → Int64) (A : Nat → Nat → Int32) (me : Nat → Int64) {p : Nat} (hp : p < 15) : Fn MX7_fits 1 [.ref 152, .int (nI p)] (mOv h (I, J, A, me)) (some (.int (b2i (stand p (A 2 p))))) := by
  intro z
  refine Cal_of_R (by decide +kernel) (L := [.ref 152, .int (nI p), .null]) rfl (Nat.le_of_ble_eq_true rfl) ?_
  generalize hs : A 2 p = s
  refine r_aload iX7_fits_0 rfl ?_
  refine r_gtext iX7_fits_1 (flX7_16 _ rfl) ?_
  refine r_iload iX7_fits_4 rfl ?_
  refine r_ld2 iX7_fits_5 rfl (by omega) ?_
  rw [hs]
  by_cases h0 : p = 0
  · subst h0
    by_cases g : s = 85
    · refine r_istore_2 iX7_fits_6 rfl ?_
      refine r_iload iX7_fits_7 rfl ?_
      refine r_iconst (v := 2) iX7_fits_8 rfl ?_
      refine r_icmp_ge iX7_fits_9 (fun g9 => absurd g9 (by decide)) (fun _ => ?_)
      refine r_iload iX7_fits_12 rfl ?_
      refine r_if_ne iX7_fits_13 (fun g9 => absurd (rfl) g9) (fun _ => ?_)
      refine r_iload iX7_fits_16 rfl ?_
      refine r_bipush (v := 85) iX7_fits_17 rfl ?_
      refine r_icmp_ne iX7_fits_19 (fun g9 => absurd (g) g9) (fun _ => ?_)
      refine r_iconst (v := 1) iX7_fits_22 rfl ?_
      refine r_goto iX7_fits_23 ?_
      refine r_zret iX7_fits_41 rfl (Or.inr rfl) ?_
      exact ⟨by rw [stand, if_pos rfl, decide_eq_true g]; rfl, rfl, rfl⟩
    · refine r_istore_2 iX7_fits_6 rfl ?_
      refine r_iload iX7_fits_7 rfl ?_
      refine r_iconst (v := 2) iX7_fits_8 rfl ?_
      refine r_icmp_ge iX7_fits_9 (fun g9 => absurd g9 (by decide)) (fun _ => ?_)
      refine r_iload iX7_fits_12 rfl ?_
      refine r_if_ne iX7_fits_13 (fun g9 => absurd (rfl) g9) (fun _ => ?_)
      refine r_iload iX7_fits_16 rfl ?_
      refine r_bipush (v := 85) iX7_fits_17 rfl ?_
      refine r_icmp_ne iX7_fits_19 (fun _ => ?_) (fun g9 => absurd g9 (g))
      refine r_iconst (v := 0) iX7_fits_26 rfl ?_
      refine r_goto iX7_fits_27 ?_
      refine r_zret iX7_fits_41 rfl (Or.inl rfl) ?_
      exact ⟨by rw [stand, if_pos rfl, decide_eq_false g]; rfl, rfl, rfl⟩
  by_cases h1 : p = 1
  · subst h1
    refine r_istore_2 iX7_fits_6 rfl ?_
    refine r_iload iX7_fits_7 rfl ?_
    refine r_iconst (v := 2) iX7_fits_8 rfl ?_
    refine r_icmp_ge iX7_fits_9 (fun g9 => absurd g9 (by decide)) (fun _ => ?_)
    refine r_iload iX7_fits_12 rfl ?_
    refine r_if_ne iX7_fits_13 (fun _ => ?_) (fun g9 => absurd g9 (by decide))
    refine r_iload iX7_fits_30 rfl ?_
    refine r_i2l iX7_fits_31 ?_
    refine r_ldc2 (v := 48) iX7_fits_32 (gt_3 81 rfl rfl) ?_
    refine r_ldc2 (v := 57) iX7_fits_35 (gt_3 82 rfl rfl) ?_
    refine r_callS iX7_fits_38 (cX7_44 _ rfl) (c7_inE _ (x := s) (lo := 48) (hi := 57) rfl rfl rfl _) (by omega) rfl rfl (Nat.le_of_ble_eq_true rfl) (by first | exact Nat.le_of_ble_eq_true rfl | omega) (by first | exact Nat.le_of_ble_eq_true rfl | omega) ?_
    rintro w h' z' ⟨rfl, rfl, rfl⟩
    rw [rng_in]
    refine r_zret iX7_fits_41 rfl (b2i_01 _) ?_
    exact ⟨by rw [stand, if_neg h0, if_pos rfl], rfl, rfl⟩
  refine r_istore_2 iX7_fits_6 rfl ?_
  refine r_iload iX7_fits_7 rfl ?_
  refine r_iconst (v := 2) iX7_fits_8 rfl ?_
  refine r_icmp_ge iX7_fits_9 (fun _ => ?_) (fun g9 => absurd (nI_le (a := 2) (by omega) (by omega)) g9)
  refine r_iload iX7_fits_42 rfl ?_
  refine r_iconst (v := 2) iX7_fits_43 rfl ?_
  refine r_isub iX7_fits_44 ?_
  rw [show nI p - 2 = nI (p - 2) from nI_sub (b := 2) (by omega)]
  refine r_iconst (v := 3) iX7_fits_45 rfl ?_
  refine r_irem iX7_fits_46 (by decide) ?_
  have em : nI (p - 2) - nI (p - 2) / 3 * 3 = nI ((p - 2) % 3) := by
    have : ∀ p, p < 15 → nI (p - 2) - nI (p - 2) / 3 * 3 = nI ((p - 2) % 3) := by decide +kernel
    exact this p hp
  rw [em]
  have lk : ∀ q, q < 3 → ∀ off, (off = if q = 0 then 25 else if q = 1 then 43 else 55) → Op.lookupswitch.offset (#[((0 : Int), (25 : Int)), (1, 43)]).toList 55 (nI q).toInt = off := by
    intro q hq off e
    subst e
    have : ∀ q, q < 3 → Op.lookupswitch.offset (#[((0 : Int), (25 : Int)), (1, 43)]).toList 55 (nI q).toInt = if q = 0 then 25 else if q = 1 then 43 else 55 := by decide +kernel
    exact this q hq
  by_cases q0 : (p - 2) % 3 = 0
  · rw [q0]
    refine r_look (tgt := 72) iX7_fits_47 (by decide) (lk 0 (by omega) _ rfl) rfl ?_
    by_cases g : s = 84
    · by_cases g2 : p < 14
      · refine r_iload iX7_fits_72 rfl ?_
        refine r_bipush (v := 84) iX7_fits_73 rfl ?_
        refine r_icmp_ne iX7_fits_75 (fun g9 => absurd (g) g9) (fun _ => ?_)
        refine r_iload iX7_fits_78 rfl ?_
        refine r_bipush (v := 14) iX7_fits_79 rfl ?_
        refine r_icmp_ge iX7_fits_81 (fun g9 => absurd g9 (nI_ge (b := 14) g2 (by omega))) (fun _ => ?_)
        refine r_iconst (v := 1) iX7_fits_84 rfl ?_
        refine r_goto iX7_fits_85 ?_
        refine r_zret iX7_fits_89 rfl (Or.inr rfl) ?_
        exact ⟨by rw [stand, if_neg h0, if_neg h1, if_pos g2, if_pos q0, decide_eq_true g]; rfl, rfl, rfl⟩
      · refine r_iload iX7_fits_72 rfl ?_
        refine r_bipush (v := 84) iX7_fits_73 rfl ?_
        refine r_icmp_ne iX7_fits_75 (fun g9 => absurd (g) g9) (fun _ => ?_)
        refine r_iload iX7_fits_78 rfl ?_
        refine r_bipush (v := 14) iX7_fits_79 rfl ?_
        refine r_icmp_ge iX7_fits_81 (fun _ => ?_) (fun g9 => absurd (nI_le (a := 14) (by omega) (by omega)) g9)
        refine r_iconst (v := 0) iX7_fits_88 rfl ?_
        refine r_zret iX7_fits_89 rfl (Or.inl rfl) ?_
        exact ⟨by rw [stand, if_neg h0, if_neg h1, if_neg g2]; rfl, rfl, rfl⟩
    · refine r_iload iX7_fits_72 rfl ?_
      refine r_bipush (v := 84) iX7_fits_73 rfl ?_
      refine r_icmp_ne iX7_fits_75 (fun _ => ?_) (fun g9 => absurd g9 (g))
      refine r_iconst (v := 0) iX7_fits_88 rfl ?_
      refine r_zret iX7_fits_89 rfl (Or.inl rfl) ?_
      refine ⟨?_, rfl, rfl⟩
      rw [stand, if_neg h0, if_neg h1]
      by_cases g2 : p < 14
      · rw [if_pos g2, if_pos q0, decide_eq_false g]; rfl
      · rw [if_neg g2]; rfl
  have g2 : p < 14 := by omega
  by_cases q1 : (p - 2) % 3 = 1
  · rw [q1]
    refine r_look (tgt := 90) iX7_fits_47 (by decide) (lk 1 (by omega) _ rfl) rfl ?_
    refine r_iload iX7_fits_90 rfl ?_
    refine r_i2l iX7_fits_91 ?_
    refine r_ldc2 (v := 48) iX7_fits_92 (gt_3 81 rfl rfl) ?_
    refine r_ldc2 (v := 57) iX7_fits_95 (gt_3 82 rfl rfl) ?_
    refine r_callS iX7_fits_98 (cX7_44 _ rfl) (c7_inE _ (x := s) (lo := 48) (hi := 57) rfl rfl rfl _) (by omega) rfl rfl (Nat.le_of_ble_eq_true rfl) (by first | exact Nat.le_of_ble_eq_true rfl | omega) (by first | exact Nat.le_of_ble_eq_true rfl | omega) ?_
    rintro w h' z' ⟨rfl, rfl, rfl⟩
    rw [rng_in]
    refine r_zret iX7_fits_101 rfl (b2i_01 _) ?_
    exact ⟨by rw [stand, if_neg h0, if_neg h1, if_pos g2, if_neg q0, if_pos q1], rfl, rfl⟩
  · have q2 : (p - 2) % 3 = 2 := by omega
    rw [q2]
    refine r_look (tgt := 102) iX7_fits_47 (by decide) (lk 2 (by omega) _ rfl) rfl ?_
    refine r_iload iX7_fits_102 rfl ?_
    refine r_i2l iX7_fits_103 ?_
    refine r_ldc2 (v := 49) iX7_fits_104 (gt_3 83 rfl rfl) ?_
    refine r_ldc2 (v := 57) iX7_fits_107 (gt_3 82 rfl rfl) ?_
    refine r_callS iX7_fits_110 (cX7_44 _ rfl) (c7_inE _ (x := s) (lo := 49) (hi := 57) rfl rfl rfl _) (by omega) rfl rfl (Nat.le_of_ble_eq_true rfl) (by first | exact Nat.le_of_ble_eq_true rfl | omega) (by first | exact Nat.le_of_ble_eq_true rfl | omega) ?_
    rintro w h' z' ⟨rfl, rfl, rfl⟩
    rw [rng_in]
    refine r_zret iX7_fits_113 rfl (b2i_01 _) ?_
    exact ⟨by rw [stand, if_neg h0, if_neg h1, if_pos g2, if_neg q0, if_neg q1], rfl, rfl⟩
theorem c7_fault (h : Hp) {I : Nat → Int32} (J : Nat → Int64) {A : Nat → Nat → Int32} (me : Nat → Int64) {l : Nat} {B : Nat → Int32} (hl : l ≤ 16) (h1 : I 1 = nI l) (hB : A 2 = B) : Fn MX7_fault 2 [.ref 152] (mOv h (I, J, A, me)) (some (.int (flt l B))) := by
  intro z
  refine Cal_of_R (by decide +kernel) (L := [.ref 152, .null]) rfl (Nat.le_of_ble_eq_true rfl) ?_
  have tail : ∀ w z, ¬ srch (fun p => stand p (B p)) 0 l < l → R MX7_fault 2 0 0 (fun v h' z' => v = some (.int (flt l B)) ∧ h' = mOv h (I, J, A, me) ∧ z' = z) 26 [.ref 152, .int w] [] (mOv h (I, J, A, me)) z 0 0 := by
    intro w z hs
    refine r_aload iX7_fault_26 rfl ?_
    refine r_glength iX7_fault_27 (flX7_48 _ rfl) ?_
    rw [h1]
    refine r_iconst (v := 1) iX7_fault_30 rfl ?_
    refine r_icmp_le iX7_fault_31 (fun g1 => ?_) (fun g1 => ?_)
    · have hh : ¬ 1 < l := (fun q => absurd (nI_lt (a := 1) q (by omega)) (Int32.not_lt.mpr g1))
      refine r_aload iX7_fault_50 rfl ?_
      refine r_glength iX7_fault_51 (flX7_48 _ rfl) ?_
      rw [h1]
      refine r_iret iX7_fault_54 rfl ?_
      exact ⟨by rw [flt, if_neg hs, if_pos (Or.inl (by omega))], rfl, rfl⟩
    · have hh : ¬ l < 2 := fun q => g1 (nI_le (b := 1) (by omega) (by omega))
      have e2 : nI (l - 2) - nI (l - 2) / 3 * 3 = nI ((l - 2) % 3) := pk_rem (d := 3) (by omega) (by omega) (by omega)
      refine r_aload iX7_fault_34 rfl ?_
      refine r_glength iX7_fault_35 (flX7_48 _ rfl) ?_
      rw [h1]
      refine r_iconst (v := 2) iX7_fault_38 rfl ?_
      refine r_isub iX7_fault_39 ?_
      rw [show nI l - 2 = nI (l - 2) from nI_sub (b := 2) (by omega)]
      refine r_iconst (v := 3) iX7_fault_40 rfl ?_
      refine r_irem iX7_fault_41 (by decide) ?_
      rw [e2]
      by_cases g2 : (l - 2) % 3 = 0
      · rw [g2]
        refine r_if_ne iX7_fault_42 (fun g9 => absurd (rfl) g9) (fun _ => ?_)
        refine r_bipush (v := (-9)) iX7_fault_45 rfl ?_
        refine r_goto iX7_fault_47 ?_
        refine r_iret iX7_fault_54 rfl ?_
        exact ⟨by rw [flt, if_neg hs, if_neg (by omega)], rfl, rfl⟩
      · refine r_if_ne iX7_fault_42 (fun _ => ?_) (fun g9 => absurd g9 (fun q => g2 ((nI_eq (b := 0) (by omega) (by omega)).mp q)))
        refine r_aload iX7_fault_50 rfl ?_
        refine r_glength iX7_fault_51 (flX7_48 _ rfl) ?_
        rw [h1]
        refine r_iret iX7_fault_54 rfl ?_
        exact ⟨by rw [flt, if_neg hs, if_pos (Or.inr g2)], rfl, rfl⟩
  have loop : ∀ (j p : Nat), p + j = l → srch (fun p => stand p (B p)) 0 l = srch (fun p => stand p (B p)) p j → (∀ q, q < p → stand q (B q) = true) → ∀ z, R MX7_fault 2 0 0 (fun v h' z' => v = some (.int (flt l B)) ∧ h' = mOv h (I, J, A, me) ∧ z' = z) 2 [.ref 152, .int (nI p)] [] (mOv h (I, J, A, me)) z 0 0 := by
    intro j
    induction j with
    | zero =>
      intro p hp hr hst z
      refine r_iload iX7_fault_2 rfl ?_
      refine r_aload iX7_fault_3 rfl ?_
      refine r_glength iX7_fault_4 (flX7_48 _ rfl) ?_
      rw [h1]
      refine r_icmp_ge iX7_fault_7 (fun _ => ?_) (fun g9 => absurd (nI_le (by omega) (by omega)) g9)
      exact tail _ _ (by rw [hr, srch]; omega)
    | succ j ih =>
      intro p hp hr hst z
      have hp15 : p < 15 := by
        by_cases g : p < 15
        · exact g
        · have h14 : stand 14 (B 14) = false := rfl
          have := hst 14 (by omega)
          rw [h14] at this
          cases this
      have hr2 := hr
      rw [srch] at hr2
      refine r_iload iX7_fault_2 rfl ?_
      refine r_aload iX7_fault_3 rfl ?_
      refine r_glength iX7_fault_4 (flX7_48 _ rfl) ?_
      rw [h1]
      refine r_icmp_ge iX7_fault_7 (fun g9 => absurd g9 (nI_ge (by omega) (by omega))) (fun _ => ?_)
      refine r_aload iX7_fault_10 rfl ?_
      refine r_iload iX7_fault_11 rfl ?_
      refine r_callV iX7_fault_12 (cX7_60 _ rfl) (c7_fits h I J A me hp15 _) (by omega) (mOv_obj _ _) rfl rfl rfl (Nat.le_of_ble_eq_true rfl) (by first | exact Nat.le_of_ble_eq_true rfl | omega) (by first | exact Nat.le_of_ble_eq_true rfl | omega) ?_
      rintro v h' z' ⟨rfl, rfl, rfl⟩
      rw [hB]
      cases g : stand p (B p) with
      | false =>
        rw [if_neg (by rw [g]; decide)] at hr2
        refine r_if_ne iX7_fault_15 (fun g9 => absurd (rfl) g9) (fun _ => ?_)
        refine r_iload iX7_fault_18 rfl ?_
        refine r_iret iX7_fault_19 rfl ?_
        exact ⟨by rw [flt, hr2, if_pos (by omega)], rfl, rfl⟩
      | true =>
        rw [if_pos g] at hr2
        refine r_if_ne iX7_fault_15 (fun _ => ?_) (fun g9 => absurd g9 (by decide))
        refine r_iinc_1 iX7_fault_20 (by first | exact nI_inc _ | rfl) rfl ?_
        refine r_goto iX7_fault_23 ?_
        exact ih (p + 1) (by omega) hr2 (fun q hq => by
          by_cases e : q = p
          · subst e; exact g
          · exact hst q (by omega)) z'
  refine r_iconst (v := 0) iX7_fault_0 rfl ?_
  refine r_istore_1 iX7_fault_1 rfl ?_
  exact loop l 0 (by omega) rfl (fun q hq => absurd hq (Nat.not_lt_zero q)) z
/-- the level l of the model holds the contest of n -/
def En (A : Nat → Nat → Int32) (l n : Nat) (b u : Int32) (t : Nat → Nat → Int32) : Prop := A 3 (30 * l) = b ∧ A 3 (30 * l + 1) = u ∧ ∀ i, i < n → t i 0 = A 0 i ∧ t i 1 = A 1 i ∧ ∀ w, w < 7 → t i (w + 2) = A 3 (30 * l + 2 + 7 * i + w)
theorem nxt_all0 {n : Nat} {t : Nat → Nat → Int32} (h : ∀ i, i < n → t i 7 = 0) : nxt n t 0 n = if 0 < n then 0 else -9 := by
  cases n with
  | zero => rfl
  | succ n =>
    rw [nxt, show (0 + (n + 1 - (n + 1))) % (n + 1) = 0 by rw [Nat.sub_self]; rfl, if_pos (h 0 (by omega)), if_pos (by omega)]
    rfl
theorem upA_ne {A : Nat → Nat → Int32} {k p : Nat} {v : Int32} {j : Nat} (h : j ≠ k) : upA A k p v j = A j := if_neg h
theorem upA_eq {A : Nat → Nat → Int32} {k p : Nat} {v : Int32} : upA A k p v k = upd (A k) p v := if_pos rfl
theorem upd_at (f : Nat → Int32) (p : Nat) (v : Int32) (j : Nat) : upd f p v j = if j = p then v else f j := rfl
theorem c7_field_no (h : Hp) {I : Nat → Int32} (J : Nat → Int64) {A : Nat → Nat → Int32} (me : Nat → Int64) {l : Nat} {B : Nat → Int32} (hl : l ≤ 16) (h1 : I 1 = nI l) (hB : A 2 = B) (hf : flt l B ≠ -9) : Fn MX7_field 3 [.ref 152] (mOv h (I, J, A, me)) (some (.int (-3))) := by
  intro z
  refine Cal_of_R (by decide +kernel) (L := [.ref 152, .null]) rfl (Nat.le_of_ble_eq_true rfl) ?_
  refine r_aload iX7_field_0 rfl ?_
  refine r_callV iX7_field_1 (cX7_64 _ rfl) (c7_fault h J me hl h1 hB _) (by omega) (mOv_obj _ _) rfl rfl rfl (Nat.le_of_ble_eq_true rfl) (by first | exact Nat.le_of_ble_eq_true rfl | omega) (by first | exact Nat.le_of_ble_eq_true rfl | omega) ?_
  rintro v h' z' ⟨rfl, rfl, rfl⟩
  refine r_bipush (v := (-9)) iX7_field_4 rfl ?_
  refine r_icmp_eq iX7_field_6 (fun g9 => absurd g9 (hf)) (fun _ => ?_)
  refine r_bipush (v := (-3)) iX7_field_9 rfl ?_
  refine r_iret iX7_field_11 rfl ?_
  exact ⟨rfl, rfl, rfl⟩
theorem c7_field (h : Hp) {I : Nat → Int32} (J : Nat → Int64) {A : Nat → Nat → Int32} (me : Nat → Int64) {n : Nat} {B : Nat → Int32} (hn : n ≤ 4) (h1 : I 1 = nI (3 * n + 2)) (hB : A 2 = B) (hf : flt (3 * n + 2) B = -9) (z : Nat) : Cal MX7_field 3 0 0 [.ref 152] (mOv h (I, J, A, me)) z (fun v h' z' => v = some (.int (nI n)) ∧ z' = z ∧ ∃ A', h' = mOv h (upd (upd I 0 (nI n)) 2 0, J, A', me) ∧ A' 2 = B ∧ A' 7 0 = 0 ∧ A' 7 1 = 0 ∧ ∀ t, En A' 0 n (B 1 - 48) (startC B n t).2.2.1 (startC B n t).2.2.2) := by
  refine Cal_of_R (by decide +kernel) (L := [.ref 152, .null]) rfl (Nat.le_of_ble_eq_true rfl) ?_
  refine r_aload iX7_field_0 rfl ?_
  refine r_callV iX7_field_1 (cX7_64 _ rfl) (c7_fault h J me (show 3 * n + 2 ≤ 16 by omega) h1 hB _) (by omega) (mOv_obj _ _) rfl rfl rfl (Nat.le_of_ble_eq_true rfl) (by first | exact Nat.le_of_ble_eq_true rfl | omega) (by first | exact Nat.le_of_ble_eq_true rfl | omega) ?_
  rintro v h' z' ⟨rfl, rfl, rfl⟩
  rw [hf]
  refine r_bipush (v := (-9)) iX7_field_4 rfl ?_
  refine r_icmp_eq iX7_field_6 (fun _ => ?_) (fun g9 => absurd (rfl) g9)
  refine r_aload iX7_field_12 rfl ?_
  refine r_aload iX7_field_13 rfl ?_
  refine r_glength iX7_field_14 (flX7_48 _ rfl) ?_
  rw [h1]
  refine r_iconst (v := 2) iX7_field_17 rfl ?_
  refine r_isub iX7_field_18 ?_
  rw [show nI (3 * n + 2) - 2 = nI (3 * n) from (nI_sub (b := 2) (by omega)).trans (by rw [Nat.add_sub_cancel])]
  refine r_iconst (v := 3) iX7_field_19 rfl ?_
  refine r_idiv iX7_field_20 (by decide) ?_
  rw [show nI (3 * n) / 3 = nI n by
    have : ∀ n, n ≤ 4 → nI (3 * n) / 3 = nI n := by decide +kernel
    exact this n hn]
  refine r_mthrowers iX7_field_21 (fpX7_68 _ rfl) ?_
  refine r_iconst (v := 0) iX7_field_24 rfl ?_
  refine r_istore_1 iX7_field_25 rfl ?_
  have hI0 : ∀ x, upd I 0 x 0 = x := fun x => rfl
  have hn1 : (if n ≤ 0 then (-9 : Int32) else 0) = if 0 < n then 0 else -9 := by
    by_cases g : 0 < n
    · rw [if_neg (by omega), if_pos g]
    · rw [if_pos (by omega), if_neg g]
  -- the second loop
  have loop2 : ∀ (j p : Nat) (A1 : Nat → Nat → Int32), p + j = 4 → A1 2 = B → A1 3 0 = B 1 - 48 → A1 3 1 = (if 0 < n then 0 else -9) → (∀ i, i < p → A1 0 i = (if i < n then B (3 * i + 3) - 48 else 0) ∧ A1 1 i = (if i < n then B (3 * i + 4) - 48 else 1)) → (∀ i w, i < 4 → w < 7 → A1 3 (2 + 7 * i + w) = if i < p ∧ (w = 2 ∨ w = 3) then -9 else 0) → R MX7_field 3 0 0 (fun v h' z'_1 => v = some (.int (nI n)) ∧ z'_1 = z' ∧ ∃ A', h' = mOv h (upd (upd I 0 (nI n)) 2 0, J, A', me) ∧ A' 2 = B ∧ A' 7 0 = 0 ∧ A' 7 1 = 0 ∧ ∀ t, En A' 0 n (B 1 - 48) (startC B n t).2.2.1 (startC B n t).2.2.2) 81 [.ref 152, .int (nI p)] [] (mOv h (upd I 0 (nI n), J, A1, me)) z' 0 0 := by
    intro j
    induction j with
    | zero =>
      intro p A1 hp hA2 hb hu hsw hm
      obtain rfl : p = 4 := by omega
      refine r_iload iX7_field_81 rfl ?_
      refine r_iconst (v := 4) iX7_field_82 rfl ?_
      refine r_icmp_ge iX7_field_83 (fun _ => ?_) (fun g9 => absurd (by decide) g9)
      refine r_aload iX7_field_184 rfl ?_
      refine r_iconst (v := 0) iX7_field_185 rfl ?_
      refine r_macts iX7_field_186 (fpX7_71 _ rfl) ?_
      refine r_aload iX7_field_189 rfl ?_
      refine r_gisKept iX7_field_190 (flX7_35 _ rfl) ?_
      refine r_iconst (v := 0) iX7_field_193 rfl ?_
      refine r_iconst (v := 0) iX7_field_194 rfl ?_
      refine r_st7 iX7_field_195 ((show (0 : Int32) = nI 0 from rfl)) (by omega) (by simp) ?_
      refine r_aload iX7_field_196 rfl ?_
      refine r_gisKept iX7_field_197 (flX7_35 _ rfl) ?_
      refine r_iconst (v := 1) iX7_field_200 rfl ?_
      refine r_iconst (v := 0) iX7_field_201 rfl ?_
      refine r_st7 iX7_field_202 ((show (1 : Int32) = nI 1 from rfl)) (by omega) (by simp) ?_
      refine r_aload iX7_field_203 rfl ?_
      refine r_gthrowers iX7_field_204 (flX7_68 _ rfl) ?_
      refine r_iret iX7_field_207 rfl ?_
      refine ⟨rfl, rfl, _, rfl, hA2, rfl, rfl, fun t => ⟨hb, hu.trans ?_, fun i hi => ?_⟩⟩
      · rw [startC, nxt_all0]
        intro i hi
        simp [mapT, hi, startT, kStart]
      · have e : (startC B n t).2.2.2 i = kStart (B (3 * i + 3) - 48) (B (3 * i + 4) - 48) := by simp [startC, mapT, hi, startT]
        obtain ⟨q1, q2⟩ := hsw i (by omega)
        rw [if_pos hi] at q1 q2
        refine ⟨by rw [e]; exact q1.symm, by rw [e]; exact q2.symm, fun w hw => ?_⟩
        rw [e]
        have e3 := hm i w (by omega) hw
        show _ = A1 3 (30 * 0 + 2 + 7 * i + w)
        rw [show 30 * 0 + 2 + 7 * i + w = 2 + 7 * i + w by omega, e3]
        match w, hw with
        | 0, _ => exact (if_neg (by omega)).symm
        | 1, _ => exact (if_neg (by omega)).symm
        | 2, _ => exact (if_pos (by omega)).symm
        | 3, _ => exact (if_pos (by omega)).symm
        | 4, _ => exact (if_neg (by omega)).symm
        | 5, _ => exact (if_neg (by omega)).symm
        | 6, _ => exact (if_neg (by omega)).symm
    | succ j ih =>
      intro p A1 hp hA2 hb hu hsw hm
      have i7 : ∀ w : Nat, (2 : Int32) + 7 * nI p + nI w = nI (2 + 7 * p + w) := fun w => by rw [← nI_add, ← nI_add, ← nI_mul]; rfl
      have i3 : (3 : Int32) + 3 * nI p = nI (3 + 3 * p) := by rw [← nI_add, ← nI_mul]; rfl
      have i4 : (4 : Int32) + 3 * nI p = nI (4 + 3 * p) := by rw [← nI_add, ← nI_mul]; rfl
      have key : ∀ (s w : Int32), s = (if p < n then B (3 * p + 3) - 48 else 0) → w = (if p < n then B (3 * p + 4) - 48 else 1) → R MX7_field 3 0 0 (fun v h' z'_1 => v = some (.int (nI n)) ∧ z'_1 = z' ∧ ∃ A', h' = mOv h (upd (upd I 0 (nI n)) 2 0, J, A', me) ∧ A' 2 = B ∧ A' 7 0 = 0 ∧ A' 7 1 = 0 ∧ ∀ t, En A' 0 n (B 1 - 48) (startC B n t).2.2.1 (startC B n t).2.2.2) 148 [.ref 152, .int (nI p)] [] (mOv h (upd I 0 (nI n), J, upA (upA A1 0 p s) 1 p w, me)) z' 0 0 := by
        intro s w es ew
        refine r_aload iX7_field_148 rfl ?_
        refine r_gnow iX7_field_149 (flX7_19 _ rfl) ?_
        refine r_iconst (v := 2) iX7_field_152 rfl ?_
        refine r_bipush (v := 7) iX7_field_153 rfl ?_
        refine r_iload iX7_field_155 rfl ?_
        refine r_imul iX7_field_156 ?_
        refine r_iadd iX7_field_157 ?_
        refine r_iconst (v := 2) iX7_field_158 rfl ?_
        refine r_iadd iX7_field_159 ?_
        refine r_bipush (v := (-9)) iX7_field_160 rfl ?_
        refine r_st3 iX7_field_162 (i7 2) (by omega) ?_
        refine r_aload iX7_field_163 rfl ?_
        refine r_gnow iX7_field_164 (flX7_19 _ rfl) ?_
        refine r_iconst (v := 2) iX7_field_167 rfl ?_
        refine r_bipush (v := 7) iX7_field_168 rfl ?_
        refine r_iload iX7_field_170 rfl ?_
        refine r_imul iX7_field_171 ?_
        refine r_iadd iX7_field_172 ?_
        refine r_iconst (v := 3) iX7_field_173 rfl ?_
        refine r_iadd iX7_field_174 ?_
        refine r_bipush (v := (-9)) iX7_field_175 rfl ?_
        refine r_st3 iX7_field_177 (i7 3) (by omega) ?_
        refine r_iinc_1 iX7_field_178 (by first | exact nI_inc _ | rfl) rfl ?_
        refine r_goto iX7_field_181 ?_
        refine ih (p + 1) _ (by omega) ?_ ?_ ?_ (fun i hi => ?_) (fun i w' hi hw => ?_)
        · exact hA2
        · show (if 0 = 2 + 7 * p + 3 then (-9 : Int32) else if 0 = 2 + 7 * p + 2 then -9 else A1 3 0) = _
          rw [if_neg (by omega), if_neg (by omega), hb]
        · show (if 1 = 2 + 7 * p + 3 then (-9 : Int32) else if 1 = 2 + 7 * p + 2 then -9 else A1 3 1) = _
          rw [if_neg (by omega), if_neg (by omega), hu]
        · show (if i = p then s else A1 0 i) = _ ∧ (if i = p then w else A1 1 i) = _
          by_cases g : i = p
          · subst g; exact ⟨(if_pos rfl).trans es, (if_pos rfl).trans ew⟩
          · rw [if_neg g, if_neg g]; exact hsw i (by omega)
        · show (if 2 + 7 * i + w' = 2 + 7 * p + 3 then (-9 : Int32) else if 2 + 7 * i + w' = 2 + 7 * p + 2 then -9 else A1 3 (2 + 7 * i + w')) = _
          by_cases g1 : 2 + 7 * i + w' = 2 + 7 * p + 3
          · rw [if_pos g1, if_pos (by omega)]
          · by_cases g2 : 2 + 7 * i + w' = 2 + 7 * p + 2
            · rw [if_neg g1, if_pos g2, if_pos (by omega)]
            · rw [if_neg g1, if_neg g2, hm i w' hi hw]
              by_cases g3 : i < p ∧ (w' = 2 ∨ w' = 3)
              · rw [if_pos g3, if_pos (by omega)]
              · rw [if_neg g3, if_neg (by omega)]
      by_cases g : p < n
      · refine r_iload iX7_field_81 rfl ?_
        refine r_iconst (v := 4) iX7_field_82 rfl ?_
        refine r_icmp_ge iX7_field_83 (fun g9 => absurd g9 (nI_ge (b := 4) (by omega) (by omega))) (fun _ => ?_)
        refine r_aload iX7_field_86 rfl ?_
        refine r_gstrength iX7_field_87 (flX7_7 _ rfl) ?_
        refine r_iload iX7_field_90 rfl ?_
        refine r_iload iX7_field_91 rfl ?_
        refine r_aload iX7_field_92 rfl ?_
        refine r_gthrowers iX7_field_93 (flX7_68 _ rfl) ?_
        refine r_icmp_ge iX7_field_96 (fun g9 => absurd g9 (nI_ge g (by omega))) (fun _ => ?_)
        refine r_aload iX7_field_99 rfl ?_
        refine r_gtext iX7_field_100 (flX7_16 _ rfl) ?_
        refine r_iconst (v := 3) iX7_field_103 rfl ?_
        refine r_iconst (v := 3) iX7_field_104 rfl ?_
        refine r_iload iX7_field_105 rfl ?_
        refine r_imul iX7_field_106 ?_
        refine r_iadd iX7_field_107 ?_
        rw [i3]
        refine r_ld2 iX7_field_108 rfl (by omega) ?_
        refine r_bipush (v := 48) iX7_field_109 rfl ?_
        refine r_isub iX7_field_111 ?_
        refine r_goto iX7_field_112 ?_
        refine r_st0 iX7_field_116 rfl (by omega) ?_
        refine r_aload iX7_field_117 rfl ?_
        refine r_gwind iX7_field_118 (flX7_13 _ rfl) ?_
        refine r_iload iX7_field_121 rfl ?_
        refine r_iload iX7_field_122 rfl ?_
        refine r_aload iX7_field_123 rfl ?_
        refine r_gthrowers iX7_field_124 (flX7_68 _ rfl) ?_
        refine r_icmp_ge iX7_field_127 (fun g9 => absurd g9 (nI_ge g (by omega))) (fun _ => ?_)
        refine r_aload iX7_field_130 rfl ?_
        refine r_gtext iX7_field_131 (flX7_16 _ rfl) ?_
        refine r_iconst (v := 4) iX7_field_134 rfl ?_
        refine r_iconst (v := 3) iX7_field_135 rfl ?_
        refine r_iload iX7_field_136 rfl ?_
        refine r_imul iX7_field_137 ?_
        refine r_iadd iX7_field_138 ?_
        rw [i4]
        refine r_ld2 iX7_field_139 rfl (by omega) ?_
        refine r_bipush (v := 48) iX7_field_140 rfl ?_
        refine r_isub iX7_field_142 ?_
        refine r_goto iX7_field_143 ?_
        refine r_st1 iX7_field_147 rfl (by omega) ?_
        refine key _ _ ?_ ?_
        · rw [if_pos g, hA2, Nat.add_comm]
        · rw [if_pos g, Nat.add_comm (3 * p) 4, ← hA2]; rfl
      · refine r_iload iX7_field_81 rfl ?_
        refine r_iconst (v := 4) iX7_field_82 rfl ?_
        refine r_icmp_ge iX7_field_83 (fun g9 => absurd g9 (nI_ge (b := 4) (by omega) (by omega))) (fun _ => ?_)
        refine r_aload iX7_field_86 rfl ?_
        refine r_gstrength iX7_field_87 (flX7_7 _ rfl) ?_
        refine r_iload iX7_field_90 rfl ?_
        refine r_iload iX7_field_91 rfl ?_
        refine r_aload iX7_field_92 rfl ?_
        refine r_gthrowers iX7_field_93 (flX7_68 _ rfl) ?_
        refine r_icmp_ge iX7_field_96 (fun _ => ?_) (fun g9 => absurd (nI_le (by omega) (by omega)) g9)
        refine r_iconst (v := 0) iX7_field_115 rfl ?_
        refine r_st0 iX7_field_116 rfl (by omega) ?_
        refine r_aload iX7_field_117 rfl ?_
        refine r_gwind iX7_field_118 (flX7_13 _ rfl) ?_
        refine r_iload iX7_field_121 rfl ?_
        refine r_iload iX7_field_122 rfl ?_
        refine r_aload iX7_field_123 rfl ?_
        refine r_gthrowers iX7_field_124 (flX7_68 _ rfl) ?_
        refine r_icmp_ge iX7_field_127 (fun _ => ?_) (fun g9 => absurd (nI_le (by omega) (by omega)) g9)
        refine r_iconst (v := 1) iX7_field_146 rfl ?_
        refine r_st1 iX7_field_147 rfl (by omega) ?_
        exact key _ _ (if_neg g).symm (if_neg g).symm
  have loop1 : ∀ (j p : Nat) (A1 : Nat → Nat → Int32), p + j = 30 → (∀ k, k ≠ 3 → A1 k = A k) → (∀ q, q < p → A1 3 q = 0) → R MX7_field 3 0 0 (fun v h' z'_1 => v = some (.int (nI n)) ∧ z'_1 = z' ∧ ∃ A', h' = mOv h (upd (upd I 0 (nI n)) 2 0, J, A', me) ∧ A' 2 = B ∧ A' 7 0 = 0 ∧ A' 7 1 = 0 ∧ ∀ t, En A' 0 n (B 1 - 48) (startC B n t).2.2.1 (startC B n t).2.2.2) 26 [.ref 152, .int (nI p)] [] (mOv h (upd I 0 (nI n), J, A1, me)) z' 0 0 := by
    intro j
    induction j with
    | zero =>
      intro p A1 hp hk hz
      obtain rfl : p = 30 := by omega
      have fin : ∀ u, u = (if 0 < n then (0 : Int32) else -9) → R MX7_field 3 0 0 (fun v h' z'_1 => v = some (.int (nI n)) ∧ z'_1 = z' ∧ ∃ A', h' = mOv h (upd (upd I 0 (nI n)) 2 0, J, A', me) ∧ A' 2 = B ∧ A' 7 0 = 0 ∧ A' 7 1 = 0 ∧ ∀ t, En A' 0 n (B 1 - 48) (startC B n t).2.2.1 (startC B n t).2.2.2) 78 [.ref 152, .int (nI 30)] [.int u, .int 1, .ref 156] (mOv h (upd I 0 (nI n), J, upA A1 3 0 (B 1 - 48), me)) z' 0 0 := by
        intro u hu
        refine r_st3 iX7_field_78 ((show (1 : Int32) = nI 1 from rfl)) (by omega) ?_
        refine r_iconst (v := 0) iX7_field_79 rfl ?_
        refine r_istore_1 iX7_field_80 rfl ?_
        refine loop2 4 0 _ (by omega) ((hk 2 (by omega)).trans hB) rfl hu (fun i hi => absurd hi (Nat.not_lt_zero i)) (fun i w hi hw => ?_)
        rw [if_neg (by omega)]
        show (if 2 + 7 * i + w = 1 then u else if 2 + 7 * i + w = 0 then _ else A1 3 (2 + 7 * i + w)) = 0
        rw [if_neg (by omega), if_neg (by omega), hz _ (by omega)]
      refine r_iload iX7_field_26 rfl ?_
      refine r_bipush (v := 30) iX7_field_27 rfl ?_
      refine r_icmp_ge iX7_field_29 (fun _ => ?_) (fun g9 => absurd (by decide) g9)
      refine r_aload iX7_field_45 rfl ?_
      refine r_gnow iX7_field_46 (flX7_19 _ rfl) ?_
      refine r_iconst (v := 0) iX7_field_49 rfl ?_
      refine r_aload iX7_field_50 rfl ?_
      refine r_gtext iX7_field_51 (flX7_16 _ rfl) ?_
      refine r_iconst (v := 1) iX7_field_54 rfl ?_
      refine r_ld2 iX7_field_55 ((show (1 : Int32) = nI 1 from rfl)) (by omega) ?_
      rw [show A1 2 1 = B 1 by rw [hk 2 (by omega), hB]]
      refine r_bipush (v := 48) iX7_field_56 rfl ?_
      refine r_isub iX7_field_58 ?_
      refine r_st3 iX7_field_59 ((show (0 : Int32) = nI 0 from rfl)) (by omega) ?_
      refine r_aload iX7_field_60 rfl ?_
      refine r_gnow iX7_field_61 (flX7_19 _ rfl) ?_
      refine r_iconst (v := 1) iX7_field_64 rfl ?_
      refine r_aload iX7_field_65 rfl ?_
      refine r_gthrowers iX7_field_66 (flX7_68 _ rfl) ?_
      rw [hI0]
      by_cases g : 0 < n
      · refine r_if_le iX7_field_69 (fun g9 => absurd g9 (nI_nle g (by omega))) (fun _ => ?_)
        refine r_iconst (v := 0) iX7_field_72 rfl ?_
        refine r_goto iX7_field_73 ?_
        exact fin 0 (if_pos g).symm
      · have : n = 0 := by omega
        subst this
        refine r_if_le iX7_field_69 (fun _ => ?_) (fun g9 => absurd (by decide) g9)
        refine r_bipush (v := (-9)) iX7_field_76 rfl ?_
        exact fin (-9) rfl
    | succ j ih =>
      intro p A1 hp hk hz
      refine r_iload iX7_field_26 rfl ?_
      refine r_bipush (v := 30) iX7_field_27 rfl ?_
      refine r_icmp_ge iX7_field_29 (fun g9 => absurd g9 (nI_ge (b := 30) (by omega) (by omega))) (fun _ => ?_)
      refine r_aload iX7_field_32 rfl ?_
      refine r_gnow iX7_field_33 (flX7_19 _ rfl) ?_
      refine r_iload iX7_field_36 rfl ?_
      refine r_iconst (v := 0) iX7_field_37 rfl ?_
      refine r_st3 iX7_field_38 rfl (by omega) ?_
      refine r_iinc_1 iX7_field_39 (by first | exact nI_inc _ | rfl) rfl ?_
      refine r_goto iX7_field_42 ?_
      refine ih (p + 1) _ (by omega) (fun k hk' => (upA_ne hk').trans (hk k hk')) (fun q hq => ?_)
      show (if q = p then (0 : Int32) else A1 3 q) = 0
      by_cases e : q = p
      · exact if_pos e
      · rw [if_neg e]; exact hz q (by omega)
  exact loop1 30 0 A (by omega) (fun _ _ => rfl) (fun q hq => absurd hq (Nat.not_lt_zero q))
