/-! the model makes a throw -/
theorem upT_self (t : Nat → Nat → Int32) (i : Nat) (k : Nat → Int32) : upT t i k i = k := if_pos rfl
theorem upT_upT (t : Nat → Nat → Int32) (i : Nat) (k k2 : Nat → Int32) : upT (upT t i k) i k2 = upT t i k2 := by
  funext j; unfold upT; by_cases g : j = i
  · rw [if_pos g, if_pos g]
  · rw [if_neg g, if_neg g, if_neg g]
theorem upT_id (t : Nat → Nat → Int32) (i : Nat) : upT t i (t i) = t := by
  funext j; unfold upT; by_cases g : j = i
  · rw [if_pos g, g]
  · rw [if_neg g]
theorem En.set' {A : Nat → Nat → Int32} {l n : Nat} {b u : Int32} {t : Nat → Nat → Int32} {i : Nat} {k : Nat → Int32} (H : En A l n b u (upT t i k)) {w : Nat} (v : Int32) (hi : i < n) (hw : w < 7) : En (sA A l i w v) l n b u (upT t i (kset k (w + 2) v)) := by
  have e := H.set v hi hw
  rw [upT_self, upT_upT] at e
  exact e
theorem En.mk' {A : Nat → Nat → Int32} {l n : Nat} {b u : Int32} {t : Nat → Nat → Int32} {i : Nat} {k : Nat → Int32} (H : En A l n b u (upT t i k)) {w : Nat} (hi : i < n) (hw : w < 7) : A 3 (30 * l + 2 + 7 * i + w) = k (w + 2) := by
  rw [H.mk hi hw, upT_self]
theorem c7_make (h : Hp) {I : Nat → Int32} (J : Nat → Int64) {A0 A : Nat → Nat → Int32} (me : Nat → Int64) {l n : Nat} {b : Int32} {i : Nat} {t : Nat → Nat → Int32} (h0 : I 0 = nI n) (hfr : fr l A0 A) (H : En A l n b (nI i) t) (hl : l < 2) (hn : n ≤ 4) (hi : i < n) (h7 : t i 7 = 0) {r : Nat} (hr : t i 3 = nI r) (hr2 : r ≤ 2) {w : Nat} (hw : w < 3) (z : Nat) : Cal MX7_make 3 0 0 [.ref 152, .int (nI l), .int (nI w)] (mOv h (I, J, A, me)) z (fun v h' z' => v = none ∧ z' = z ∧ ∃ A', h' = mOv h (I, J, A', me) ∧ fr l A0 A' ∧ En A' l n (actC n b i t w).2.1 (actC n b i t w).2.2.1 (actC n b i t w).2.2.2) := by
  refine Cal_of_R (by decide +kernel) (L := [.ref 152, .int (nI l), .int (nI w), .null]) rfl (Nat.le_of_ble_eq_true rfl) ?_
  have hi4 : i < 4 := by omega
  have H0 : En A l n b (nI i) (upT t i (t i)) := by rw [upT_id]; exact H
  refine r_aload iX7_make_0 rfl ?_
  refine r_gnow iX7_make_1 (flX7_19 _ rfl) ?_
  refine r_bipush (v := 30) iX7_make_4 rfl ?_
  refine r_iload iX7_make_6 rfl ?_
  refine r_imul iX7_make_7 ?_
  refine r_iconst (v := 1) iX7_make_8 rfl ?_
  refine r_iadd iX7_make_9 ?_
  refine r_ld3 iX7_make_10 (ix1 l) (by omega) ?_
  rw [H.2.1]
  refine r_istore_3 iX7_make_11 rfl ?_
  have fin : ∀ (A1 : Nat → Nat → Int32) (k : Nat → Int32), fr l A0 A1 → En A1 l n b (nI i) (upT t i k) → (∀ j, j < 9 → kAct (t i) b w j = k j) → R MX7_make 3 0 0 (fun v h' z' => v = none ∧ z' = z ∧ ∃ A', h' = mOv h (I, J, A', me) ∧ fr l A0 A' ∧ En A' l n (actC n b i t w).2.1 (actC n b i t w).2.2.1 (actC n b i t w).2.2.2) 177 [.ref 152, .int (nI l), .int (nI w), .int (nI i)] [] (mOv h (I, J, A1, me)) z 0 0 := by
    intro A1 k hf1 H1 ek
    have H2 : En A1 l n b (nI i) (upT t i (kAct (t i) b w)) := H1.congr (fun i' hi' j hj => by
      unfold upT
      by_cases g : i' = i
      · rw [if_pos g, if_pos g]; exact ek j hj
      · rw [if_neg g, if_neg g])
    refine r_aload iX7_make_177 rfl ?_
    refine r_iload iX7_make_178 rfl ?_
    refine r_callV iX7_make_179 (cX7_107 _ rfl) (c7_goOn h J me h0 hf1 H2 hl hn hi z) (by omega) (mOv_obj _ _) rfl rfl rfl (Nat.le_of_ble_eq_true rfl) (by first | exact Nat.le_of_ble_eq_true rfl | omega) (by first | exact Nat.le_of_ble_eq_true rfl | omega) ?_
    rintro v h' z' ⟨rfl, rfl, A', rfl, q1, q2⟩
    refine r_vret iX7_make_182 rfl ?_
    exact ⟨rfl, rfl, A', rfl, q1, q2⟩
  match w, hw with
  | 2, _ =>
    refine r_iload iX7_make_12 rfl ?_
    refine r_iconst (v := 2) iX7_make_13 rfl ?_
    refine r_icmp_ge iX7_make_14 (fun _ => ?_) (fun g9 => absurd (by decide) g9)
    refine r_iload iX7_make_33 rfl ?_
    refine r_iconst (v := 1) iX7_make_34 rfl ?_
    refine r_icmp_ne iX7_make_35 (fun _ => ?_) (fun g9 => absurd g9 (by decide))
    refine r_iload iX7_make_88 rfl ?_
    refine r_iconst (v := 2) iX7_make_89 rfl ?_
    refine r_icmp_ne iX7_make_90 (fun g9 => absurd (rfl) g9) (fun _ => ?_)
    refine r_aload iX7_make_93 rfl ?_
    refine r_iload iX7_make_94 rfl ?_
    refine r_iload iX7_make_95 rfl ?_
    refine r_iconst (v := 5) iX7_make_96 rfl ?_
    refine r_iconst (v := 2) iX7_make_97 rfl ?_
    refine r_callV iX7_make_98 (cX7_103 _ rfl) (c7_set h I J A me 2 hl (t := i) hi4 (w := 5) (by omega) _) (by omega) (mOv_obj _ _) rfl rfl rfl (Nat.le_of_ble_eq_true rfl) (by first | exact Nat.le_of_ble_eq_true rfl | omega) (by first | exact Nat.le_of_ble_eq_true rfl | omega) ?_
    rintro v h' z' ⟨rfl, rfl, rfl⟩
    refine r_goto iX7_make_101 ?_
    refine fin _ _ (hfr.sA 2 hi4 (by omega)) (H0.set' 2 hi (w := 5) (by omega)) (fun j hj => ?_)
    match j, hj with
    | 0, _ => rfl
    | 1, _ => rfl
    | 2, _ => rfl
    | 3, _ => rfl
    | 4, _ => rfl
    | 5, _ => rfl
    | 6, _ => rfl
    | 7, _ => rfl
    | 8, _ => rfl
  | 1, _ =>
    refine r_iload iX7_make_12 rfl ?_
    refine r_iconst (v := 2) iX7_make_13 rfl ?_
    refine r_icmp_ge iX7_make_14 (fun g9 => absurd g9 (by decide)) (fun _ => ?_)
    refine r_aload iX7_make_17 rfl ?_
    refine r_iload iX7_make_18 rfl ?_
    refine r_iload iX7_make_19 rfl ?_
    refine r_iconst (v := 0) iX7_make_20 rfl ?_
    refine r_aload iX7_make_21 rfl ?_
    refine r_iload iX7_make_22 rfl ?_
    refine r_iload iX7_make_23 rfl ?_
    refine r_iconst (v := 0) iX7_make_24 rfl ?_
    refine r_callV iX7_make_25 (cX7_77 _ rfl) (c7_mark h I J A me hl (t := i) hi4 (w := 0) (by omega) _) (by omega) (mOv_obj _ _) rfl rfl rfl (Nat.le_of_ble_eq_true rfl) (by first | exact Nat.le_of_ble_eq_true rfl | omega) (by first | exact Nat.le_of_ble_eq_true rfl | omega) ?_
    rintro v h' z' ⟨rfl, rfl, rfl⟩
    rw [show _ = t i 2 from H.mk (w := 0) hi (by omega)]
    refine r_iconst (v := 1) iX7_make_28 rfl ?_
    refine r_iadd iX7_make_29 ?_
    refine r_callV iX7_make_30 (cX7_103 _ rfl) (c7_set h I J A me _ hl (t := i) hi4 (w := 0) (by omega) _) (by omega) (mOv_obj _ _) rfl rfl rfl (Nat.le_of_ble_eq_true rfl) (by first | exact Nat.le_of_ble_eq_true rfl | omega) (by first | exact Nat.le_of_ble_eq_true rfl | omega) ?_
    rintro v h' z' ⟨rfl, rfl, rfl⟩
    have H1 := H0.set' (t i 2 + 1) hi (w := 0) (by omega)
    have f1 := hfr.sA (t i 2 + 1) hi4 (w := 0) (by omega)
    refine r_iload iX7_make_33 rfl ?_
    refine r_iconst (v := 1) iX7_make_34 rfl ?_
    refine r_icmp_ne iX7_make_35 (fun g9 => absurd (rfl) g9) (fun _ => ?_)
    refine r_aload iX7_make_38 rfl ?_
    refine r_iload iX7_make_39 rfl ?_
    refine r_iload iX7_make_40 rfl ?_
    refine r_iconst (v := 1) iX7_make_41 rfl ?_
    refine r_iconst (v := 0) iX7_make_42 rfl ?_
    refine r_callV iX7_make_43 (cX7_103 _ rfl) (c7_set h I J _ me 0 hl (t := i) hi4 (w := 1) (by omega) _) (by omega) (mOv_obj _ _) rfl rfl rfl (Nat.le_of_ble_eq_true rfl) (by first | exact Nat.le_of_ble_eq_true rfl | omega) (by first | exact Nat.le_of_ble_eq_true rfl | omega) ?_
    rintro v h' z' ⟨rfl, rfl, rfl⟩
    replace H1 := H1.set' 0 hi (w := 1) (by omega)
    replace f1 := f1.sA 0 hi4 (w := 1) (by omega)
    refine r_aload iX7_make_46 rfl ?_
    refine r_iload iX7_make_47 rfl ?_
    refine r_iload iX7_make_48 rfl ?_
    refine r_iconst (v := 2) iX7_make_49 rfl ?_
    refine r_aload iX7_make_50 rfl ?_
    refine r_gnow iX7_make_51 (flX7_19 _ rfl) ?_
    refine r_bipush (v := 30) iX7_make_54 rfl ?_
    refine r_iload iX7_make_56 rfl ?_
    refine r_imul iX7_make_57 ?_
    refine r_ld3 iX7_make_58 (ix0 l) (by omega) ?_
    rw [H1.1]
    refine r_callV iX7_make_59 (cX7_103 _ rfl) (c7_set h I J _ me b hl (t := i) hi4 (w := 2) (by omega) _) (by omega) (mOv_obj _ _) rfl rfl rfl (Nat.le_of_ble_eq_true rfl) (by first | exact Nat.le_of_ble_eq_true rfl | omega) (by first | exact Nat.le_of_ble_eq_true rfl | omega) ?_
    rintro v h' z' ⟨rfl, rfl, rfl⟩
    replace H1 := H1.set' b hi (w := 2) (by omega)
    replace f1 := f1.sA b hi4 (w := 2) (by omega)
    refine r_aload iX7_make_62 rfl ?_
    refine r_iload iX7_make_63 rfl ?_
    refine r_iload iX7_make_64 rfl ?_
    refine r_iconst (v := 3) iX7_make_65 rfl ?_
    refine r_aload iX7_make_66 rfl ?_
    refine r_iload iX7_make_67 rfl ?_
    refine r_iload iX7_make_68 rfl ?_
    refine r_bipush (v := 6) iX7_make_69 rfl ?_
    refine r_callV iX7_make_71 (cX7_77 _ rfl) (c7_mark h I J _ me hl (t := i) hi4 (w := 6) (by omega) _) (by omega) (mOv_obj _ _) rfl rfl rfl (Nat.le_of_ble_eq_true rfl) (by first | exact Nat.le_of_ble_eq_true rfl | omega) (by first | exact Nat.le_of_ble_eq_true rfl | omega) ?_
    rintro v h' z' ⟨rfl, rfl, rfl⟩
    rw [show _ = t i 8 from H1.mk' (w := 6) hi (by omega)]
    refine r_callV iX7_make_74 (cX7_103 _ rfl) (c7_set h I J _ me _ hl (t := i) hi4 (w := 3) (by omega) _) (by omega) (mOv_obj _ _) rfl rfl rfl (Nat.le_of_ble_eq_true rfl) (by first | exact Nat.le_of_ble_eq_true rfl | omega) (by first | exact Nat.le_of_ble_eq_true rfl | omega) ?_
    rintro v h' z' ⟨rfl, rfl, rfl⟩
    replace H1 := H1.set' (t i 8) hi (w := 3) (by omega)
    replace f1 := f1.sA (t i 8) hi4 (w := 3) (by omega)
    refine r_aload iX7_make_77 rfl ?_
    refine r_iload iX7_make_78 rfl ?_
    refine r_iload iX7_make_79 rfl ?_
    refine r_iconst (v := 5) iX7_make_80 rfl ?_
    refine r_iconst (v := 1) iX7_make_81 rfl ?_
    refine r_callV iX7_make_82 (cX7_103 _ rfl) (c7_set h I J _ me 1 hl (t := i) hi4 (w := 5) (by omega) _) (by omega) (mOv_obj _ _) rfl rfl rfl (Nat.le_of_ble_eq_true rfl) (by first | exact Nat.le_of_ble_eq_true rfl | omega) (by first | exact Nat.le_of_ble_eq_true rfl | omega) ?_
    rintro v h' z' ⟨rfl, rfl, rfl⟩
    replace H1 := H1.set' 1 hi (w := 5) (by omega)
    replace f1 := f1.sA 1 hi4 (w := 5) (by omega)
    refine r_goto iX7_make_85 ?_
    refine fin _ _ f1 H1 (fun j hj => ?_)
    match j, hj with
    | 0, _ => rfl
    | 1, _ => rfl
    | 2, _ => rfl
    | 3, _ => rfl
    | 4, _ => rfl
    | 5, _ => rfl
    | 6, _ => rfl
    | 7, _ => rfl
    | 8, _ => rfl
  | 0, _ =>
    refine r_iload iX7_make_12 rfl ?_
    refine r_iconst (v := 2) iX7_make_13 rfl ?_
    refine r_icmp_ge iX7_make_14 (fun g9 => absurd g9 (by decide)) (fun _ => ?_)
    refine r_aload iX7_make_17 rfl ?_
    refine r_iload iX7_make_18 rfl ?_
    refine r_iload iX7_make_19 rfl ?_
    refine r_iconst (v := 0) iX7_make_20 rfl ?_
    refine r_aload iX7_make_21 rfl ?_
    refine r_iload iX7_make_22 rfl ?_
    refine r_iload iX7_make_23 rfl ?_
    refine r_iconst (v := 0) iX7_make_24 rfl ?_
    refine r_callV iX7_make_25 (cX7_77 _ rfl) (c7_mark h I J A me hl (t := i) hi4 (w := 0) (by omega) _) (by omega) (mOv_obj _ _) rfl rfl rfl (Nat.le_of_ble_eq_true rfl) (by first | exact Nat.le_of_ble_eq_true rfl | omega) (by first | exact Nat.le_of_ble_eq_true rfl | omega) ?_
    rintro v h' z' ⟨rfl, rfl, rfl⟩
    rw [show _ = t i 2 from H.mk (w := 0) hi (by omega)]
    refine r_iconst (v := 1) iX7_make_28 rfl ?_
    refine r_iadd iX7_make_29 ?_
    refine r_callV iX7_make_30 (cX7_103 _ rfl) (c7_set h I J A me _ hl (t := i) hi4 (w := 0) (by omega) _) (by omega) (mOv_obj _ _) rfl rfl rfl (Nat.le_of_ble_eq_true rfl) (by first | exact Nat.le_of_ble_eq_true rfl | omega) (by first | exact Nat.le_of_ble_eq_true rfl | omega) ?_
    rintro v h' z' ⟨rfl, rfl, rfl⟩
    have H1 := H0.set' (t i 2 + 1) hi (w := 0) (by omega)
    have f1 := hfr.sA (t i 2 + 1) hi4 (w := 0) (by omega)
    refine r_iload iX7_make_33 rfl ?_
    refine r_iconst (v := 1) iX7_make_34 rfl ?_
    refine r_icmp_ne iX7_make_35 (fun _ => ?_) (fun g9 => absurd g9 (by decide))
    refine r_iload iX7_make_88 rfl ?_
    refine r_iconst (v := 2) iX7_make_89 rfl ?_
    refine r_icmp_ne iX7_make_90 (fun _ => ?_) (fun g9 => absurd g9 (by decide))
    refine r_aload iX7_make_104 rfl ?_
    refine r_iload iX7_make_105 rfl ?_
    refine r_iload iX7_make_106 rfl ?_
    refine r_iconst (v := 1) iX7_make_107 rfl ?_
    refine r_aload iX7_make_108 rfl ?_
    refine r_iload iX7_make_109 rfl ?_
    refine r_iload iX7_make_110 rfl ?_
    refine r_iconst (v := 1) iX7_make_111 rfl ?_
    refine r_callV iX7_make_112 (cX7_77 _ rfl) (c7_mark h I J _ me hl (t := i) hi4 (w := 1) (by omega) _) (by omega) (mOv_obj _ _) rfl rfl rfl (Nat.le_of_ble_eq_true rfl) (by first | exact Nat.le_of_ble_eq_true rfl | omega) (by first | exact Nat.le_of_ble_eq_true rfl | omega) ?_
    rintro v h' z' ⟨rfl, rfl, rfl⟩
    rw [show _ = t i 3 from H1.mk' (w := 1) hi (by omega)]
    refine r_iconst (v := 1) iX7_make_115 rfl ?_
    refine r_iadd iX7_make_116 ?_
    refine r_callV iX7_make_117 (cX7_103 _ rfl) (c7_set h I J _ me _ hl (t := i) hi4 (w := 1) (by omega) _) (by omega) (mOv_obj _ _) rfl rfl rfl (Nat.le_of_ble_eq_true rfl) (by first | exact Nat.le_of_ble_eq_true rfl | omega) (by first | exact Nat.le_of_ble_eq_true rfl | omega) ?_
    rintro v h' z' ⟨rfl, rfl, rfl⟩
    replace H1 := H1.set' (t i 3 + 1) hi (w := 1) (by omega)
    replace f1 := f1.sA (t i 3 + 1) hi4 (w := 1) (by omega)
    refine r_aload iX7_make_120 rfl ?_
    refine r_iload iX7_make_121 rfl ?_
    refine r_iload iX7_make_122 rfl ?_
    refine r_iconst (v := 4) iX7_make_123 rfl ?_
    refine r_aload iX7_make_124 rfl ?_
    refine r_iload iX7_make_125 rfl ?_
    refine r_iload iX7_make_126 rfl ?_
    refine r_iconst (v := 4) iX7_make_127 rfl ?_
    refine r_callV iX7_make_128 (cX7_77 _ rfl) (c7_mark h I J _ me hl (t := i) hi4 (w := 4) (by omega) _) (by omega) (mOv_obj _ _) rfl rfl rfl (Nat.le_of_ble_eq_true rfl) (by first | exact Nat.le_of_ble_eq_true rfl | omega) (by first | exact Nat.le_of_ble_eq_true rfl | omega) ?_
    rintro v h' z' ⟨rfl, rfl, rfl⟩
    rw [show _ = t i 6 from H1.mk' (w := 4) hi (by omega)]
    refine r_iconst (v := 1) iX7_make_131 rfl ?_
    refine r_iadd iX7_make_132 ?_
    refine r_callV iX7_make_133 (cX7_103 _ rfl) (c7_set h I J _ me _ hl (t := i) hi4 (w := 4) (by omega) _) (by omega) (mOv_obj _ _) rfl rfl rfl (Nat.le_of_ble_eq_true rfl) (by first | exact Nat.le_of_ble_eq_true rfl | omega) (by first | exact Nat.le_of_ble_eq_true rfl | omega) ?_
    rintro v h' z' ⟨rfl, rfl, rfl⟩
    replace H1 := H1.set' (t i 6 + 1) hi (w := 4) (by omega)
    replace f1 := f1.sA (t i 6 + 1) hi4 (w := 4) (by omega)
    refine r_aload iX7_make_136 rfl ?_
    refine r_iload iX7_make_137 rfl ?_
    refine r_iload iX7_make_138 rfl ?_
    refine r_bipush (v := 6) iX7_make_139 rfl ?_
    refine r_aload iX7_make_141 rfl ?_
    refine r_iload iX7_make_142 rfl ?_
    refine r_iload iX7_make_143 rfl ?_
    refine r_bipush (v := 6) iX7_make_144 rfl ?_
    refine r_callV iX7_make_146 (cX7_77 _ rfl) (c7_mark h I J _ me hl (t := i) hi4 (w := 6) (by omega) _) (by omega) (mOv_obj _ _) rfl rfl rfl (Nat.le_of_ble_eq_true rfl) (by first | exact Nat.le_of_ble_eq_true rfl | omega) (by first | exact Nat.le_of_ble_eq_true rfl | omega) ?_
    rintro v h' z' ⟨rfl, rfl, rfl⟩
    rw [show _ = t i 8 from H1.mk' (w := 6) hi (by omega)]
    refine r_iconst (v := 1) iX7_make_149 rfl ?_
    refine r_iadd iX7_make_150 ?_
    refine r_callV iX7_make_151 (cX7_103 _ rfl) (c7_set h I J _ me _ hl (t := i) hi4 (w := 6) (by omega) _) (by omega) (mOv_obj _ _) rfl rfl rfl (Nat.le_of_ble_eq_true rfl) (by first | exact Nat.le_of_ble_eq_true rfl | omega) (by first | exact Nat.le_of_ble_eq_true rfl | omega) ?_
    rintro v h' z' ⟨rfl, rfl, rfl⟩
    replace H1 := H1.set' (t i 8 + 1) hi (w := 6) (by omega)
    replace f1 := f1.sA (t i 8 + 1) hi4 (w := 6) (by omega)
    refine r_aload iX7_make_154 rfl ?_
    refine r_iload iX7_make_155 rfl ?_
    refine r_iload iX7_make_156 rfl ?_
    refine r_iconst (v := 5) iX7_make_157 rfl ?_
    refine r_aload iX7_make_158 rfl ?_
    refine r_iload iX7_make_159 rfl ?_
    refine r_iload iX7_make_160 rfl ?_
    refine r_iconst (v := 1) iX7_make_161 rfl ?_
    refine r_callV iX7_make_162 (cX7_77 _ rfl) (c7_mark h I J _ me hl (t := i) hi4 (w := 1) (by omega) _) (by omega) (mOv_obj _ _) rfl rfl rfl (Nat.le_of_ble_eq_true rfl) (by first | exact Nat.le_of_ble_eq_true rfl | omega) (by first | exact Nat.le_of_ble_eq_true rfl | omega) ?_
    rintro v h' z' ⟨rfl, rfl, rfl⟩
    rw [show _ = t i 3 + 1 from H1.mk' (w := 1) hi (by omega)]
    have er : t i 3 + 1 = nI (r + 1) := by rw [hr]; exact nI_1 r
    have last : ∀ s, s = (if t i 3 + 1 < 3 then t i 7 else 3) → R MX7_make 3 0 0 (fun v h' z'_1 => v = none ∧ z'_1 = z' ∧ ∃ A', h' = mOv h (I, J, A', me) ∧ fr l A0 A' ∧ En A' l n (actC n b i t 0).2.1 (actC n b i t 0).2.2.1 (actC n b i t 0).2.2.2) 174 [.ref 152, .int (nI l), .int (nI 0), .int (nI i)] [.int s, .int 5, .int (nI i), .int (nI l), .ref 152] (mOv h (I, J, sA (sA (sA (sA A l i 0 (t i 2 + 1)) l i 1 (t i 3 + 1)) l i 4 (t i 6 + 1)) l i 6 (t i 8 + 1), me)) z' 0 0 := by
      intro s es
      refine r_callV iX7_make_174 (cX7_103 _ rfl) (c7_set h I J _ me s hl (t := i) hi4 (w := 5) (by omega) _) (by omega) (mOv_obj _ _) rfl rfl rfl (Nat.le_of_ble_eq_true rfl) (by first | exact Nat.le_of_ble_eq_true rfl | omega) (by first | exact Nat.le_of_ble_eq_true rfl | omega) ?_
      rintro v h' z8 ⟨rfl, rfl, rfl⟩
      refine fin _ _ (f1.sA s hi4 (w := 5) (by omega)) (H1.set' s hi (w := 5) (by omega)) (fun j hj => ?_)
      match j, hj with
      | 0, _ => rfl
      | 1, _ => rfl
      | 2, _ => rfl
      | 3, _ => rfl
      | 4, _ => rfl
      | 5, _ => rfl
      | 6, _ => rfl
      | 7, _ => exact es.symm
      | 8, _ => rfl
    by_cases g : r + 1 = 3
    · refine r_iconst (v := 3) iX7_make_165 rfl ?_
      refine r_icmp_ne iX7_make_166 (fun g9 => absurd (er.trans (congrArg nI g)) g9) (fun _ => ?_)
      refine r_iconst (v := 3) iX7_make_169 rfl ?_
      refine r_goto iX7_make_170 ?_
      exact last 3 (by rw [er, if_neg (show ¬ nI (r + 1) < (3 : Int32) from nI_nlt (b := 3) (by omega) (by omega))])
    · refine r_iconst (v := 3) iX7_make_165 rfl ?_
      refine r_icmp_ne iX7_make_166 (fun _ => ?_) (fun g9 => absurd g9 (fun q => g ((nI_eq (b := 3) (by omega) (by omega)).mp (er.symm.trans q))))
      refine r_iconst (v := 0) iX7_make_173 rfl ?_
      exact last 0 (by rw [er, if_pos (show nI (r + 1) < (3 : Int32) from nI_lt (b := 3) (by omega) (by omega)), h7])
