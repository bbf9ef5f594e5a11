/-! partsOf and first -/
theorem c7_pend (h : Hp) {I : Nat → Int32} (J : Nat → Int64) {A : Nat → Nat → Int32} (me : Nat → Int64) {n bb : Nat} {u : Int32} {t : Nat → Nat → Int32} (h0 : I 0 = nI n) (H : En A 0 n (nI bb) u t) (hC : OkC n bb u t) {x : Nat} (hx : x < 4) {m code : Nat} {k : Nat → Int32} (hv : VOk k) (W : Nat) (z : Nat) (x4 x11 : Int32) (w12 w13 w14 w15 : Value) : R MX7_partsOf 2 0 0 (fun v h' z' => v = some (.long (lN (if allT (nobP t x k) n = true then W else 0))) ∧ h' = mOv h (I, J, A, me) ∧ z' = z) 282 [.ref 152, .int (nI x), .int (nI m), .int (nI code), .int x4, .int (k 2), .int (k 4), .int (k 5), .int (k 6), .long (lN W), .null, .int x11, w12, w13, w14, w15] [] (mOv h (I, J, A, me)) z 0 0 := by
  have hn := hC.1
  have loop : ∀ (j p : Nat), p + j = n → ∀ z', z' = z → R MX7_partsOf 2 0 0 (fun v h' z' => v = some (.long (lN (if allT (nobP t x k) n = true then W else 0))) ∧ h' = mOv h (I, J, A, me) ∧ z' = z) 288 [.ref 152, .int (nI x), .int (nI m), .int (nI code), .int x4, .int (k 2), .int (k 4), .int (k 5), .int (k 6), .long (lN W), .null, .int x11, .int (b2i (allT (nobP t x k) p)), .int (nI p), w14, w15] [] (mOv h (I, J, A, me)) z' 0 0 := by
    intro j
    induction j with
    | zero =>
      intro p hp z' ez
      obtain rfl : p = n := by omega
      refine r_iload iX7_partsOf_288 rfl ?_
      refine r_aload iX7_partsOf_290 rfl ?_
      refine r_gthrowers iX7_partsOf_291 (flX7_68 _ rfl) ?_
      rw [h0]
      refine r_icmp_ge iX7_partsOf_294 (fun _ => ?_) (fun g9 => absurd (nI_le (by omega) (by omega)) g9)
      refine r_iload iX7_partsOf_340 rfl ?_
      cases g : allT (nobP t x k) p with
      | true =>
        refine r_if_eq iX7_partsOf_342 (fun g9 => absurd g9 (by decide)) (fun _ => ?_)
        refine r_lload iX7_partsOf_345 rfl ?_
        refine r_goto iX7_partsOf_347 ?_
        refine r_lret iX7_partsOf_351 rfl ?_
        exact ⟨by rw [if_pos rfl], rfl, ez⟩
      | false =>
        refine r_if_eq iX7_partsOf_342 (fun _ => ?_) (fun g9 => absurd (rfl) g9)
        refine r_lconst (v := 0) iX7_partsOf_350 rfl ?_
        refine r_lret iX7_partsOf_351 rfl ?_
        exact ⟨by rw [if_neg (by decide)]; rfl, rfl, ez⟩
    | succ j ih =>
      intro p hp z' ez
      refine r_iload iX7_partsOf_288 rfl ?_
      refine r_aload iX7_partsOf_290 rfl ?_
      refine r_gthrowers iX7_partsOf_291 (flX7_68 _ rfl) ?_
      rw [h0]
      refine r_icmp_ge iX7_partsOf_294 (fun g9 => absurd g9 (nI_ge (by omega) (by omega))) (fun _ => ?_)
      refine r_iload iX7_partsOf_297 rfl ?_
      cases g : allT (nobP t x k) p with
      | false =>
        refine r_if_eq iX7_partsOf_299 (fun _ => ?_) (fun g9 => absurd (rfl) g9)
        refine r_iconst (v := 0) iX7_partsOf_331 rfl ?_
        refine r_istore_12 iX7_partsOf_332 rfl ?_
        refine r_iinc_13 iX7_partsOf_334 (by first | exact nI_inc _ | rfl) rfl ?_
        refine r_goto iX7_partsOf_337 ?_
        have e := ih (p + 1) (by omega) z' ez
        rw [show allT (nobP t x k) (p + 1) = false by rw [allT, g]; rfl] at e
        exact e
      | true =>
        by_cases g2 : p = x
        · refine r_if_eq iX7_partsOf_299 (fun g9 => absurd g9 (by decide)) (fun _ => ?_)
          refine r_iload iX7_partsOf_302 rfl ?_
          refine r_iload iX7_partsOf_304 rfl ?_
          refine r_icmp_eq iX7_partsOf_305 (fun _ => ?_) (fun g9 => absurd (congrArg nI g2) g9)
          refine r_iconst (v := 1) iX7_partsOf_327 rfl ?_
          refine r_goto iX7_partsOf_328 ?_
          refine r_istore_12 iX7_partsOf_332 rfl ?_
          refine r_iinc_13 iX7_partsOf_334 (by first | exact nI_inc _ | rfl) rfl ?_
          refine r_goto iX7_partsOf_337 ?_
          have e := ih (p + 1) (by omega) z' ez
          rw [show allT (nobP t x k) (p + 1) = true by rw [allT, g, nobP, decide_eq_true g2]; rfl] at e
          exact e
        · refine r_if_eq iX7_partsOf_299 (fun g9 => absurd g9 (by decide)) (fun _ => ?_)
          refine r_iload iX7_partsOf_302 rfl ?_
          refine r_iload iX7_partsOf_304 rfl ?_
          refine r_icmp_eq iX7_partsOf_305 (fun g9 => absurd g9 (fun q => g2 ((nI_eq (by omega) (by omega)).mp q))) (fun _ => ?_)
          refine r_aload iX7_partsOf_308 rfl ?_
          refine r_iconst (v := 0) iX7_partsOf_309 rfl ?_
          refine r_iload iX7_partsOf_310 rfl ?_
          refine r_callV iX7_partsOf_312 (cX7_85 _ rfl) (c7_valueOf h I J me H (l := 0) (by omega) hn (i := p) (by omega) _) (by omega) (mOv_obj _ _) rfl rfl rfl (Nat.le_of_ble_eq_true rfl) (by first | exact Nat.le_of_ble_eq_true rfl | omega) (by first | exact Nat.le_of_ble_eq_true rfl | omega) ?_
          rintro v h' z9 ⟨rfl, rfl, rfl⟩
          refine r_iload iX7_partsOf_315 rfl ?_
          refine r_iload iX7_partsOf_317 rfl ?_
          refine r_iload iX7_partsOf_319 rfl ?_
          refine r_callS iX7_partsOf_321 (cX7_82 _ rfl) (c7_value _ _ _ _ _) (by omega) rfl rfl (Nat.le_of_ble_eq_true rfl) (by first | exact Nat.le_of_ble_eq_true rfl | omega) (by first | exact Nat.le_of_ble_eq_true rfl | omega) ?_
          rintro v h' z9 ⟨rfl, rfl, rfl⟩
          have hb := kVal_lt hv ((hC.2.2.2 p (by omega)).v hC.2.1)
          have e := ih (p + 1) (by omega) z9 ez
          by_cases g3 : kBetter (t p) k = true
          · rw [show allT (nobP t x k) (p + 1) = false by rw [allT, g, nobP, decide_eq_false g2, g3]; rfl] at e
            refine r_icmp_gt iX7_partsOf_324 (fun _ => ?_) (fun g9 => absurd (hb.mpr g3) g9)
            refine r_iconst (v := 0) iX7_partsOf_331 rfl ?_
            refine r_istore_12 iX7_partsOf_332 rfl ?_
            refine r_iinc_13 iX7_partsOf_334 (by first | exact nI_inc _ | rfl) rfl ?_
            refine r_goto iX7_partsOf_337 ?_
            exact e
          · rw [show allT (nobP t x k) (p + 1) = true by rw [allT, g, nobP, decide_eq_false g2, Bool.not_eq_true _ |>.mp g3]; rfl] at e
            refine r_icmp_gt iX7_partsOf_324 (fun g9 => absurd g9 (fun q => g3 (hb.mp q))) (fun _ => ?_)
            refine r_iconst (v := 1) iX7_partsOf_327 rfl ?_
            refine r_goto iX7_partsOf_328 ?_
            refine r_istore_12 iX7_partsOf_332 rfl ?_
            refine r_iinc_13 iX7_partsOf_334 (by first | exact nI_inc _ | rfl) rfl ?_
            refine r_goto iX7_partsOf_337 ?_
            exact e
  refine r_iconst (v := 1) iX7_partsOf_282 rfl ?_
  refine r_istore_12 iX7_partsOf_283 rfl ?_
  refine r_iconst (v := 0) iX7_partsOf_285 rfl ?_
  refine r_istore_13 iX7_partsOf_286 rfl ?_
  exact loop n 0 (by omega) z rfl
theorem c7_partsOf (h : Hp) {I : Nat → Int32} (J : Nat → Int64) {A : Nat → Nat → Int32} (me : Nat → Int64) {n bb : Nat} {u : Int32} {t : Nat → Nat → Int32} (h0 : I 0 = nI n) (H : En A 0 n (nI bb) u t) (hC : OkC n bb u t) {x : Nat} (hx : x < n) (h7 : ¬ t x 7 = 3) {m : Nat} (h1 : 1 ≤ m) (h4 : m ≤ 4) (hb : bb + m ≤ 12) {code : Nat} (hc : code < 4 ^ m) : Fn MX7_partsOf 2 [.ref 152, .int (nI x), .int (nI m), .int (nI code)] (mOv h (I, J, A, me)) (some (.long (lN (pf n t x (nI bb) m 0 (t x) false (10 ^ (3 * m)) code)))) := by
  intro z
  have hn := hC.1
  have hx4 : x < 4 := by omega
  have hcode : code < 2 ^ 31 := Nat.lt_of_lt_of_le hc (Nat.le_trans (Nat.pow_le_pow_right (by decide) h4) (by decide))
  generalize hF : pf n t x (nI bb) m 0 (t x) false (10 ^ (3 * m)) code = F
  refine Cal_of_R (by decide +kernel) (L := [.ref 152, .int (nI x), .int (nI m), .int (nI code), .null, .null, .null, .null, .null, .null, .null, .null, .null, .null, .null, .null]) rfl (Nat.le_of_ble_eq_true rfl) ?_
  refine r_aload iX7_partsOf_0 rfl ?_
  refine r_iconst (v := 0) iX7_partsOf_1 rfl ?_
  refine r_iload iX7_partsOf_2 rfl ?_
  refine r_iconst (v := 1) iX7_partsOf_3 rfl ?_
  refine r_callV iX7_partsOf_4 (cX7_77 _ rfl) (c7_mark h I J A me (l := 0) (by omega) hx4 (w := 1) (by omega) _) (by omega) (mOv_obj _ _) rfl rfl rfl (Nat.le_of_ble_eq_true rfl) (by first | exact Nat.le_of_ble_eq_true rfl | omega) (by first | exact Nat.le_of_ble_eq_true rfl | omega) ?_
  rintro v h' z' ⟨rfl, rfl, rfl⟩
  rw [show _ = t x 3 from H.mk (w := 1) hx (by omega)]
  refine r_istore_4 iX7_partsOf_7 rfl ?_
  refine r_aload iX7_partsOf_9 rfl ?_
  refine r_iconst (v := 0) iX7_partsOf_10 rfl ?_
  refine r_iload iX7_partsOf_11 rfl ?_
  refine r_iconst (v := 0) iX7_partsOf_12 rfl ?_
  refine r_callV iX7_partsOf_13 (cX7_77 _ rfl) (c7_mark h I J A me (l := 0) (by omega) hx4 (w := 0) (by omega) _) (by omega) (mOv_obj _ _) rfl rfl rfl (Nat.le_of_ble_eq_true rfl) (by first | exact Nat.le_of_ble_eq_true rfl | omega) (by first | exact Nat.le_of_ble_eq_true rfl | omega) ?_
  rintro v h' z' ⟨rfl, rfl, rfl⟩
  rw [show _ = t x 2 from H.mk (w := 0) hx (by omega)]
  refine r_istore_5 iX7_partsOf_16 rfl ?_
  refine r_aload iX7_partsOf_18 rfl ?_
  refine r_iconst (v := 0) iX7_partsOf_19 rfl ?_
  refine r_iload iX7_partsOf_20 rfl ?_
  refine r_iconst (v := 2) iX7_partsOf_21 rfl ?_
  refine r_callV iX7_partsOf_22 (cX7_77 _ rfl) (c7_mark h I J A me (l := 0) (by omega) hx4 (w := 2) (by omega) _) (by omega) (mOv_obj _ _) rfl rfl rfl (Nat.le_of_ble_eq_true rfl) (by first | exact Nat.le_of_ble_eq_true rfl | omega) (by first | exact Nat.le_of_ble_eq_true rfl | omega) ?_
  rintro v h' z' ⟨rfl, rfl, rfl⟩
  rw [show _ = t x 4 from H.mk (w := 2) hx (by omega)]
  refine r_istore_6 iX7_partsOf_25 rfl ?_
  refine r_aload iX7_partsOf_27 rfl ?_
  refine r_iconst (v := 0) iX7_partsOf_28 rfl ?_
  refine r_iload iX7_partsOf_29 rfl ?_
  refine r_iconst (v := 3) iX7_partsOf_30 rfl ?_
  refine r_callV iX7_partsOf_31 (cX7_77 _ rfl) (c7_mark h I J A me (l := 0) (by omega) hx4 (w := 3) (by omega) _) (by omega) (mOv_obj _ _) rfl rfl rfl (Nat.le_of_ble_eq_true rfl) (by first | exact Nat.le_of_ble_eq_true rfl | omega) (by first | exact Nat.le_of_ble_eq_true rfl | omega) ?_
  rintro v h' z' ⟨rfl, rfl, rfl⟩
  rw [show _ = t x 5 from H.mk (w := 3) hx (by omega)]
  refine r_istore_7 iX7_partsOf_34 rfl ?_
  refine r_aload iX7_partsOf_36 rfl ?_
  refine r_iconst (v := 0) iX7_partsOf_37 rfl ?_
  refine r_iload iX7_partsOf_38 rfl ?_
  refine r_iconst (v := 4) iX7_partsOf_39 rfl ?_
  refine r_callV iX7_partsOf_40 (cX7_77 _ rfl) (c7_mark h I J A me (l := 0) (by omega) hx4 (w := 4) (by omega) _) (by omega) (mOv_obj _ _) rfl rfl rfl (Nat.le_of_ble_eq_true rfl) (by first | exact Nat.le_of_ble_eq_true rfl | omega) (by first | exact Nat.le_of_ble_eq_true rfl | omega) ?_
  rintro v h' z' ⟨rfl, rfl, rfl⟩
  rw [show _ = t x 6 from H.mk (w := 4) hx (by omega)]
  refine r_istore_8 iX7_partsOf_43 rfl ?_
  refine r_iconst (v := 3) iX7_partsOf_45 rfl ?_
  refine r_iload iX7_partsOf_46 rfl ?_
  refine r_imul iX7_partsOf_47 ?_
  rw [show (3 : Int32) * nI m = nI (3 * m) from pk_mul 3 m]
  refine r_callS iX7_partsOf_48 (cX7_124 _ rfl) (c7_tenTo _ (3 * m) (by omega) _) (by omega) rfl rfl (Nat.le_of_ble_eq_true rfl) (by first | exact Nat.le_of_ble_eq_true rfl | omega) (by first | exact Nat.le_of_ble_eq_true rfl | omega) ?_
  rintro v h' z' ⟨rfl, rfl, rfl⟩
  have loop : ∀ (j i : Nat) (k : Nat → Int32) (W : Nat) (out : Bool) (x4 : Int32) (w13 w14 w15 : Value), i + j = m → W ≤ 10 ^ 12 → (out = false → Pk (40 + 3 * i) 3 k ∧ k 8 = (if i = 0 then t x 8 else 0) ∧ x4 = k 3 ∧ k 0 = t x 0 ∧ k 1 = t x 1 ∧ ∃ r, k 3 = nI r ∧ r ≤ 2) → (out = true → Pk (40 + 3 * i) 6 k) → pf n t x (nI bb) j i k out W code = F → R MX7_partsOf 2 0 0 (fun v h' z'_1 => v = some (.long (lN F)) ∧ h' = mOv h (I, J, A, me) ∧ z'_1 = z') 59 [.ref 152, .int (nI x), .int (nI m), .int (nI code), .int x4, .int (k 2), .int (k 4), .int (k 5), .int (k 6), .long (lN W), .null, .int (b2i out), .int (nI i), w13, w14, w15] [] (mOv h (I, J, A, me)) z' 0 0 := by
    intro j
    induction j with
    | zero =>
      intro i k W out x4 w13 w14 w15 hi hW hf ht he
      obtain rfl : i = m := by omega
      have hv : VOk k := by
        cases out with
        | false => exact (hf rfl).1.v (by omega)
        | true => exact (ht rfl).v (by omega)
      refine r_iload iX7_partsOf_59 rfl ?_
      refine r_iload iX7_partsOf_61 rfl ?_
      refine r_icmp_ge iX7_partsOf_62 (fun _ => ?_) (fun g9 => absurd (nI_le (by omega) (by omega)) g9)
      rw [← he]
      exact c7_pend h J me h0 H hC hx4 hv W z' x4 _ _ _ _ _
    | succ j ih =>
      intro i k W out x4 w13 w14 w15 hi hW hf ht he
      have hc4 : code / 4 ^ j % 4 < 4 := Nat.mod_lt _ (by decide)
      rw [pf_B] at he
      unfold pfB at he
      refine r_iload iX7_partsOf_59 rfl ?_
      refine r_iload iX7_partsOf_61 rfl ?_
      refine r_icmp_ge iX7_partsOf_62 (fun g9 => absurd g9 (nI_ge (by omega) (by omega))) (fun _ => ?_)
      refine r_iload iX7_partsOf_65 rfl ?_
      refine r_iconst (v := 2) iX7_partsOf_66 rfl ?_
      refine r_iload iX7_partsOf_67 rfl ?_
      refine r_iconst (v := 1) iX7_partsOf_68 rfl ?_
      refine r_isub iX7_partsOf_69 ?_
      refine r_iload iX7_partsOf_70 rfl ?_
      refine r_isub iX7_partsOf_72 ?_
      rw [show nI m - 1 - nI i = nI j by rw [show nI m - 1 = nI (m - 1) from pk_sub (b := 1) h1, pk_sub (by omega)]; congr 1; omega]
      refine r_imul iX7_partsOf_73 ?_
      refine r_ishr iX7_partsOf_74 ?_
      refine r_iconst (v := 3) iX7_partsOf_75 rfl ?_
      refine r_iand iX7_partsOf_76 ?_
      rw [code_dig m h4 j (by omega) code hc]
      generalize code / 4 ^ j % 4 = c at he hc4 ⊢
      refine r_istore_13 iX7_partsOf_77 rfl ?_
      cases out with
      | true =>
        rw [if_pos rfl] at he
        by_cases g0 : c = 0
        · subst g0
          rw [if_pos rfl] at he
          refine r_iload iX7_partsOf_79 rfl ?_
          refine r_iconst (v := 3) iX7_partsOf_81 rfl ?_
          refine r_icmp_ne iX7_partsOf_82 (fun _ => ?_) (fun g9 => absurd g9 (by decide))
          refine r_iload iX7_partsOf_92 rfl ?_
          refine r_istore_14 iX7_partsOf_94 rfl ?_
          refine r_iload iX7_partsOf_96 rfl ?_
          refine r_if_eq iX7_partsOf_98 (fun g9 => absurd g9 (by decide)) (fun _ => ?_)
          refine r_iload iX7_partsOf_101 rfl ?_
          refine r_if_eq iX7_partsOf_103 (fun _ => ?_) (fun g9 => absurd (rfl) g9)
          refine r_iconst (v := 0) iX7_partsOf_126 rfl ?_
          refine r_istore_15 iX7_partsOf_127 rfl ?_
          refine r_iload iX7_partsOf_129 rfl ?_
          refine r_iload iX7_partsOf_131 rfl ?_
          refine r_icmp_ge iX7_partsOf_133 (fun _ => ?_) (fun g9 => absurd (by decide) g9)
          refine r_iload iX7_partsOf_182 rfl ?_
          refine r_iconst (v := 3) iX7_partsOf_184 rfl ?_
          refine r_icmp_ge iX7_partsOf_185 (fun g9 => absurd g9 (by decide)) (fun _ => ?_)
          refine r_iload iX7_partsOf_188 rfl ?_
          refine r_if_ne iX7_partsOf_190 (fun _ => ?_) (fun g9 => absurd g9 (by decide))
          refine r_iload iX7_partsOf_258 rfl ?_
          refine r_if_ne iX7_partsOf_260 (fun _ => ?_) (fun g9 => absurd g9 (by decide))
          refine r_iconst (v := 1) iX7_partsOf_269 rfl ?_
          refine r_goto iX7_partsOf_270 ?_
          refine r_istore_11 iX7_partsOf_274 rfl ?_
          refine r_iinc_12 iX7_partsOf_276 (by first | exact nI_inc _ | rfl) rfl ?_
          refine r_goto iX7_partsOf_279 ?_
          exact ih (i + 1) k W true x4 _ _ _ (by omega) hW (fun q => by cases q) (fun _ => (ht rfl).le (by omega) (Nat.le_refl _)) he
        · rw [if_neg g0] at he
          by_cases g3 : c = 3
          · subst g3
            refine r_iload iX7_partsOf_79 rfl ?_
            refine r_iconst (v := 3) iX7_partsOf_81 rfl ?_
            refine r_icmp_ne iX7_partsOf_82 (fun g9 => absurd (rfl) g9) (fun _ => ?_)
            refine r_iconst (v := 3) iX7_partsOf_85 rfl ?_
            refine r_iload iX7_partsOf_86 rfl ?_
            refine r_isub iX7_partsOf_88 ?_
            refine r_goto iX7_partsOf_89 ?_
            refine r_istore_14 iX7_partsOf_94 rfl ?_
            refine r_iload iX7_partsOf_96 rfl ?_
            refine r_if_eq iX7_partsOf_98 (fun g9 => absurd g9 (by decide)) (fun _ => ?_)
            refine r_iload iX7_partsOf_101 rfl ?_
            refine r_if_eq iX7_partsOf_103 (fun g9 => absurd g9 (by decide)) (fun _ => ?_)
            refine r_goto iX7_partsOf_106 ?_
            refine r_lconst (v := 0) iX7_partsOf_124 rfl ?_
            refine r_lret iX7_partsOf_125 rfl ?_
            exact ⟨by rw [← he]; rfl, rfl, rfl⟩
          · refine r_iload iX7_partsOf_79 rfl ?_
            refine r_iconst (v := 3) iX7_partsOf_81 rfl ?_
            refine r_icmp_ne iX7_partsOf_82 (fun _ => ?_) (fun g9 => absurd g9 (fun q => g3 ((nI_eq (b := 3) (by omega) (by omega)).mp q)))
            refine r_iload iX7_partsOf_92 rfl ?_
            refine r_istore_14 iX7_partsOf_94 rfl ?_
            refine r_iload iX7_partsOf_96 rfl ?_
            refine r_if_eq iX7_partsOf_98 (fun g9 => absurd g9 (by decide)) (fun _ => ?_)
            refine r_iload iX7_partsOf_101 rfl ?_
            refine r_if_eq iX7_partsOf_103 (fun g9 => absurd g9 (nI_ne0 (by omega) (by omega))) (fun _ => ?_)
            refine r_goto iX7_partsOf_106 ?_
            refine r_lconst (v := 0) iX7_partsOf_124 rfl ?_
            refine r_lret iX7_partsOf_125 rfl ?_
            exact ⟨by rw [← he]; rfl, rfl, rfl⟩
      | false =>
        rw [if_neg (by decide)] at he
        obtain ⟨hP, h8, rfl, k0, k1, r, hr, hr2⟩ := hf rfl
        have h3 : (k 3).toNatClampNeg = r := by rw [hr, nI_clamp (by omega)]
        have hk1 : 0 < k 1 := by rw [k1]; exact (hC.2.2.2 x hx).w
        have k0' : k 0 = A 0 x := k0.trans (H.2.2 x hx).1
        have k1' : k 1 = A 1 x := k1.trans (H.2.2 x hx).2.1
        rw [h3] at he
        by_cases g3 : c = 3
        · subst g3
          rw [if_neg (by decide)] at he
          refine r_iload iX7_partsOf_79 rfl ?_
          refine r_iconst (v := 3) iX7_partsOf_81 rfl ?_
          refine r_icmp_ne iX7_partsOf_82 (fun g9 => absurd (rfl) g9) (fun _ => ?_)
          refine r_iconst (v := 3) iX7_partsOf_85 rfl ?_
          rw [hr]
          refine r_iload iX7_partsOf_86 rfl ?_
          refine r_isub iX7_partsOf_88 ?_
          rw [show (3 : Int32) - nI r = nI (3 - r) from nI_sub (a := 3) (by omega)]
          refine r_goto iX7_partsOf_89 ?_
          refine r_istore_14 iX7_partsOf_94 rfl ?_
          refine r_iload iX7_partsOf_96 rfl ?_
          refine r_if_eq iX7_partsOf_98 (fun _ => ?_) (fun g9 => absurd (rfl) g9)
          refine r_iload iX7_partsOf_109 rfl ?_
          refine r_iconst (v := 3) iX7_partsOf_111 rfl ?_
          refine r_icmp_ge iX7_partsOf_112 (fun _ => ?_) (fun g9 => absurd (by decide) g9)
          refine r_iconst (v := 0) iX7_partsOf_126 rfl ?_
          refine r_istore_15 iX7_partsOf_127 rfl ?_
          refine c7_miss h I J me H.1 hx4 (wh := 3) (i := i) (ms := 3 - r) (by omega) (nI r) z' (mis (nI bb + nI i) (3 - r) k W).1 (mis (nI bb + nI i) (3 - r) k W).2 ?_ (3 - r) 0 k W (by omega) hW k0' k1' hk1 rfl
          refine r_iload iX7_partsOf_182 rfl ?_
          refine r_iconst (v := 3) iX7_partsOf_184 rfl ?_
          refine r_icmp_ge iX7_partsOf_185 (fun _ => ?_) (fun g9 => absurd (by decide) g9)
          refine r_iload iX7_partsOf_258 rfl ?_
          refine r_if_ne iX7_partsOf_260 (fun g9 => absurd (rfl) g9) (fun _ => ?_)
          refine r_iload iX7_partsOf_263 rfl ?_
          refine r_iconst (v := 3) iX7_partsOf_265 rfl ?_
          refine r_icmp_ne iX7_partsOf_266 (fun g9 => absurd (rfl) g9) (fun _ => ?_)
          refine r_iconst (v := 1) iX7_partsOf_269 rfl ?_
          refine r_goto iX7_partsOf_270 ?_
          refine r_istore_11 iX7_partsOf_274 rfl ?_
          refine r_iinc_12 iX7_partsOf_276 (by first | exact nI_inc _ | rfl) rfl ?_
          refine r_goto iX7_partsOf_279 ?_
          exact ih (i + 1) (mis (nI bb + nI i) (3 - r) k W).1 (mis (nI bb + nI i) (3 - r) k W).2 true (nI r) _ _ _ (by omega) (Nat.le_trans (mis_W _ _ _ _) hW) (fun q => by cases q) (fun _ => (mis_P _ (3 - r) k W _ _ hP).le (by omega) (by omega)) he
        · rw [if_pos (show c < 3 by omega)] at he
          refine r_iload iX7_partsOf_79 rfl ?_
          refine r_iconst (v := 3) iX7_partsOf_81 rfl ?_
          refine r_icmp_ne iX7_partsOf_82 (fun _ => ?_) (fun g9 => absurd g9 (fun q => g3 ((nI_eq (b := 3) (by omega) (by omega)).mp q)))
          refine r_iload iX7_partsOf_92 rfl ?_
          refine r_istore_14 iX7_partsOf_94 rfl ?_
          refine r_iload iX7_partsOf_96 rfl ?_
          refine r_if_eq iX7_partsOf_98 (fun _ => ?_) (fun g9 => absurd (rfl) g9)
          refine r_iload iX7_partsOf_109 rfl ?_
          refine r_iconst (v := 3) iX7_partsOf_111 rfl ?_
          refine r_icmp_ge iX7_partsOf_112 (fun g9 => absurd g9 (nI_ge (b := 3) (by omega) (by omega))) (fun _ => ?_)
          refine r_iload iX7_partsOf_115 rfl ?_
          refine r_iload iX7_partsOf_117 rfl ?_
          refine r_iadd iX7_partsOf_119 ?_
          refine r_iconst (v := 2) iX7_partsOf_120 rfl ?_
          rw [hr, nI_add]
          by_cases g2 : 2 < r + c
          · rw [if_pos g2] at he
            refine r_icmp_le iX7_partsOf_121 (fun g9 => absurd g9 (nI_ge (a := 2) g2 (by omega))) (fun _ => ?_)
            refine r_lconst (v := 0) iX7_partsOf_124 rfl ?_
            refine r_lret iX7_partsOf_125 rfl ?_
            exact ⟨by rw [← he]; rfl, rfl, rfl⟩
          · rw [if_neg g2] at he
            refine r_icmp_le iX7_partsOf_121 (fun _ => ?_) (fun g9 => absurd (nI_le (b := 2) (by omega) (by omega)) g9)
            refine r_iconst (v := 0) iX7_partsOf_126 rfl ?_
            refine r_istore_15 iX7_partsOf_127 rfl ?_
            refine c7_miss h I J me H.1 hx4 (wh := c) (i := i) (ms := c) (by omega) (nI r) z' (mis (nI bb + nI i) c k W).1 (mis (nI bb + nI i) c k W).2 ?_ c 0 k W (by omega) hW k0' k1' hk1 rfl
            have hm8 := mis_8 (nI bb + nI i) c k W
            have hmP := mis_P (nI bb + nI i) c k W _ _ hP
            have hmW := mis_W (nI bb + nI i) c k W
            obtain ⟨m0, m1⟩ := mis_01 (nI bb + nI i) c k W
            generalize (mis (nI bb + nI i) c k W).1 = k' at he hm8 hmP m0 m1 ⊢
            generalize (mis (nI bb + nI i) c k W).2 = W' at he hmW ⊢
            have hp9 := pN_le k' (nI bb + nI i) 0
            have hpe := pN_eq k' (nI bb + nI i) 0
            generalize pN k' (nI bb + nI i) 0 = P at hp9 hpe he
            have hW1 : W' / 10 * P ≤ W' / 10 * 10 := Nat.mul_le_mul_left _ (by omega)
            have hW2 : W' / 10 * 10 ≤ W' := Nat.div_mul_le_self _ _
            refine r_iload iX7_partsOf_182 rfl ?_
            refine r_iconst (v := 3) iX7_partsOf_184 rfl ?_
            refine r_icmp_ge iX7_partsOf_185 (fun g9 => absurd g9 (nI_ge (b := 3) (by omega) (by omega))) (fun _ => ?_)
            refine r_iload iX7_partsOf_188 rfl ?_
            refine r_if_ne iX7_partsOf_190 (fun g9 => absurd (rfl) g9) (fun _ => ?_)
            refine r_lload iX7_partsOf_193 rfl ?_
            refine r_ldc2 (v := 10) iX7_partsOf_195 (gt_3 173 rfl rfl) ?_
            refine r_ldiv iX7_partsOf_198 (by decide) ?_
            rw [show lN W' / 10 = lN (W' / 10) from pk_lDiv (b := 10) (by omega) (by decide) (by decide)]
            refine r_aload iX7_partsOf_199 rfl ?_
            refine r_iload iX7_partsOf_200 rfl ?_
            refine r_aload iX7_partsOf_201 rfl ?_
            refine r_gnow iX7_partsOf_202 (flX7_19 _ rfl) ?_
            refine r_iconst (v := 0) iX7_partsOf_205 rfl ?_
            refine r_ld3 iX7_partsOf_206 ((show (0 : Int32) = nI 0 from rfl)) (by omega) ?_
            rw [show A 3 0 = nI bb from H.1]
            refine r_iload iX7_partsOf_207 rfl ?_
            refine r_iadd iX7_partsOf_209 ?_
            refine r_iload iX7_partsOf_210 rfl ?_
            refine r_callV iX7_partsOf_212 (cX7_94 _ rfl) (c7_oddsOf h I J me (k := k') (i := x) hx4 (k0'.symm.trans m0.symm) (k1'.symm.trans m1.symm) (m1.symm ▸ hk1) (nI bb + nI i) 0 _ (Int32.add_zero _).symm _) (by omega) (mOv_obj _ _) rfl rfl rfl (Nat.le_of_ble_eq_true rfl) (by first | exact Nat.le_of_ble_eq_true rfl | omega) (by first | exact Nat.le_of_ble_eq_true rfl | omega) ?_
            rintro v h' z'' ⟨rfl, rfl, rfl⟩
            rw [hpe]
            refine r_i2l iX7_partsOf_215 ?_
            rw [nI_l (by omega)]
            refine r_lmul iX7_partsOf_216 ?_
            rw [lN_mul]
            refine r_lstore_9 iX7_partsOf_217 rfl ?_
            refine r_iinc_5 iX7_partsOf_219 (rfl) rfl ?_
            refine r_aload iX7_partsOf_222 rfl ?_
            refine r_gnow iX7_partsOf_223 (flX7_19 _ rfl) ?_
            refine r_iconst (v := 0) iX7_partsOf_226 rfl ?_
            refine r_ld3 iX7_partsOf_227 ((show (0 : Int32) = nI 0 from rfl)) (by omega) ?_
            rw [show A 3 0 = nI bb from H.1]
            refine r_iload iX7_partsOf_228 rfl ?_
            refine r_iadd iX7_partsOf_230 ?_
            refine r_istore_6 iX7_partsOf_231 rfl ?_
            refine r_iload iX7_partsOf_233 rfl ?_
            refine r_iload iX7_partsOf_235 rfl ?_
            have fin : ∀ y, y = k 8 → R MX7_partsOf 2 0 0 (fun v h' z'_1 => v = some (.long (lN F)) ∧ h' = mOv h (I, J, A, me) ∧ z'_1 = z'') 252 [.ref 152, .int (nI x), .int (nI m), .int (nI code), .int (nI r), .int (k' 2 + Int32.ofInt 1), .int (nI bb + nI i), .int (k' 5), .int (k' 6), .long (lN (W' / 10 * P)), .null, .int 0, .int (nI i), .int (nI c), .int (nI c), .int (nI c)] [.int y, .int (nI c)] (mOv h (I, J, A, me)) z'' 0 0 := by
              intro y ey
              refine r_iadd iX7_partsOf_252 ?_
              rw [show nI c + y = k' 8 by rw [hm8, ey, Int32.add_comm]]
              refine r_istore_7 iX7_partsOf_253 rfl ?_
              refine r_iconst (v := 0) iX7_partsOf_255 rfl ?_
              refine r_istore_4 iX7_partsOf_256 rfl ?_
              refine r_iload iX7_partsOf_258 rfl ?_
              refine r_if_ne iX7_partsOf_260 (fun g9 => absurd (rfl) g9) (fun _ => ?_)
              refine r_iload iX7_partsOf_263 rfl ?_
              refine r_iconst (v := 3) iX7_partsOf_265 rfl ?_
              refine r_icmp_ne iX7_partsOf_266 (fun _ => ?_) (fun g9 => absurd g9 (fun q => g3 ((nI_eq (b := 3) (by omega) (by omega)).mp q)))
              refine r_iconst (v := 0) iX7_partsOf_273 rfl ?_
              refine r_istore_11 iX7_partsOf_274 rfl ?_
              refine r_iinc_12 iX7_partsOf_276 (by first | exact nI_inc _ | rfl) rfl ?_
              refine r_goto iX7_partsOf_279 ?_
              refine ih (i + 1) (kUp (kOver k' (nI bb + nI i))) (W' / 10 * P) false 0 _ _ _ (by omega) (by omega) (fun _ => ⟨?_, ?_, rfl, m0.trans k0, m1.trans k1, 0, rfl, by omega⟩) (fun q => by cases q) he
              · rw [nI_add]
                exact (hmP.over (by omega) (by omega)).le (by omega) (by omega)
              · rw [if_neg (by omega)]; rfl
            by_cases gi : i = 0
            · rw [if_pos gi] at h8
              refine r_if_ne iX7_partsOf_237 (fun g9 => absurd (congrArg nI gi) g9) (fun _ => ?_)
              refine r_aload iX7_partsOf_240 rfl ?_
              refine r_iconst (v := 0) iX7_partsOf_241 rfl ?_
              refine r_iload iX7_partsOf_242 rfl ?_
              refine r_bipush (v := 6) iX7_partsOf_243 rfl ?_
              refine r_callV iX7_partsOf_245 (cX7_77 _ rfl) (c7_mark h I J A me (l := 0) (by omega) hx4 (w := 6) (by omega) _) (by omega) (mOv_obj _ _) rfl rfl rfl (Nat.le_of_ble_eq_true rfl) (by first | exact Nat.le_of_ble_eq_true rfl | omega) (by first | exact Nat.le_of_ble_eq_true rfl | omega) ?_
              rintro v h' z8 ⟨rfl, rfl, rfl⟩
              rw [show _ = t x 8 from H.mk (w := 6) hx (by omega)]
              refine r_goto iX7_partsOf_248 ?_
              exact fin _ h8.symm
            · rw [if_neg gi] at h8
              refine r_if_ne iX7_partsOf_237 (fun _ => ?_) (fun g9 => absurd g9 (nI_ne0 (by omega) (by omega)))
              refine r_iconst (v := 0) iX7_partsOf_251 rfl ?_
              exact fin _ h8.symm
  refine r_lstore_9 iX7_partsOf_51 rfl ?_
  refine r_iconst (v := 0) iX7_partsOf_53 rfl ?_
  refine r_istore_11 iX7_partsOf_54 rfl ?_
  refine r_iconst (v := 0) iX7_partsOf_56 rfl ?_
  refine r_istore_12 iX7_partsOf_57 rfl ?_
  obtain ⟨_, _, hbest, r, a, e, q, e3, e6, e8, e7, hr3, he3, hq3, ha, g1, g2, g3⟩ := hC.2.2.2 x hx
  have hr2 : r ≤ 2 := by
    by_cases g : r = 3
    · exact absurd (by rw [e7, g2 g]; rfl) h7
    · omega
  have hbb := hC.2.1
  refine loop m 0 (t x) (10 ^ (3 * m)) false (t x 3) _ _ _ (by omega) (Nat.pow_le_pow_right (by decide) (by omega)) (fun _ => ⟨⟨?_, a, e, e6, e8, by omega, he3⟩, rfl, rfl, rfl, rfl, r, e3, hr2⟩) (fun q => by cases q) hF
  rcases hbest with g | ⟨y1, y2, l1, l2, l3, l4⟩
  · exact Or.inl g
  · exact Or.inr ⟨y1, y2, by omega, by omega, l3, l4⟩
theorem c7_first_no (h : Hp) (s : Ms) {x y : Int32} (w : Int32) {e : Int32} (he : Fn MX7_refused 3 [.ref 152, .int x, .int y] (mOv h s) (some (.int e))) (h0 : ¬ e = 0) : Fn MX7_first 4 [.ref 152, .int x, .int y, .int w] (mOv h s) (some (.long e.toInt64)) := by
  intro z
  refine Cal_of_R (by decide +kernel) (L := [.ref 152, .int x, .int y, .int w, .null, .null, .null, .null, .null]) rfl (Nat.le_of_ble_eq_true rfl) ?_
  refine r_aload iX7_first_0 rfl ?_
  refine r_iload iX7_first_1 rfl ?_
  refine r_iload iX7_first_2 rfl ?_
  refine r_callV iX7_first_3 (cX7_160 _ rfl) (he _) (by omega) (mOv_obj _ _) rfl rfl rfl (Nat.le_of_ble_eq_true rfl) (by first | exact Nat.le_of_ble_eq_true rfl | omega) (by first | exact Nat.le_of_ble_eq_true rfl | omega) ?_
  rintro v h' z' ⟨rfl, rfl, rfl⟩
  refine r_istore_4 iX7_first_6 rfl ?_
  refine r_iload iX7_first_8 rfl ?_
  refine r_if_eq iX7_first_10 (fun g9 => absurd g9 (h0)) (fun _ => ?_)
  refine r_iload iX7_first_13 rfl ?_
  refine r_i2l iX7_first_15 ?_
  refine r_lret iX7_first_16 rfl ?_
  exact ⟨rfl, rfl, rfl⟩
theorem shl2 {m : Nat} (hm : m ≤ 4) : (1 : Int32) <<< (((2 : Int32) * nI m) &&& 31) = nI (4 ^ m) := by
  have : ∀ m, m ≤ 4 → (1 : Int32) <<< (((2 : Int32) * nI m) &&& 31) = nI (4 ^ m) := by decide +kernel
  exact this m hm
theorem c7_first (h : Hp) {I : Nat → Int32} (J : Nat → Int64) {A : Nat → Nat → Int32} (me : Nat → Int64) {n bb : Nat} {u : Int32} {t : Nat → Nat → Int32} (h0 : I 0 = nI n) (H : En A 0 n (nI bb) u t) (hC : OkC n bb u t) {x : Nat} (hx : x < n) (h7 : ¬ t x 7 = 3) {m : Nat} (h1 : 1 ≤ m) (h4 : m ≤ 4) (hb : bb + m ≤ 12) (w : Int32) : Fn MX7_first 4 [.ref 152, .int (nI x), .int (nI m), .int w] (mOv h (I, J, A, me)) (some (.long (lN (frac (unb n t x m (nI bb) 12 0 0 (t x)) (10 ^ 12) w)))) := by
  intro z
  have hn := hC.1
  have hp4 : 4 ^ m ≤ 256 := Nat.le_trans (Nat.pow_le_pow_right (by decide) h4) (by decide)
  obtain ⟨_, _, hbest, r, a, e, q, e3, e6, e8, e7, hr3, he3, hq3, ha, g1, g2, g3⟩ := hC.2.2.2 x hx
  have hr2 : r ≤ 2 := by
    by_cases g : r = 3
    · exact absurd (by rw [e7, g2 g]; rfl) h7
    · omega
  have hS := sm_unb n t x m (nI bb) m 0 (t x) 1 (3 * m) 0 (12 - 3 * m) 12 r (by omega) e3 hr2 h7 (by omega) (by omega) (by omega)
  rw [Nat.one_mul, Nat.one_mul] at hS
  generalize hU : sm (pf n t x (nI bb) m 0 (t x) false (10 ^ (3 * m))) (4 ^ m) = U at hS
  have hub := unb_le n t x m (nI bb) 12 0 0 (t x)
  have hD0 : 0 < 10 ^ (12 - 3 * m) := Nat.pow_pos (by decide)
  have hU12 : U ≤ 10 ^ 12 := by
    rw [← hS] at hub
    have : U * 1 ≤ U * 10 ^ (12 - 3 * m) := Nat.mul_le_mul_left _ hD0
    omega
  have h12 : 10 ^ (3 * m) ≤ 10 ^ 12 := Nat.pow_le_pow_right (by decide) (by omega)
  have hp0 : 0 < 10 ^ (3 * m) := Nat.pow_pos (by decide)
  have ef : frac (unb n t x m (nI bb) 12 0 0 (t x)) (10 ^ 12) w = frac U (10 ^ (3 * m)) w := by
    rw [← hS, ← pow_up (show 3 * m + (12 - 3 * m) = 12 by omega), Nat.mul_comm U, Nat.mul_comm (10 ^ (3 * m)), frac_mul (c := 10 ^ (12 - 3 * m)) hD0]
  rw [ef]
  have hg0 : 0 < Nat.gcd U (10 ^ (3 * m)) := Nat.gcd_pos_of_pos_right _ hp0
  have hgl : Nat.gcd U (10 ^ (3 * m)) ≤ 10 ^ (3 * m) := Nat.gcd_le_right _ hp0
  have gne : ¬ lN (Nat.gcd U (10 ^ (3 * m))) = 0 := fun q => absurd ((pk_lEQ (b := 0) (by omega) (by omega)).mp q) (by omega)
  refine Cal_of_R (by decide +kernel) (L := [.ref 152, .int (nI x), .int (nI m), .int w, .null, .null, .null, .null, .null]) rfl (Nat.le_of_ble_eq_true rfl) ?_
  refine r_aload iX7_first_0 rfl ?_
  refine r_iload iX7_first_1 rfl ?_
  refine r_iload iX7_first_2 rfl ?_
  refine r_callV iX7_first_3 (cX7_160 _ rfl) (c7_ref_in h J me hn h0 H hx h1 h4 hb _) (by omega) (mOv_obj _ _) rfl rfl rfl (Nat.le_of_ble_eq_true rfl) (by first | exact Nat.le_of_ble_eq_true rfl | omega) (by first | exact Nat.le_of_ble_eq_true rfl | omega) ?_
  rintro v h' z' ⟨rfl, rfl, rfl⟩
  rw [if_neg h7]
  have loop : ∀ (j p : Nat), p + j = 4 ^ m → ∀ z9, z9 = z' → R MX7_first 4 0 0 (fun v h' z'_1 => v = some (.long (lN (frac U (10 ^ (3 * m)) w))) ∧ h' = mOv h (I, J, A, me) ∧ z'_1 = z') 23 [.ref 152, .int (nI x), .int (nI m), .int w, .int 0, .long (lN (sm (pf n t x (nI bb) m 0 (t x) false (10 ^ (3 * m))) p)), .null, .int (nI p), .null] [] (mOv h (I, J, A, me)) z9 0 0 := by
    intro j
    induction j with
    | zero =>
      intro p hp z9 ez
      obtain rfl : p = 4 ^ m := by omega
      rw [hU]
      refine r_iload iX7_first_23 rfl ?_
      refine r_iconst (v := 1) iX7_first_25 rfl ?_
      refine r_iconst (v := 2) iX7_first_26 rfl ?_
      refine r_iload iX7_first_27 rfl ?_
      refine r_imul iX7_first_28 ?_
      refine r_ishl iX7_first_29 ?_
      rw [shl2 h4]
      refine r_icmp_ge iX7_first_30 (fun _ => ?_) (fun g9 => absurd (nI_le (by omega) (by omega)) g9)
      refine r_lload iX7_first_52 rfl ?_
      refine r_iconst (v := 3) iX7_first_54 rfl ?_
      refine r_iload iX7_first_55 rfl ?_
      refine r_imul iX7_first_56 ?_
      rw [show (3 : Int32) * nI m = nI (3 * m) from pk_mul 3 m]
      refine r_callS iX7_first_57 (cX7_124 _ rfl) (c7_tenTo _ (3 * m) (by omega) _) (by omega) rfl rfl (Nat.le_of_ble_eq_true rfl) (by first | exact Nat.le_of_ble_eq_true rfl | omega) (by first | exact Nat.le_of_ble_eq_true rfl | omega) ?_
      rintro v h' z8 ⟨rfl, rfl, rfl⟩
      refine r_callS iX7_first_60 (cX7_139 _ rfl) (c7_common _ U (10 ^ (3 * m)) (by omega) (by omega) _) (by omega) rfl rfl (Nat.le_of_ble_eq_true rfl) (by first | exact Nat.le_of_ble_eq_true rfl | omega) (by first | exact Nat.le_of_ble_eq_true rfl | omega) ?_
      rintro v h' z8 ⟨rfl, rfl, rfl⟩
      refine r_lstore_7 iX7_first_63 rfl ?_
      by_cases g : w = 0
      · refine r_iload iX7_first_65 rfl ?_
        refine r_if_eq iX7_first_66 (fun _ => ?_) (fun g9 => absurd (g) g9)
        refine r_iconst (v := 3) iX7_first_77 rfl ?_
        refine r_iload iX7_first_78 rfl ?_
        refine r_imul iX7_first_79 ?_
        rw [show (3 : Int32) * nI m = nI (3 * m) from pk_mul 3 m]
        refine r_callS iX7_first_80 (cX7_124 _ rfl) (c7_tenTo _ (3 * m) (by omega) _) (by omega) rfl rfl (Nat.le_of_ble_eq_true rfl) (by first | exact Nat.le_of_ble_eq_true rfl | omega) (by first | exact Nat.le_of_ble_eq_true rfl | omega) ?_
        rintro v h' z8 ⟨rfl, rfl, rfl⟩
        refine r_lload iX7_first_83 rfl ?_
        refine r_ldiv iX7_first_85 (gne) ?_
        rw [pk_lDiv (by omega) hg0 (by omega)]
        refine r_lret iX7_first_86 rfl ?_
        exact ⟨by rw [frac, if_pos g], rfl, ez⟩
      · refine r_iload iX7_first_65 rfl ?_
        refine r_if_eq iX7_first_66 (fun g9 => absurd g9 (g)) (fun _ => ?_)
        refine r_lload iX7_first_69 rfl ?_
        refine r_lload iX7_first_71 rfl ?_
        refine r_ldiv iX7_first_73 (gne) ?_
        rw [pk_lDiv (by omega) hg0 (by omega)]
        refine r_goto iX7_first_74 ?_
        refine r_lret iX7_first_86 rfl ?_
        exact ⟨by rw [frac, if_neg g], rfl, ez⟩
    | succ j ih =>
      intro p hp z9 ez
      refine r_iload iX7_first_23 rfl ?_
      refine r_iconst (v := 1) iX7_first_25 rfl ?_
      refine r_iconst (v := 2) iX7_first_26 rfl ?_
      refine r_iload iX7_first_27 rfl ?_
      refine r_imul iX7_first_28 ?_
      refine r_ishl iX7_first_29 ?_
      rw [shl2 h4]
      refine r_icmp_ge iX7_first_30 (fun g9 => absurd g9 (nI_ge (by omega) (by omega))) (fun _ => ?_)
      refine r_lload iX7_first_33 rfl ?_
      refine r_aload iX7_first_35 rfl ?_
      refine r_iload iX7_first_36 rfl ?_
      refine r_iload iX7_first_37 rfl ?_
      refine r_iload iX7_first_38 rfl ?_
      refine r_callV iX7_first_40 (cX7_166 _ rfl) (c7_partsOf h J me h0 H hC hx h7 h1 h4 hb (code := p) (by omega) _) (by omega) (mOv_obj _ _) rfl rfl rfl (Nat.le_of_ble_eq_true rfl) (by first | exact Nat.le_of_ble_eq_true rfl | omega) (by first | exact Nat.le_of_ble_eq_true rfl | omega) ?_
      rintro v h' z8 ⟨rfl, rfl, rfl⟩
      refine r_ladd iX7_first_43 ?_
      rw [lN_add]
      refine r_lstore_5 iX7_first_44 rfl ?_
      refine r_iinc_7 iX7_first_46 (by first | exact nI_inc _ | rfl) rfl ?_
      refine r_goto iX7_first_49 ?_
      exact ih (p + 1) (by omega) z8 ez
  refine r_istore_4 iX7_first_6 rfl ?_
  refine r_iload iX7_first_8 rfl ?_
  refine r_if_eq iX7_first_10 (fun _ => ?_) (fun g9 => absurd (rfl) g9)
  refine r_lconst (v := 0) iX7_first_17 rfl ?_
  refine r_lstore_5 iX7_first_18 rfl ?_
  refine r_iconst (v := 0) iX7_first_20 rfl ?_
  refine r_istore_7 iX7_first_21 rfl ?_
  exact loop (4 ^ m) 0 (by omega) z' rfl
