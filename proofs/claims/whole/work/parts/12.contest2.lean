/-! what changes a contest -/
def conAt (h : Hp) (c : Nat) (K : Cn) : Prop := h c = some (.inr (1, [.ref (c + 1), .int (nI K.1), .int K.2.1, .int K.2.2.1])) ∧ h (c + 1) = some (.inl (.object "UpWithSheaf$Thrower", 4, fun j => .ref (c + 2 + j))) ∧ ∀ i, i < 4 → h (c + 2 + i) = some (thr (K.2.2.2 i))
theorem conAt.ov {h : Hp} {c : Nat} {K : Cn} (H : conAt h c K) : cOv h c K = h := cOv_self H.1 H.2.1 H.2.2
theorem conAt_cOv (h : Hp) (c : Nat) (K : Cn) : conAt (cOv h c K) c K := ⟨cOv_obj h c K, cOv_arr h c K, fun _ hi => cOv_thr h c K hi⟩
theorem conAt.out {h : Hp} {c : Nat} {K : Cn} (H : conAt h c K) {c' : Nat} (K' : Cn) (hd : c + 6 ≤ c' ∨ c' + 6 ≤ c) : conAt (cOv h c' K') c K :=
  ⟨by rw [cOv_out _ _ _ (by omega)]; exact H.1, by rw [cOv_out _ _ _ (by omega)]; exact H.2.1, fun i hi => by rw [cOv_out _ _ _ (by omega)]; exact H.2.2 i hi⟩
theorem conAt.kept {h h' : Hp} {c : Nat} {K : Cn} (H : conAt h c K) (hd : ∀ a, c ≤ a → a < c + 6 → h' a = h a) : conAt h' c K :=
  ⟨by rw [hd _ (by omega) (by omega)]; exact H.1, by rw [hd _ (by omega) (by omega)]; exact H.2.1, fun i hi => by rw [hd _ (by omega) (by omega)]; exact H.2.2 i hi⟩
/-- all up to n are made anew by g -/
def mapT (g : Nat → (Nat → Int32) → (Nat → Int32)) (t : Nat → Nat → Int32) (n : Nat) : Nat → Nat → Int32 := fun j => if j < n then g j (t j) else t j
theorem mapT_0 (g : Nat → (Nat → Int32) → (Nat → Int32)) (t : Nat → Nat → Int32) : mapT g t 0 = t := by funext j; simp [mapT]
theorem mapT_s (g : Nat → (Nat → Int32) → (Nat → Int32)) (t : Nat → Nat → Int32) (p : Nat) : upT (mapT g t p) p (g p (mapT g t p p)) = mapT g t (p + 1) := by
  funext j
  by_cases h : j = p
  · subst h; simp [upT, mapT]
  · simp only [upT, mapT, if_neg h]
    by_cases h2 : j < p
    · rw [if_pos h2, if_pos (by omega)]
    · rw [if_neg h2, if_neg (by omega)]
theorem nxt_n (n : Nat) (t : Nat → Nat → Int32) : ∀ j, nxt n t n j = nxt n t 0 j
  | 0 => rfl
  | j + 1 => by rw [nxt, nxt, nxt_n n t j, Nat.add_mod_left, Nat.zero_add]
theorem c2_copyFrom (h : Hp) (c c' : Nat) (hc : 2 ≤ c) (K : Cn) {n : Nat} (hn : n ≤ 4) (b u : Int32) (t : Nat → Nat → Int32) (hd : c + 6 ≤ c' ∨ c' + 6 ≤ c) (H : conAt h c' (n, b, u, t)) : Pr MX2_copyFrom 1 [.ref c, .ref c'] (cOv h c K) none (cOv h c (n, b, u, mapT (fun j _ => t j) K.2.2.2 n)) := by
  obtain ⟨n0, b0, u0, t0⟩ := K
  intro z
  have HH : ∀ K', conAt (cOv h c K') c' (n, b, u, t) := fun K' => H.out K' (by omega)
  refine Cal_of_R (by decide +kernel) (L := [.ref c, .ref c', .null]) rfl (Nat.le_of_ble_eq_true rfl) ?_
  have loop : ∀ (j p : Nat), p + j = n → ∀ z, R MX2_copyFrom 1 0 0 (fun v h' z' => v = none ∧ h' = cOv h c (n, b, u, mapT (fun j _ => t j) t0 n) ∧ z' = z) 26 [.ref c, .ref c', .int (nI p)] [] (cOv h c (n, b, u, mapT (fun j _ => t j) t0 p)) z 0 0 := by
    intro j
    induction j with
    | zero =>
      intro p hp z
      refine r_iload iX2_copyFrom_26 rfl ?_
      refine r_aload iX2_copyFrom_27 rfl ?_
      refine r_getfield iX2_copyFrom_28 (flX2_18 _ rfl) (cOv_obj _ _ _) rfl ?_
      refine r_icmp_ge iX2_copyFrom_31 (fun _ => ?_) (fun g9 => absurd (nI_le (by omega) (by omega)) g9)
      refine r_vret iX2_copyFrom_55 rfl ?_
      exact ⟨rfl, by rw [show p = n by omega], rfl⟩
    | succ j ih =>
      intro p hp z
      have hp4 : p < 4 := by omega
      refine r_iload iX2_copyFrom_26 rfl ?_
      refine r_aload iX2_copyFrom_27 rfl ?_
      refine r_getfield iX2_copyFrom_28 (flX2_18 _ rfl) (cOv_obj _ _ _) rfl ?_
      refine r_icmp_ge iX2_copyFrom_31 (fun g9 => absurd g9 (nI_ge (by omega) (by omega))) (fun _ => ?_)
      refine r_aload iX2_copyFrom_34 rfl ?_
      refine r_getfield iX2_copyFrom_35 (flX2_11 _ rfl) (cOv_obj _ _ _) rfl ?_
      refine r_iload iX2_copyFrom_38 rfl ?_
      refine r_aaload iX2_copyFrom_39 rfl (cOv_arr _ _ _) (in4 hp4) (thr_ix c hp4) ?_
      refine r_aload iX2_copyFrom_40 rfl ?_
      refine r_getfield iX2_copyFrom_41 (flX2_11 _ rfl) ((HH _).1) rfl ?_
      refine r_iload iX2_copyFrom_44 rfl ?_
      refine r_aaload iX2_copyFrom_45 rfl ((HH _).2.1) (in4 hp4) (thr_ix c' hp4) ?_
      refine r_callV iX2_copyFrom_46 (cX2_51 _ rfl) (Pr_at (cOv_thr _ _ _ hp4) (c5_copyFrom _ _ (t p) (by omega) ((HH _).2.2 p hp4) (by omega)) _) (by omega) (cOv_thr _ _ _ hp4) rfl rfl rfl (Nat.le_of_ble_eq_true rfl) (by first | exact Nat.le_of_ble_eq_true rfl | omega) (by first | exact Nat.le_of_ble_eq_true rfl | omega) ?_
      rintro v h' z' ⟨rfl, rfl, rfl⟩
      rw [cOv_setT _ _ _ _ _ _ hp4]
      have e := mapT_s (fun j _ => t j) t0 p
      try dsimp only at e
      rw [e]
      refine r_iinc_2 iX2_copyFrom_49 (by first | exact nI_inc _ | rfl) rfl ?_
      refine r_goto iX2_copyFrom_52 ?_
      exact ih (p + 1) (by omega) z'
  refine r_aload iX2_copyFrom_0 rfl ?_
  refine r_aload iX2_copyFrom_1 rfl ?_
  refine r_getfield iX2_copyFrom_2 (flX2_18 _ rfl) ((HH _).1) rfl ?_
  refine r_csize iX2_copyFrom_5 (fpX2_18 _ rfl) hc ?_
  refine r_aload iX2_copyFrom_8 rfl ?_
  refine r_aload iX2_copyFrom_9 rfl ?_
  refine r_getfield iX2_copyFrom_10 (flX2_22 _ rfl) ((HH _).1) rfl ?_
  refine r_cbar iX2_copyFrom_13 (fpX2_22 _ rfl) hc ?_
  refine r_aload iX2_copyFrom_16 rfl ?_
  refine r_aload iX2_copyFrom_17 rfl ?_
  refine r_getfield iX2_copyFrom_18 (flX2_25 _ rfl) ((HH _).1) rfl ?_
  refine r_cturn iX2_copyFrom_21 (fpX2_25 _ rfl) hc ?_
  refine r_iconst (v := 0) iX2_copyFrom_24 rfl ?_
  refine r_istore_2 iX2_copyFrom_25 rfl ?_
  have e := loop n 0 (by omega) z
  rw [mapT_0] at e
  exact e
def upAll (t : Nat → Nat → Int32) (n : Nat) : Nat → Nat → Int32 := mapT (fun _ k => kUp k) t n
theorem c2_raise (h : Hp) (c : Nat) (hc : 2 ≤ c) {n : Nat} (hn : n ≤ 4) (b u : Int32) (t : Nat → Nat → Int32) : Pr MX2_raise 2 [.ref c] (cOv h c (n, b, u, t)) none (cOv h c (n, b + 1, nxt n (upAll t n) 0 n, upAll t n)) := by
  intro z
  refine Cal_of_R (by decide +kernel) (L := [.ref c, .null]) rfl (Nat.le_of_ble_eq_true rfl) ?_
  have loop : ∀ (j p : Nat), p + j = n → ∀ z, R MX2_raise 2 0 0 (fun v h' z' => v = none ∧ h' = cOv h c (n, b + 1, nxt n (upAll t n) 0 n, upAll t n) ∧ z' = z) 12 [.ref c, .int (nI p)] [] (cOv h c (n, b + 1, u, upAll t p)) z 0 0 := by
    intro j
    induction j with
    | zero =>
      intro p hp z
      obtain rfl : p = n := by omega
      refine r_iload iX2_raise_12 rfl ?_
      refine r_aload iX2_raise_13 rfl ?_
      refine r_getfield iX2_raise_14 (flX2_18 _ rfl) (cOv_obj _ _ _) rfl ?_
      refine r_icmp_ge iX2_raise_17 (fun _ => ?_) (fun g9 => absurd (nI_le (by omega) (by omega)) g9)
      refine r_aload iX2_raise_35 rfl ?_
      refine r_aload iX2_raise_36 rfl ?_
      refine r_aload iX2_raise_37 rfl ?_
      refine r_getfield iX2_raise_38 (flX2_18 _ rfl) (cOv_obj _ _ _) rfl ?_
      refine r_iconst (v := 1) iX2_raise_41 rfl ?_
      refine r_isub iX2_raise_42 ?_
      refine r_callV iX2_raise_43 (cX2_48 _ rfl) (c2_nextBehind h c hn _ _ (upAll t p) _ (f := p) (by simp) (Nat.le_refl _) _) (by omega) (cOv_obj _ _ _) rfl rfl rfl (Nat.le_of_ble_eq_true rfl) (by first | exact Nat.le_of_ble_eq_true rfl | omega) (by first | exact Nat.le_of_ble_eq_true rfl | omega) ?_
      rintro v h' z' ⟨rfl, rfl, rfl⟩
      refine r_cturn iX2_raise_46 (fpX2_25 _ rfl) hc ?_
      refine r_vret iX2_raise_49 rfl ?_
      exact ⟨rfl, by rw [nxt_n], rfl⟩
    | succ j ih =>
      intro p hp z
      have hp4 : p < 4 := by omega
      refine r_iload iX2_raise_12 rfl ?_
      refine r_aload iX2_raise_13 rfl ?_
      refine r_getfield iX2_raise_14 (flX2_18 _ rfl) (cOv_obj _ _ _) rfl ?_
      refine r_icmp_ge iX2_raise_17 (fun g9 => absurd g9 (nI_ge (by omega) (by omega))) (fun _ => ?_)
      refine r_aload iX2_raise_20 rfl ?_
      refine r_getfield iX2_raise_21 (flX2_11 _ rfl) (cOv_obj _ _ _) rfl ?_
      refine r_iload iX2_raise_24 rfl ?_
      refine r_aaload iX2_raise_25 rfl (cOv_arr _ _ _) (in4 hp4) (thr_ix c hp4) ?_
      refine r_callV iX2_raise_26 (cX2_72 _ rfl) (Pr_at (cOv_thr _ _ _ hp4) (c5_up _ _ (by omega)) _) (by omega) (cOv_thr _ _ _ hp4) rfl rfl rfl (Nat.le_of_ble_eq_true rfl) (by first | exact Nat.le_of_ble_eq_true rfl | omega) (by first | exact Nat.le_of_ble_eq_true rfl | omega) ?_
      rintro v h' z' ⟨rfl, rfl, rfl⟩
      rw [cOv_setT _ _ _ _ _ _ hp4]
      have e : upT (upAll t p) p (kUp (upAll t p p)) = upAll t (p + 1) := mapT_s (fun _ k => kUp k) t p
      dsimp only
      rw [e]
      refine r_iinc_1 iX2_raise_29 (by first | exact nI_inc _ | rfl) rfl ?_
      refine r_goto iX2_raise_32 ?_
      exact ih (p + 1) (by omega) z'
  refine r_aload iX2_raise_0 rfl ?_
  refine r_dup iX2_raise_1 rfl ?_
  refine r_getfield iX2_raise_2 (flX2_22 _ rfl) (cOv_obj _ _ _) rfl ?_
  refine r_iconst (v := 1) iX2_raise_5 rfl ?_
  refine r_iadd iX2_raise_6 ?_
  refine r_cbar iX2_raise_7 (fpX2_22 _ rfl) hc ?_
  refine r_iconst (v := 0) iX2_raise_10 rfl ?_
  refine r_istore_1 iX2_raise_11 rfl ?_
  have e := loop n 0 (by omega) z
  unfold upAll at e
  rw [mapT_0] at e
  exact e
/-- an act of who is on: 0 a miss, 1 over, 2 spared -/
def kAct (k : Nat → Int32) (b : Int32) (w : Nat) : Nat → Int32 := if w = 2 then kRest k else if w = 1 then kOver k b else kMiss k
/-- the contest behind i's turn -/
def goOnC (n : Nat) (b : Int32) (i : Nat) (t : Nat → Nat → Int32) : Cn := if nxt n t (i + 1) n = -9 ∧ b < 11 ∧ anyT (notOutP t) n = true then (n, b + 1, nxt n (upAll t n) 0 n, upAll t n) else (n, b, nxt n t (i + 1) n, t)
def actC (n : Nat) (b : Int32) (i : Nat) (t : Nat → Nat → Int32) (w : Nat) : Cn := goOnC n b i (upT t i (kAct (t i) b w))
theorem c2_act (h : Hp) (c : Nat) (hc : 2 ≤ c) {n i w : Nat} (hn : n ≤ 4) (hi : i < n) (hw : w < 3) (b : Int32) (t : Nat → Nat → Int32) : Pr MX2_act 3 [.ref c, .int (nI w)] (cOv h c (n, b, nI i, t)) none (cOv h c (actC n b i t w)) := by
  intro z
  have hi4 : i < 4 := by omega
  refine Cal_of_R (by decide +kernel) (L := [.ref c, .int (nI w), .null]) rfl (Nat.le_of_ble_eq_true rfl) ?_
  have tail : ∀ (t' : Nat → Nat → Int32) (w2 : Value) (z : Nat), t' = upT t i (kAct (t i) b w) → R MX2_act 3 0 0 (fun v h' z' => v = none ∧ h' = cOv h c (actC n b i t w) ∧ z' = z) 52 [.ref c, .int (nI w), w2] [] (cOv h c (n, b, nI i, t')) z 0 0 := by
    intro t' w2 z ht
    have hA : actC n b i t w = goOnC n b i t' := by rw [actC, ht]
    rw [hA]
    refine r_aload iX2_act_52 rfl ?_
    refine r_aload iX2_act_53 rfl ?_
    refine r_aload iX2_act_54 rfl ?_
    refine r_getfield iX2_act_55 (flX2_25 _ rfl) (cOv_obj _ _ _) rfl ?_
    refine r_callV iX2_act_58 (cX2_48 _ rfl) (c2_nextBehind h c hn _ _ t' _ (f := i + 1) (nI_succ i).symm (by omega) _) (by omega) (cOv_obj _ _ _) rfl rfl rfl (Nat.le_of_ble_eq_true rfl) (by first | exact Nat.le_of_ble_eq_true rfl | omega) (by first | exact Nat.le_of_ble_eq_true rfl | omega) ?_
    rintro v h' z' ⟨rfl, rfl, rfl⟩
    refine r_cturn iX2_act_61 (fpX2_25 _ rfl) hc ?_
    refine r_aload iX2_act_64 rfl ?_
    refine r_getfield iX2_act_65 (flX2_25 _ rfl) (cOv_obj _ _ _) rfl ?_
    refine r_bipush (v := (-9)) iX2_act_68 rfl ?_
    refine r_icmp_ne iX2_act_70 (fun g1 => ?_) (fun g1 => ?_)
    · refine r_vret iX2_act_93 rfl ?_
      exact ⟨rfl, by rw [goOnC, if_neg (fun q => g1 q.1)], rfl⟩
    · refine r_aload iX2_act_73 rfl ?_
      refine r_getfield iX2_act_74 (flX2_22 _ rfl) (cOv_obj _ _ _) rfl ?_
      refine r_bipush (v := 11) iX2_act_77 rfl ?_
      refine r_icmp_ge iX2_act_79 (fun g2 => ?_) (fun g2 => ?_)
      · refine r_vret iX2_act_93 rfl ?_
        exact ⟨rfl, by rw [goOnC, if_neg (fun q => Int32.not_lt.mpr g2 q.2.1)], rfl⟩
      · refine r_aload iX2_act_82 rfl ?_
        refine r_callV iX2_act_83 (cX2_66 _ rfl) (c2_notOut h c hn _ _ t' _) (by omega) (cOv_obj _ _ _) rfl rfl rfl (Nat.le_of_ble_eq_true rfl) (by first | exact Nat.le_of_ble_eq_true rfl | omega) (by first | exact Nat.le_of_ble_eq_true rfl | omega) ?_
        rintro v h' z' ⟨rfl, rfl, rfl⟩
        refine r_if_eq iX2_act_86 (fun g3 => ?_) (fun g3 => ?_)
        · refine r_vret iX2_act_93 rfl ?_
          exact ⟨rfl, by rw [goOnC, if_neg (fun q => by rw [(bits_any _ n hn).mp g3] at q; exact absurd q.2.2 (by decide))], rfl⟩
        · have g4 : anyT (notOutP t') n = true := by
            cases g5 : anyT (notOutP t') n with
            | false => exact absurd ((bits_any _ n hn).mpr g5) g3
            | true => rfl
          refine r_aload iX2_act_89 rfl ?_
          refine r_callV iX2_act_90 (cX2_69 _ rfl) (c2_raise h c hc hn b _ t' _) (by omega) (cOv_obj _ _ _) rfl rfl rfl (Nat.le_of_ble_eq_true rfl) (by first | exact Nat.le_of_ble_eq_true rfl | omega) (by first | exact Nat.le_of_ble_eq_true rfl | omega) ?_
          rintro v h' z' ⟨rfl, rfl, rfl⟩
          refine r_vret iX2_act_93 rfl ?_
          exact ⟨rfl, by rw [goOnC, if_pos ⟨g1, Int32.not_le.mp g2, g4⟩], rfl⟩
  refine r_aload iX2_act_0 rfl ?_
  refine r_aload iX2_act_1 rfl ?_
  refine r_getfield iX2_act_2 (flX2_25 _ rfl) (cOv_obj _ _ _) rfl ?_
  refine r_callV iX2_act_5 (cX2_55 _ rfl) (c2_knows h c hn b (nI i) t (nI i) _) (by omega) (cOv_obj _ _ _) rfl rfl rfl (Nat.le_of_ble_eq_true rfl) (by first | exact Nat.le_of_ble_eq_true rfl | omega) (by first | exact Nat.le_of_ble_eq_true rfl | omega) ?_
  rintro v h' z' ⟨rfl, rfl, rfl⟩
  rw [i_ks hn hi]
  refine r_if_ne iX2_act_8 (fun _ => ?_) (fun g9 => absurd g9 (by decide))
  refine r_aload iX2_act_12 rfl ?_
  refine r_getfield iX2_act_13 (flX2_11 _ rfl) (cOv_obj _ _ _) rfl ?_
  refine r_aload iX2_act_16 rfl ?_
  refine r_getfield iX2_act_17 (flX2_25 _ rfl) (cOv_obj _ _ _) rfl ?_
  refine r_aaload iX2_act_20 rfl (cOv_arr _ _ _) (in4 hi4) (thr_ix c hi4) ?_
  refine r_astore_2 iX2_act_21 rfl ?_
  refine r_iload iX2_act_22 rfl ?_
  refine r_iconst (v := 2) iX2_act_23 rfl ?_
  match w, hw with
  | 0, _ =>
    refine r_icmp_ne iX2_act_24 (fun _ => ?_) (fun g9 => absurd g9 (by decide))
    refine r_aload iX2_act_34 rfl ?_
    refine r_iload iX2_act_35 rfl ?_
    refine r_iconst (v := 1) iX2_act_36 rfl ?_
    refine r_icmp_ne iX2_act_37 (fun _ => ?_) (fun g9 => absurd g9 (by decide))
    refine r_iconst (v := 0) iX2_act_44 rfl ?_
    refine r_aload iX2_act_45 rfl ?_
    refine r_getfield iX2_act_46 (flX2_22 _ rfl) (cOv_obj _ _ _) rfl ?_
    refine r_callV iX2_act_49 (cX2_62 _ rfl) (Pr_at (cOv_thr _ _ _ hi4) (c5_miss _ _ (by omega) _) _) (by omega) (cOv_thr _ _ _ hi4) rfl rfl rfl (Nat.le_of_ble_eq_true rfl) (by first | exact Nat.le_of_ble_eq_true rfl | omega) (by first | exact Nat.le_of_ble_eq_true rfl | omega) ?_
    rintro v h' z' ⟨rfl, rfl, rfl⟩
    rw [cOv_setT _ _ _ _ _ _ hi4]
    exact tail _ _ _ rfl
  | 1, _ =>
    refine r_icmp_ne iX2_act_24 (fun _ => ?_) (fun g9 => absurd g9 (by decide))
    refine r_aload iX2_act_34 rfl ?_
    refine r_iload iX2_act_35 rfl ?_
    refine r_iconst (v := 1) iX2_act_36 rfl ?_
    refine r_icmp_ne iX2_act_37 (fun g9 => absurd (rfl) g9) (fun _ => ?_)
    refine r_iconst (v := 1) iX2_act_40 rfl ?_
    refine r_goto iX2_act_41 ?_
    refine r_aload iX2_act_45 rfl ?_
    refine r_getfield iX2_act_46 (flX2_22 _ rfl) (cOv_obj _ _ _) rfl ?_
    refine r_callV iX2_act_49 (cX2_62 _ rfl) (Pr_at (cOv_thr _ _ _ hi4) (c5_over _ _ (by omega) 1 _ (by decide)) _) (by omega) (cOv_thr _ _ _ hi4) rfl rfl rfl (Nat.le_of_ble_eq_true rfl) (by first | exact Nat.le_of_ble_eq_true rfl | omega) (by first | exact Nat.le_of_ble_eq_true rfl | omega) ?_
    rintro v h' z' ⟨rfl, rfl, rfl⟩
    rw [cOv_setT _ _ _ _ _ _ hi4]
    exact tail _ _ _ rfl
  | 2, _ =>
    refine r_icmp_ne iX2_act_24 (fun g9 => absurd (rfl) g9) (fun _ => ?_)
    refine r_aload iX2_act_27 rfl ?_
    refine r_callV iX2_act_28 (cX2_59 _ rfl) (Pr_at (cOv_thr _ _ _ hi4) (c5_rest _ _ (by omega)) _) (by omega) (cOv_thr _ _ _ hi4) rfl rfl rfl (Nat.le_of_ble_eq_true rfl) (by first | exact Nat.le_of_ble_eq_true rfl | omega) (by first | exact Nat.le_of_ble_eq_true rfl | omega) ?_
    rintro v h' z' ⟨rfl, rfl, rfl⟩
    rw [cOv_setT _ _ _ _ _ _ hi4]
    refine r_goto iX2_act_31 ?_
    exact tail _ _ _ rfl
