/-! a thrower: nine numbers (strength, wind, tries, running, best, there, misses, how, here); the class's Thrower -/
def thr (k : Nat → Int32) : aC := .inr (4, [.int (k 0), .int (k 1), .int (k 2), .int (k 3), .int (k 4), .int (k 5), .int (k 6), .int (k 7), .int (k 8)])
def kStart (s w : Int32) : Nat → Int32 := fun j => match j with
  | 0 => s
  | 1 => w
  | 4 => -9
  | 5 => -9
  | _ => 0
/-- a method that answers and changes nothing; one that changes the heap -/
def Fn (M : MD) (d : Nat) (A : List Value) (h : Hp) (r : Option Value) : Prop := ∀ z, Cal M d 0 0 A h z (fun v h' z' => v = r ∧ h' = h ∧ z' = z)
def Pr (M : MD) (d : Nat) (A : List Value) (h : Hp) (r : Option Value) (h1 : Hp) : Prop := ∀ z, Cal M d 0 0 A h z (fun v h' z' => v = r ∧ h' = h1 ∧ z' = z)
theorem Pr_at {M : MD} {d : Nat} {A : List Value} {h h1 : Hp} {r : Option Value} {a : Nat} {e : aC} (hk : h a = some e) (H : Pr M d A (hset h a e) r h1) : Pr M d A h r h1 := by rw [hset_self hk] at H; exact H
theorem c5_start (h : Hp) {a : Nat} (k : Nat → Int32) (ha : 2 ≤ a) (s w : Int32) : Pr MX5_start 0 [.ref a, .int s, .int w] (hset h a (thr k)) none (hset h a (thr (kStart s w))) := by
  intro z
  refine Cal_of_R (by decide +kernel) (L := [.ref a, .int s, .int w]) rfl (Nat.le_of_ble_eq_true rfl) ?_
  refine r_aload iX5_start_0 rfl ?_
  refine r_iload iX5_start_1 rfl ?_
  refine r_putO iX5_start_2 (fpX5_15 _ rfl) ha (Nat.le_of_ble_eq_true rfl) ⟨rfl, rfl⟩ ?_
  refine r_aload iX5_start_5 rfl ?_
  refine r_iload iX5_start_6 rfl ?_
  refine r_putO iX5_start_7 (fpX5_19 _ rfl) ha (Nat.le_of_ble_eq_true rfl) ⟨rfl, rfl⟩ ?_
  refine r_aload iX5_start_10 rfl ?_
  refine r_iconst (v := 0) iX5_start_11 rfl ?_
  refine r_putO iX5_start_12 (fpX5_22 _ rfl) ha (Nat.le_of_ble_eq_true rfl) ⟨rfl, rfl⟩ ?_
  refine r_aload iX5_start_15 rfl ?_
  refine r_iconst (v := 0) iX5_start_16 rfl ?_
  refine r_putO iX5_start_17 (fpX5_25 _ rfl) ha (Nat.le_of_ble_eq_true rfl) ⟨rfl, rfl⟩ ?_
  refine r_aload iX5_start_20 rfl ?_
  refine r_bipush (v := (-9)) iX5_start_21 rfl ?_
  refine r_putO iX5_start_23 (fpX5_28 _ rfl) ha (Nat.le_of_ble_eq_true rfl) ⟨rfl, rfl⟩ ?_
  refine r_aload iX5_start_26 rfl ?_
  refine r_bipush (v := (-9)) iX5_start_27 rfl ?_
  refine r_putO iX5_start_29 (fpX5_31 _ rfl) ha (Nat.le_of_ble_eq_true rfl) ⟨rfl, rfl⟩ ?_
  refine r_aload iX5_start_32 rfl ?_
  refine r_iconst (v := 0) iX5_start_33 rfl ?_
  refine r_putO iX5_start_34 (fpX5_34 _ rfl) ha (Nat.le_of_ble_eq_true rfl) ⟨rfl, rfl⟩ ?_
  refine r_aload iX5_start_37 rfl ?_
  refine r_iconst (v := 0) iX5_start_38 rfl ?_
  refine r_putO iX5_start_39 (fpX5_37 _ rfl) ha (Nat.le_of_ble_eq_true rfl) ⟨rfl, rfl⟩ ?_
  refine r_aload iX5_start_42 rfl ?_
  refine r_iconst (v := 0) iX5_start_43 rfl ?_
  refine r_putO iX5_start_44 (fpX5_40 _ rfl) ha (Nat.le_of_ble_eq_true rfl) ⟨rfl, rfl⟩ ?_
  refine r_vret iX5_start_47 rfl ?_
  exact ⟨rfl, rfl, rfl⟩
theorem c5_isOut (h : Hp) {a : Nat} (k : Nat → Int32) (hk : h a = some (thr k)) : Fn MX5_isOut 0 [.ref a] h (some (.int (if k 7 = 3 then 1 else 0))) := by
  intro z
  refine Cal_of_R (by decide +kernel) (L := [.ref a]) rfl (Nat.le_of_ble_eq_true rfl) ?_
  refine r_aload iX5_isOut_0 rfl ?_
  refine r_getfield iX5_isOut_1 (flX5_37 _ rfl) (hk) rfl ?_
  refine r_iconst (v := 3) iX5_isOut_4 rfl ?_
  refine r_icmp_ne iX5_isOut_5 (fun g => ?_) (fun g => ?_)
  · refine r_iconst (v := 0) iX5_isOut_12 rfl ?_
    refine r_zret iX5_isOut_13 rfl (Or.inl rfl) ?_
    rw [if_neg g]; exact ⟨rfl, rfl, rfl⟩
  · refine r_iconst (v := 1) iX5_isOut_8 rfl ?_
    refine r_goto iX5_isOut_9 ?_
    refine r_zret iX5_isOut_13 rfl (Or.inr rfl) ?_
    rw [if_pos (by simpa using g)]; exact ⟨rfl, rfl, rfl⟩
theorem c5_mayTry (h : Hp) {a : Nat} (k : Nat → Int32) (hk : h a = some (thr k)) : Fn MX5_mayTry 0 [.ref a] h (some (.int (if k 7 = 0 then 1 else 0))) := by
  intro z
  refine Cal_of_R (by decide +kernel) (L := [.ref a]) rfl (Nat.le_of_ble_eq_true rfl) ?_
  refine r_aload iX5_mayTry_0 rfl ?_
  refine r_getfield iX5_mayTry_1 (flX5_37 _ rfl) (hk) rfl ?_
  refine r_if_ne iX5_mayTry_4 (fun g => ?_) (fun g => ?_)
  · refine r_iconst (v := 0) iX5_mayTry_11 rfl ?_
    refine r_zret iX5_mayTry_12 rfl (Or.inl rfl) ?_
    rw [if_neg g]; exact ⟨rfl, rfl, rfl⟩
  · refine r_iconst (v := 1) iX5_mayTry_7 rfl ?_
    refine r_goto iX5_mayTry_8 ?_
    refine r_zret iX5_mayTry_12 rfl (Or.inr rfl) ?_
    rw [if_pos (by simpa using g)]; exact ⟨rfl, rfl, rfl⟩
theorem c5_copyFrom (h : Hp) {a b : Nat} (k k2 : Nat → Int32) (ha : 2 ≤ a) (hb : h b = some (thr k2)) (hab : b ≠ a) : Pr MX5_copyFrom 0 [.ref a, .ref b] (hset h a (thr k)) none (hset h a (thr k2)) := by
  intro z
  have hb2 : ∀ e : aC, hset h a e b = some (thr k2) := fun e => by rw [hset_ne h e hab]; exact hb
  refine Cal_of_R (by decide +kernel) (L := [.ref a, .ref b]) rfl (Nat.le_of_ble_eq_true rfl) ?_
  refine r_aload iX5_copyFrom_0 rfl ?_
  refine r_aload iX5_copyFrom_1 rfl ?_
  refine r_getfield iX5_copyFrom_2 (flX5_15 _ rfl) (hb2 _) rfl ?_
  refine r_putO iX5_copyFrom_5 (fpX5_15 _ rfl) ha (Nat.le_of_ble_eq_true rfl) ⟨rfl, rfl⟩ ?_
  refine r_aload iX5_copyFrom_8 rfl ?_
  refine r_aload iX5_copyFrom_9 rfl ?_
  refine r_getfield iX5_copyFrom_10 (flX5_19 _ rfl) (hb2 _) rfl ?_
  refine r_putO iX5_copyFrom_13 (fpX5_19 _ rfl) ha (Nat.le_of_ble_eq_true rfl) ⟨rfl, rfl⟩ ?_
  refine r_aload iX5_copyFrom_16 rfl ?_
  refine r_aload iX5_copyFrom_17 rfl ?_
  refine r_getfield iX5_copyFrom_18 (flX5_22 _ rfl) (hb2 _) rfl ?_
  refine r_putO iX5_copyFrom_21 (fpX5_22 _ rfl) ha (Nat.le_of_ble_eq_true rfl) ⟨rfl, rfl⟩ ?_
  refine r_aload iX5_copyFrom_24 rfl ?_
  refine r_aload iX5_copyFrom_25 rfl ?_
  refine r_getfield iX5_copyFrom_26 (flX5_25 _ rfl) (hb2 _) rfl ?_
  refine r_putO iX5_copyFrom_29 (fpX5_25 _ rfl) ha (Nat.le_of_ble_eq_true rfl) ⟨rfl, rfl⟩ ?_
  refine r_aload iX5_copyFrom_32 rfl ?_
  refine r_aload iX5_copyFrom_33 rfl ?_
  refine r_getfield iX5_copyFrom_34 (flX5_28 _ rfl) (hb2 _) rfl ?_
  refine r_putO iX5_copyFrom_37 (fpX5_28 _ rfl) ha (Nat.le_of_ble_eq_true rfl) ⟨rfl, rfl⟩ ?_
  refine r_aload iX5_copyFrom_40 rfl ?_
  refine r_aload iX5_copyFrom_41 rfl ?_
  refine r_getfield iX5_copyFrom_42 (flX5_31 _ rfl) (hb2 _) rfl ?_
  refine r_putO iX5_copyFrom_45 (fpX5_31 _ rfl) ha (Nat.le_of_ble_eq_true rfl) ⟨rfl, rfl⟩ ?_
  refine r_aload iX5_copyFrom_48 rfl ?_
  refine r_aload iX5_copyFrom_49 rfl ?_
  refine r_getfield iX5_copyFrom_50 (flX5_34 _ rfl) (hb2 _) rfl ?_
  refine r_putO iX5_copyFrom_53 (fpX5_34 _ rfl) ha (Nat.le_of_ble_eq_true rfl) ⟨rfl, rfl⟩ ?_
  refine r_aload iX5_copyFrom_56 rfl ?_
  refine r_aload iX5_copyFrom_57 rfl ?_
  refine r_getfield iX5_copyFrom_58 (flX5_37 _ rfl) (hb2 _) rfl ?_
  refine r_putO iX5_copyFrom_61 (fpX5_37 _ rfl) ha (Nat.le_of_ble_eq_true rfl) ⟨rfl, rfl⟩ ?_
  refine r_aload iX5_copyFrom_64 rfl ?_
  refine r_aload iX5_copyFrom_65 rfl ?_
  refine r_getfield iX5_copyFrom_66 (flX5_40 _ rfl) (hb2 _) rfl ?_
  refine r_putO iX5_copyFrom_69 (fpX5_40 _ rfl) ha (Nat.le_of_ble_eq_true rfl) ⟨rfl, rfl⟩ ?_
  refine r_vret iX5_copyFrom_72 rfl ?_
  exact ⟨rfl, rfl, rfl⟩
/-- a try that is over, one that isn't -/
def kOver (k : Nat → Int32) (height : Int32) : Nat → Int32 := fun j => match j with
  | 2 => k 2 + 1
  | 3 => 0
  | 4 => height
  | 5 => k 8
  | 7 => 1
  | j => k j
def kMiss (k : Nat → Int32) : Nat → Int32 := fun j => match j with
  | 2 => k 2 + 1
  | 3 => k 3 + 1
  | 6 => k 6 + 1
  | 7 => if k 3 + 1 < 3 then k 7 else 3
  | 8 => k 8 + 1
  | j => k j
def kRest (k : Nat → Int32) : Nat → Int32 := fun j => match j with
  | 7 => 2
  | j => k j
def kUp (k : Nat → Int32) : Nat → Int32 := fun j => match j with
  | 7 => if k 7 = 3 then 3 else 0
  | 8 => 0
  | j => k j
theorem c5_over (h : Hp) {a : Nat} (k : Nat → Int32) (ha : 2 ≤ a) (x height : Int32) (hx : ¬ x = 0) : Pr MX5_attempt 0 [.ref a, .int x, .int height] (hset h a (thr k)) none (hset h a (thr (kOver k height))) := by
  intro z
  refine Cal_of_R (by decide +kernel) (L := [.ref a, .int x, .int height]) rfl (Nat.le_of_ble_eq_true rfl) ?_
  refine r_aload iX5_attempt_0 rfl ?_
  refine r_dup iX5_attempt_1 rfl ?_
  refine r_getfield iX5_attempt_2 (flX5_22 _ rfl) (hset_eq _ _ _) rfl ?_
  refine r_iconst (v := 1) iX5_attempt_5 rfl ?_
  refine r_iadd iX5_attempt_6 ?_
  refine r_putO iX5_attempt_7 (fpX5_22 _ rfl) ha (Nat.le_of_ble_eq_true rfl) ⟨rfl, rfl⟩ ?_
  refine r_iload iX5_attempt_10 rfl ?_
  refine r_if_eq iX5_attempt_11 (fun g9 => absurd g9 (hx)) (fun _ => ?_)
  refine r_aload iX5_attempt_14 rfl ?_
  refine r_iload iX5_attempt_15 rfl ?_
  refine r_putO iX5_attempt_16 (fpX5_28 _ rfl) ha (Nat.le_of_ble_eq_true rfl) ⟨rfl, rfl⟩ ?_
  refine r_aload iX5_attempt_19 rfl ?_
  refine r_aload iX5_attempt_20 rfl ?_
  refine r_getfield iX5_attempt_21 (flX5_40 _ rfl) (hset_eq _ _ _) rfl ?_
  refine r_putO iX5_attempt_24 (fpX5_31 _ rfl) ha (Nat.le_of_ble_eq_true rfl) ⟨rfl, rfl⟩ ?_
  refine r_aload iX5_attempt_27 rfl ?_
  refine r_iconst (v := 0) iX5_attempt_28 rfl ?_
  refine r_putO iX5_attempt_29 (fpX5_25 _ rfl) ha (Nat.le_of_ble_eq_true rfl) ⟨rfl, rfl⟩ ?_
  refine r_aload iX5_attempt_32 rfl ?_
  refine r_iconst (v := 1) iX5_attempt_33 rfl ?_
  refine r_putO iX5_attempt_34 (fpX5_37 _ rfl) ha (Nat.le_of_ble_eq_true rfl) ⟨rfl, rfl⟩ ?_
  refine r_vret iX5_attempt_37 rfl ?_
  exact ⟨rfl, rfl, rfl⟩
theorem c5_miss (h : Hp) {a : Nat} (k : Nat → Int32) (ha : 2 ≤ a) (height : Int32) : Pr MX5_attempt 0 [.ref a, .int 0, .int height] (hset h a (thr k)) none (hset h a (thr (kMiss k))) := by
  intro z
  refine Cal_of_R (by decide +kernel) (L := [.ref a, .int 0, .int height]) rfl (Nat.le_of_ble_eq_true rfl) ?_
  refine r_aload iX5_attempt_0 rfl ?_
  refine r_dup iX5_attempt_1 rfl ?_
  refine r_getfield iX5_attempt_2 (flX5_22 _ rfl) (hset_eq _ _ _) rfl ?_
  refine r_iconst (v := 1) iX5_attempt_5 rfl ?_
  refine r_iadd iX5_attempt_6 ?_
  refine r_putO iX5_attempt_7 (fpX5_22 _ rfl) ha (Nat.le_of_ble_eq_true rfl) ⟨rfl, rfl⟩ ?_
  refine r_iload iX5_attempt_10 rfl ?_
  refine r_if_eq iX5_attempt_11 (fun _ => ?_) (fun g9 => absurd (rfl) g9)
  refine r_aload iX5_attempt_38 rfl ?_
  refine r_dup iX5_attempt_39 rfl ?_
  refine r_getfield iX5_attempt_40 (flX5_40 _ rfl) (hset_eq _ _ _) rfl ?_
  refine r_iconst (v := 1) iX5_attempt_43 rfl ?_
  refine r_iadd iX5_attempt_44 ?_
  refine r_putO iX5_attempt_45 (fpX5_40 _ rfl) ha (Nat.le_of_ble_eq_true rfl) ⟨rfl, rfl⟩ ?_
  refine r_aload iX5_attempt_48 rfl ?_
  refine r_dup iX5_attempt_49 rfl ?_
  refine r_getfield iX5_attempt_50 (flX5_34 _ rfl) (hset_eq _ _ _) rfl ?_
  refine r_iconst (v := 1) iX5_attempt_53 rfl ?_
  refine r_iadd iX5_attempt_54 ?_
  refine r_putO iX5_attempt_55 (fpX5_34 _ rfl) ha (Nat.le_of_ble_eq_true rfl) ⟨rfl, rfl⟩ ?_
  refine r_aload iX5_attempt_58 rfl ?_
  refine r_dup iX5_attempt_59 rfl ?_
  refine r_getfield iX5_attempt_60 (flX5_25 _ rfl) (hset_eq _ _ _) rfl ?_
  refine r_iconst (v := 1) iX5_attempt_63 rfl ?_
  refine r_iadd iX5_attempt_64 ?_
  refine r_putO iX5_attempt_65 (fpX5_25 _ rfl) ha (Nat.le_of_ble_eq_true rfl) ⟨rfl, rfl⟩ ?_
  refine r_aload iX5_attempt_68 rfl ?_
  refine r_getfield iX5_attempt_69 (flX5_25 _ rfl) (hset_eq _ _ _) rfl ?_
  refine r_iconst (v := 3) iX5_attempt_72 rfl ?_
  refine r_icmp_lt iX5_attempt_73 (fun g => ?_) (fun g => ?_)
  · refine r_vret iX5_attempt_81 rfl ?_
    refine ⟨rfl, ?_, rfl⟩
    show hset h a _ = hset h a (.inr (4, _))
    congr 4
    simp only [kMiss, List.set]
    rw [if_pos g]
  · refine r_aload iX5_attempt_76 rfl ?_
    refine r_iconst (v := 3) iX5_attempt_77 rfl ?_
    refine r_putO iX5_attempt_78 (fpX5_37 _ rfl) ha (Nat.le_of_ble_eq_true rfl) ⟨rfl, rfl⟩ ?_
    refine r_vret iX5_attempt_81 rfl ?_
    refine ⟨rfl, ?_, rfl⟩
    show hset h a _ = hset h a (.inr (4, _))
    congr 4
    simp only [kMiss, List.set]
    rw [if_neg g]
theorem c5_rest (h : Hp) {a : Nat} (k : Nat → Int32) (ha : 2 ≤ a) : Pr MX5_rest 0 [.ref a] (hset h a (thr k)) none (hset h a (thr (kRest k))) := by
  intro z
  refine Cal_of_R (by decide +kernel) (L := [.ref a]) rfl (Nat.le_of_ble_eq_true rfl) ?_
  refine r_aload iX5_rest_0 rfl ?_
  refine r_iconst (v := 2) iX5_rest_1 rfl ?_
  refine r_putO iX5_rest_2 (fpX5_37 _ rfl) ha (Nat.le_of_ble_eq_true rfl) ⟨rfl, rfl⟩ ?_
  refine r_vret iX5_rest_5 rfl ?_
  exact ⟨rfl, rfl, rfl⟩
theorem c5_up (h : Hp) {a : Nat} (k : Nat → Int32) (ha : 2 ≤ a) : Pr MX5_startHeight 0 [.ref a] (hset h a (thr k)) none (hset h a (thr (kUp k))) := by
  intro z
  refine Cal_of_R (by decide +kernel) (L := [.ref a]) rfl (Nat.le_of_ble_eq_true rfl) ?_
  refine r_aload iX5_startHeight_0 rfl ?_
  refine r_iconst (v := 0) iX5_startHeight_1 rfl ?_
  refine r_putO iX5_startHeight_2 (fpX5_40 _ rfl) ha (Nat.le_of_ble_eq_true rfl) ⟨rfl, rfl⟩ ?_
  refine r_aload iX5_startHeight_5 rfl ?_
  refine r_getfield iX5_startHeight_6 (flX5_37 _ rfl) (hset_eq _ _ _) rfl ?_
  refine r_iconst (v := 3) iX5_startHeight_9 rfl ?_
  refine r_icmp_eq iX5_startHeight_10 (fun g => ?_) (fun g => ?_)
  · refine r_vret iX5_startHeight_18 rfl ?_
    refine ⟨rfl, ?_, rfl⟩
    show hset h a _ = hset h a (.inr (4, _))
    congr 4
    simp only [kUp, List.set]
    rw [if_pos g, g]
  · refine r_aload iX5_startHeight_13 rfl ?_
    refine r_iconst (v := 0) iX5_startHeight_14 rfl ?_
    refine r_putO iX5_startHeight_15 (fpX5_37 _ rfl) ha (Nat.le_of_ble_eq_true rfl) ⟨rfl, rfl⟩ ?_
    refine r_vret iX5_startHeight_18 rfl ?_
    refine ⟨rfl, ?_, rfl⟩
    show hset h a _ = hset h a (.inr (4, _))
    congr 4
    simp only [kUp, List.set]
    rw [if_neg g]
/-- odds of a thrower at a height, behind more tries -/
def kTired (k : Nat → Int32) (more : Int32) : Int32 := if 0 < k 1 then (k 2 + more) / k 1 else 0
def kOdds (k : Nat → Int32) (height more : Int32) : Int32 := imax 0 (imin 9 (9 + k 0 - height - kTired k more))
theorem c5_oddsAt (h : Hp) {a : Nat} (k : Nat → Int32) (hk : h a = some (thr k)) (height more : Int32) : Fn MX5_oddsAt 1 [.ref a, .int height, .int more] h (some (.int (kOdds k height more))) := by
  intro z
  refine Cal_of_R (by decide +kernel) (L := [.ref a, .int height, .int more, .null, .null]) rfl (Nat.le_of_ble_eq_true rfl) ?_
  have tail : ∀ t : Int32, t = kTired k more → R MX5_oddsAt 1 0 0 (fun v h' z' => v = some (.int (kOdds k height more)) ∧ h' = h ∧ z' = z) 22 [.ref a, .int height, .int more, .null, .null] [.int t] h z 0 0 := by
    intro t ht
    refine r_istore_3 iX5_oddsAt_22 rfl ?_
    refine r_bipush (v := 9) iX5_oddsAt_23 rfl ?_
    refine r_aload iX5_oddsAt_25 rfl ?_
    refine r_getfield iX5_oddsAt_26 (flX5_15 _ rfl) hk rfl ?_
    refine r_iadd iX5_oddsAt_29 ?_
    refine r_iload iX5_oddsAt_30 rfl ?_
    refine r_isub iX5_oddsAt_31 ?_
    refine r_iload iX5_oddsAt_32 rfl ?_
    refine r_isub iX5_oddsAt_33 ?_
    refine r_istore_4 iX5_oddsAt_34 rfl ?_
    refine r_iconst (v := 0) iX5_oddsAt_36 rfl ?_
    refine r_bipush (v := 9) iX5_oddsAt_37 rfl ?_
    refine r_iload iX5_oddsAt_39 rfl ?_
    refine r_mmin iX5_oddsAt_41 (cX5_43 _ rfl) (by omega) (Nat.le_of_ble_eq_true rfl) ?_
    refine r_mmax iX5_oddsAt_44 (cX5_49 _ rfl) (by omega) (Nat.le_of_ble_eq_true rfl) ?_
    refine r_iret iX5_oddsAt_47 rfl ?_
    refine ⟨?_, rfl, rfl⟩
    rw [ht]; rfl
  refine r_aload iX5_oddsAt_0 rfl ?_
  refine r_getfield iX5_oddsAt_1 (flX5_19 _ rfl) hk rfl ?_
  refine r_if_le iX5_oddsAt_4 (fun g => ?_) (fun g => ?_)
  · refine r_iconst (v := 0) iX5_oddsAt_21 rfl ?_
    exact tail 0 (by rw [kTired, if_neg (Int32.not_lt.mpr g)])
  · refine r_aload iX5_oddsAt_7 rfl ?_
    refine r_getfield iX5_oddsAt_8 (flX5_22 _ rfl) hk rfl ?_
    refine r_iload iX5_oddsAt_11 rfl ?_
    refine r_iadd iX5_oddsAt_12 ?_
    refine r_aload iX5_oddsAt_13 rfl ?_
    refine r_getfield iX5_oddsAt_14 (flX5_19 _ rfl) hk rfl ?_
    refine r_idiv iX5_oddsAt_17 (fun q => g (by simp [q])) ?_
    refine r_goto iX5_oddsAt_18 ?_
    exact tail _ (by rw [kTired, if_pos (Int32.not_le.mp g)])
def kBetter (k k2 : Nat → Int32) : Bool := if k 4 = k2 4 then (if k 5 = k2 5 then decide (k 6 < k2 6) else decide (k 5 < k2 5)) else decide (k2 4 < k 4)
def b2i (b : Bool) : Int32 := if b then 1 else 0
theorem b2i_01 (b : Bool) : b2i b = 0 ∨ b2i b = 1 := by cases b <;> simp [b2i]
theorem c5_isBetterThan (h : Hp) {a b : Nat} (k k2 : Nat → Int32) (hk : h a = some (thr k)) (hb : h b = some (thr k2)) : Fn MX5_isBetterThan 0 [.ref a, .ref b] h (some (.int (b2i (kBetter k k2)))) := by
  intro z
  refine Cal_of_R (by decide +kernel) (L := [.ref a, .ref b]) rfl (Nat.le_of_ble_eq_true rfl) ?_
  refine r_aload iX5_isBetterThan_0 rfl ?_
  refine r_getfield iX5_isBetterThan_1 (flX5_28 _ rfl) hk rfl ?_
  refine r_aload iX5_isBetterThan_4 rfl ?_
  refine r_getfield iX5_isBetterThan_5 (flX5_28 _ rfl) (hb) rfl ?_
  refine r_icmp_eq iX5_isBetterThan_8 (fun g1 => ?_) (fun g1 => ?_)
  · refine r_aload iX5_isBetterThan_28 rfl ?_
    refine r_getfield iX5_isBetterThan_29 (flX5_31 _ rfl) hk rfl ?_
    refine r_aload iX5_isBetterThan_32 rfl ?_
    refine r_getfield iX5_isBetterThan_33 (flX5_31 _ rfl) (hb) rfl ?_
    refine r_icmp_eq iX5_isBetterThan_36 (fun g2 => ?_) (fun g2 => ?_)
    · refine r_aload iX5_isBetterThan_56 rfl ?_
      refine r_getfield iX5_isBetterThan_57 (flX5_34 _ rfl) hk rfl ?_
      refine r_aload iX5_isBetterThan_60 rfl ?_
      refine r_getfield iX5_isBetterThan_61 (flX5_34 _ rfl) (hb) rfl ?_
      refine r_icmp_ge iX5_isBetterThan_64 (fun g3 => ?_) (fun g3 => ?_)
      · refine r_iconst (v := 0) iX5_isBetterThan_71 rfl ?_
        refine r_zret iX5_isBetterThan_72 rfl (Or.inl rfl) ?_
        refine ⟨?_, rfl, rfl⟩
        rw [kBetter, if_pos g1, if_pos g2, decide_eq_false (Int32.not_lt.mpr g3)]; rfl
      · refine r_iconst (v := 1) iX5_isBetterThan_67 rfl ?_
        refine r_goto iX5_isBetterThan_68 ?_
        refine r_zret iX5_isBetterThan_72 rfl (Or.inr rfl) ?_
        refine ⟨?_, rfl, rfl⟩
        rw [kBetter, if_pos g1, if_pos g2, decide_eq_true (Int32.not_le.mp g3)]; rfl
    · refine r_aload iX5_isBetterThan_39 rfl ?_
      refine r_getfield iX5_isBetterThan_40 (flX5_31 _ rfl) hk rfl ?_
      refine r_aload iX5_isBetterThan_43 rfl ?_
      refine r_getfield iX5_isBetterThan_44 (flX5_31 _ rfl) (hb) rfl ?_
      refine r_icmp_ge iX5_isBetterThan_47 (fun g3 => ?_) (fun g3 => ?_)
      · refine r_iconst (v := 0) iX5_isBetterThan_54 rfl ?_
        refine r_zret iX5_isBetterThan_55 rfl (Or.inl rfl) ?_
        refine ⟨?_, rfl, rfl⟩
        rw [kBetter, if_pos g1, if_neg g2, decide_eq_false (Int32.not_lt.mpr g3)]; rfl
      · refine r_iconst (v := 1) iX5_isBetterThan_50 rfl ?_
        refine r_goto iX5_isBetterThan_51 ?_
        refine r_zret iX5_isBetterThan_55 rfl (Or.inr rfl) ?_
        refine ⟨?_, rfl, rfl⟩
        rw [kBetter, if_pos g1, if_neg g2, decide_eq_true (Int32.not_le.mp g3)]; rfl
  · refine r_aload iX5_isBetterThan_11 rfl ?_
    refine r_getfield iX5_isBetterThan_12 (flX5_28 _ rfl) hk rfl ?_
    refine r_aload iX5_isBetterThan_15 rfl ?_
    refine r_getfield iX5_isBetterThan_16 (flX5_28 _ rfl) (hb) rfl ?_
    refine r_icmp_le iX5_isBetterThan_19 (fun g3 => ?_) (fun g3 => ?_)
    · refine r_iconst (v := 0) iX5_isBetterThan_26 rfl ?_
      refine r_zret iX5_isBetterThan_27 rfl (Or.inl rfl) ?_
      refine ⟨?_, rfl, rfl⟩
      rw [kBetter, if_neg g1, decide_eq_false (Int32.not_lt.mpr g3)]; rfl
    · refine r_iconst (v := 1) iX5_isBetterThan_22 rfl ?_
      refine r_goto iX5_isBetterThan_23 ?_
      refine r_zret iX5_isBetterThan_27 rfl (Or.inr rfl) ?_
      refine ⟨?_, rfl, rfl⟩
      rw [kBetter, if_neg g1, decide_eq_true (Int32.not_le.mp g3)]; rfl
theorem c5_init (h : Hp) {a : Nat} (k : Nat → Int32) (ha : 2 ≤ a) : Pr MX5_init 1 [.ref a] (hset h a (thr k)) none (hset h a (thr (kStart 0 1))) := by
  intro z
  refine Cal_of_R (by decide +kernel) (L := [.ref a]) rfl (Nat.le_of_ble_eq_true rfl) ?_
  refine r_aload iX5_init_0 rfl ?_
  refine r_objinit iX5_init_1 objw_X5 (by decide) (Nat.le_of_ble_eq_true rfl) ?_
  refine r_aload iX5_init_4 rfl ?_
  refine r_iconst (v := 0) iX5_init_5 rfl ?_
  refine r_iconst (v := 1) iX5_init_6 rfl ?_
  refine r_callV iX5_init_7 (cX5_9 _ rfl) (c5_start h k ha _ _ z) (by omega) (hset_eq _ _ _) rfl rfl rfl (Nat.le_of_ble_eq_true rfl) (by first | exact Nat.le_of_ble_eq_true rfl | omega) (by first | exact Nat.le_of_ble_eq_true rfl | omega) ?_
  rintro v h' z' ⟨rfl, rfl, rfl⟩
  refine r_vret iX5_init_10 rfl ?_
  exact ⟨rfl, rfl, rfl⟩
theorem c5_told (h : Hp) {a : Nat} (k : Nat → Int32) (hk : h a = some (thr k)) (w : Nat) (hw : w < 9) : Fn MX5_told 0 [.ref a, .int (nI w)] h (some (.int (k w))) := by
  intro z
  refine Cal_of_R (by decide +kernel) (L := [.ref a, .int (nI w)]) rfl (Nat.le_of_ble_eq_true rfl) ?_
  match w, hw with
  | 0, _ =>
    refine r_iload iX5_told_0 rfl ?_
    refine r_tabIn (tgt := 48) iX5_told_1 (by decide) (by decide) rfl rfl ?_
    refine r_aload iX5_told_48 rfl ?_
    refine r_getfield iX5_told_49 (flX5_15 _ rfl) hk rfl ?_
    refine r_iret iX5_told_52 rfl ?_
    exact ⟨rfl, rfl, rfl⟩
  | 1, _ =>
    refine r_iload iX5_told_0 rfl ?_
    refine r_tabIn (tgt := 53) iX5_told_1 (by decide) (by decide) rfl rfl ?_
    refine r_aload iX5_told_53 rfl ?_
    refine r_getfield iX5_told_54 (flX5_19 _ rfl) hk rfl ?_
    refine r_iret iX5_told_57 rfl ?_
    exact ⟨rfl, rfl, rfl⟩
  | 2, _ =>
    refine r_iload iX5_told_0 rfl ?_
    refine r_tabIn (tgt := 58) iX5_told_1 (by decide) (by decide) rfl rfl ?_
    refine r_aload iX5_told_58 rfl ?_
    refine r_getfield iX5_told_59 (flX5_22 _ rfl) hk rfl ?_
    refine r_iret iX5_told_62 rfl ?_
    exact ⟨rfl, rfl, rfl⟩
  | 3, _ =>
    refine r_iload iX5_told_0 rfl ?_
    refine r_tabIn (tgt := 63) iX5_told_1 (by decide) (by decide) rfl rfl ?_
    refine r_aload iX5_told_63 rfl ?_
    refine r_getfield iX5_told_64 (flX5_25 _ rfl) hk rfl ?_
    refine r_iret iX5_told_67 rfl ?_
    exact ⟨rfl, rfl, rfl⟩
  | 4, _ =>
    refine r_iload iX5_told_0 rfl ?_
    refine r_tabIn (tgt := 68) iX5_told_1 (by decide) (by decide) rfl rfl ?_
    refine r_aload iX5_told_68 rfl ?_
    refine r_getfield iX5_told_69 (flX5_28 _ rfl) hk rfl ?_
    refine r_iret iX5_told_72 rfl ?_
    exact ⟨rfl, rfl, rfl⟩
  | 5, _ =>
    refine r_iload iX5_told_0 rfl ?_
    refine r_tabIn (tgt := 73) iX5_told_1 (by decide) (by decide) rfl rfl ?_
    refine r_aload iX5_told_73 rfl ?_
    refine r_getfield iX5_told_74 (flX5_31 _ rfl) hk rfl ?_
    refine r_iret iX5_told_77 rfl ?_
    exact ⟨rfl, rfl, rfl⟩
  | 6, _ =>
    refine r_iload iX5_told_0 rfl ?_
    refine r_tabIn (tgt := 78) iX5_told_1 (by decide) (by decide) rfl rfl ?_
    refine r_aload iX5_told_78 rfl ?_
    refine r_getfield iX5_told_79 (flX5_34 _ rfl) hk rfl ?_
    refine r_iret iX5_told_82 rfl ?_
    exact ⟨rfl, rfl, rfl⟩
  | 7, _ =>
    refine r_iload iX5_told_0 rfl ?_
    refine r_tabIn (tgt := 83) iX5_told_1 (by decide) (by decide) rfl rfl ?_
    refine r_aload iX5_told_83 rfl ?_
    refine r_getfield iX5_told_84 (flX5_37 _ rfl) hk rfl ?_
    refine r_iret iX5_told_87 rfl ?_
    exact ⟨rfl, rfl, rfl⟩
  | 8, _ =>
    refine r_iload iX5_told_0 rfl ?_
    refine r_tabOut (tgt := 88) iX5_told_1 (by decide) rfl ?_
    refine r_aload iX5_told_88 rfl ?_
    refine r_getfield iX5_told_89 (flX5_40 _ rfl) hk rfl ?_
    refine r_iret iX5_told_92 rfl ?_
    exact ⟨rfl, rfl, rfl⟩
