/-! the abstract heap: address 0 the script, 1 the table TENS, from 2 on what is made; R: the machine at an instruction, in its words; Cal: a method's contract -/
abbrev eE : Type := Nat × Nat × Nat × (Nat → ClassId) × (Nat → Nat → Nat)
def ad (E : eE) (a : Nat) : Nat := if a = 0 then E.1 else if a = 1 then E.2.1 else E.2.2.1 + (a - 2)
def sh (E : eE) (v : Value) : Value := match v with
  | .ref a => .ref (ad E a)
  | v => v
def aD (E : eE) : va_G := (E.2.2.2.1, E.2.2.2.2)
abbrev aC : Type := (FieldType × Nat × (Nat → Value)) ⊕ (Nat × List Value)
abbrev Hp : Type := Nat → Option aC
def hset (h : Hp) (a : Nat) (e : aC) : Hp := fun b => if b = a then some e else h b
theorem hset_eq (h : Hp) (a : Nat) (e : aC) : hset h a e a = some e := if_pos rfl
theorem hset_ne (h : Hp) {a b : Nat} (e : aC) (n : b ≠ a) : hset h a e b = h b := if_neg n
theorem hset_hset (h : Hp) (a : Nat) (e e' : aC) : hset (hset h a e) a e' = hset h a e' := by
  funext b
  unfold hset
  by_cases hb : b = a
  · rw [if_pos hb, if_pos hb]
  · rw [if_neg hb, if_neg hb, if_neg hb]
theorem hset_self {h : Hp} {a : Nat} {e : aC} (hh : h a = some e) : hset h a e = h := by
  funext b
  unfold hset
  by_cases hb : b = a
  · rw [if_pos hb, hb, hh]
  · rw [if_neg hb]
theorem sh_cat (E : eE) (v : Value) : (sh E v).category = v.category := by cases v <;> rfl
def arAt (E : eE) (s : State) (a : Nat) (ty : FieldType) (n : Nat) (f : Nat → Value) (H : Heap) : Prop := ∃ cell : Cell, H[ad E a]? = some cell ∧ s.isArrayOf cell ty ∧ cell.vm ≠ .unknown ∧ n ≤ cell.slots.size ∧ cell.slots.size.toInt32 = Int32.ofNat n ∧ (∀ j, j < n → cell.slots[j]? = some (sh E (f j))) ∧ (2 ≤ a → ∃ cA, cell = arrV cA n (fun j => sh E (f j)) ∧ ArrOfT s cA ty ∧ va_RA s cA ty)
def cAt (E : eE) (s : State) (a : Nat) (e : aC) (H : Heap) : Prop := match e with
  | .inl x => arAt E s a x.1 x.2.1 x.2.2 H
  | .inr o => 2 ≤ a ∧ va_at (aD E) vwCl (ad E a, .inr (o.1, o.2.map (sh E))) H
def hR (E : eE) (s : State) (h : Hp) (z : Nat) (H : Heap) : Prop := 2 ≤ z ∧ E.1 < E.2.2.1 ∧ E.2.1 < E.2.2.1 ∧ H.size = E.2.2.1 + (z - 2) ∧ ∀ a e, h a = some e → a < z ∧ cAt E s a e H
theorem cAt.moved {E : eE} {u U : State} (hvm : u.vm.Alike U.vm) {a : Nat} {e : aC} {H : Heap} (h : cAt E u a e H) : cAt E U a e H := by
  cases e with
  | inl x =>
    obtain ⟨cell, h1, h2, h3, h4, h5, h6, h7⟩ := h
    exact ⟨cell, h1, State.isArrayOf_alike hvm h2, h3, h4, h5, h6, fun g => by obtain ⟨cA, e1, e2, e3⟩ := h7 g; exact ⟨cA, e1, arrOfT_moved hvm e2, e3.moved hvm⟩⟩
  | inr o => exact h
theorem hR.moved {E : eE} {u U : State} (hvm : u.vm.Alike U.vm) {h : Hp} {z : Nat} {H : Heap} (g : hR E u h z H) : hR E U h z H := ⟨g.1, g.2.1, g.2.2.1, g.2.2.2.1, fun a e he => ⟨(g.2.2.2.2 a e he).1, (g.2.2.2.2 a e he).2.moved hvm⟩⟩
theorem cAt.kept {E : eE} {u : State} {a : Nat} {e : aC} {H H1 : Heap} (h : cAt E u a e H) (hq : H1[ad E a]? = H[ad E a]?) : cAt E u a e H1 := by
  cases e with
  | inl x =>
    obtain ⟨cell, h1, h2⟩ := h
    exact ⟨cell, by rw [hq]; exact h1, h2⟩
  | inr o => exact ⟨h.1, h.2.kept hq⟩
theorem ad_ge {E : eE} {a : Nat} (h : 2 ≤ a) : ad E a = E.2.2.1 + (a - 2) := by
  unfold ad
  rw [if_neg (by omega), if_neg (by omega)]
theorem ad_lt {E : eE} {s : State} {h : Hp} {z : Nat} {H : Heap} (g : hR E s h z H) {a : Nat} (ha : a < 2) : ad E a < E.2.2.1 := by
  obtain ⟨-, g1, g2, -⟩ := g
  unfold ad
  by_cases h0 : a = 0
  · rw [if_pos h0]; exact g1
  · rw [if_neg h0, if_pos (by omega)]; exact g2
theorem ad_ne {E : eE} {s : State} {h : Hp} {z : Nat} {H : Heap} (g : hR E s h z H) {a b : Nat} (ha : 2 ≤ a) (n : b ≠ a) : ad E b ≠ ad E a := by
  rw [ad_ge ha]
  by_cases hb : 2 ≤ b
  · rw [ad_ge hb]; omega
  · have := ad_lt g (show b < 2 by omega)
    omega
/-- one cell is written -/
theorem hR.set {E : eE} {s : State} {h : Hp} {z : Nat} {H H1 : Heap} (g : hR E s h z H) {a : Nat} {e0 e : aC} (ha : 2 ≤ a) (he0 : h a = some e0) (he : cAt E s a e H1) (hz : H1.size = H.size) (ho : ∀ q : Nat, q ≠ ad E a → H1[q]? = H[q]?) : hR E s (hset h a e) z H1 := by
  refine ⟨g.1, g.2.1, g.2.2.1, by rw [hz]; exact g.2.2.2.1, fun b x hx => ?_⟩
  by_cases hb : b = a
  · subst hb
    rw [hset_eq] at hx
    cases hx
    exact ⟨(g.2.2.2.2 b e0 he0).1, he⟩
  · rw [hset_ne h e hb] at hx
    obtain ⟨g1, g2⟩ := g.2.2.2.2 b x hx
    exact ⟨g1, g2.kept (ho _ (ad_ne g ha hb))⟩
/-- one cell is made -/
theorem hR.push {E : eE} {s : State} {h : Hp} {z : Nat} {H H1 : Heap} (g : hR E s h z H) {e : aC} (he : cAt E s z e H1) (hz : H1.size = H.size + 1) (ho : ∀ q : Nat, q < H.size → H1[q]? = H[q]?) : hR E s (hset h z e) (z + 1) H1 := by
  obtain ⟨g0, g1, g2, g3, g4⟩ := g
  refine ⟨by omega, g1, g2, by omega, fun b x hx => ?_⟩
  by_cases hb : b = z
  · subst hb
    rw [hset_eq] at hx
    cases hx
    exact ⟨by omega, he⟩
  · rw [hset_ne h e hb] at hx
    obtain ⟨k1, k2⟩ := g4 b x hx
    refine ⟨by omega, k2.kept (ho _ ?_)⟩
    by_cases hb2 : 2 ≤ b
    · rw [ad_ge hb2]; omega
    · have := ad_lt (E := E) (s := s) (h := h) (z := z) (H := H) ⟨g0, g1, g2, g3, g4⟩ (show b < 2 by omega)
      omega
theorem hR.top {E : eE} {s : State} {h : Hp} {z : Nat} {H : Heap} (g : hR E s h z H) : ad E z = H.size := by rw [ad_ge g.1, g.2.2.2.1]
/-- the locals: a list; null: nothing is said -/
def tol (E : eE) : Nat → List Value → List (Nat × Value)
  | _, [] => []
  | i, .null :: r => tol E (i + 1) r
  | i, v :: r => (i, sh E v) :: tol E (i + 1) r
theorem tol_mem {E : eE} {q : Nat × Value} : ∀ (L : List Value) (i : Nat), q ∈ tol E i L ↔ ∃ (j : Nat) (v : Value), q.1 = i + j ∧ L[j]? = some v ∧ v ≠ .null ∧ q.2 = sh E v := by
  intro L
  induction L with
  | nil => intro i; simp [tol]
  | cons w r ih =>
    intro i
    have key : (∃ (j : Nat) (v : Value), q.1 = i + j ∧ (w :: r)[j]? = some v ∧ v ≠ .null ∧ q.2 = sh E v) ↔ (q.1 = i ∧ w ≠ .null ∧ q.2 = sh E w) ∨ (∃ (j : Nat) (v : Value), q.1 = i + 1 + j ∧ r[j]? = some v ∧ v ≠ .null ∧ q.2 = sh E v) := by
      constructor
      · rintro ⟨j, v, h1, h2, h3, h4⟩
        cases j with
        | zero =>
          rw [List.getElem?_cons_zero] at h2
          cases h2
          exact Or.inl ⟨by omega, h3, h4⟩
        | succ j =>
          rw [List.getElem?_cons_succ] at h2
          exact Or.inr ⟨j, v, by omega, h2, h3, h4⟩
      · rintro (⟨h1, h2, h3⟩ | ⟨j, v, h1, h2, h3, h4⟩)
        · exact ⟨0, w, by omega, List.getElem?_cons_zero, h2, h3⟩
        · exact ⟨j + 1, v, by omega, by rw [List.getElem?_cons_succ]; exact h2, h3, h4⟩
    rw [key, ← ih (i + 1)]
    cases w <;> simp [tol, Prod.ext_iff]
def lR (E : eE) (ls : Array Slot) (nL : Nat) (L : List Value) : Prop := lv_has ls nL (tol E 0 L)
theorem lR.at {E : eE} {ls : Array Slot} {nL : Nat} {L : List Value} (h : lR E ls nL L) {i : Nat} {v : Value} (hL : L[i]? = some v) (hv : v ≠ .null) : ls[i]? = some (.val (sh E v)) := h.2.2 (i, sh E v) ((tol_mem L 0).mpr ⟨i, v, by simp, hL, hv, rfl⟩)
def clr (v : Value) : Value := match v with
  | .long _ => .null
  | .double _ => .null
  | v => v
/-- storing a value of one word, of two -/
def stL1 : Nat → Value → List Value → List Value
  | 0, v, _ :: r => v :: r
  | 1, v, a :: _ :: r => clr a :: v :: r
  | i + 2, v, a :: r => a :: stL1 (i + 1) v r
  | _, _, _ => []
def stL2 : Nat → Value → List Value → List Value
  | 0, v, _ :: _ :: r => v :: .null :: r
  | 1, v, a :: _ :: _ :: r => clr a :: v :: .null :: r
  | i + 2, v, a :: r => a :: stL2 (i + 1) v r
  | _, _, _ => []
theorem clr_some {a w : Value} (h : clr a = w) (hw : w ≠ .null) : a = w ∧ ¬ w.category = 2 := by
  cases a <;> simp_all [clr] <;> subst h <;> simp [Value.category]
theorem stL1_get (v w : Value) : ∀ (i : Nat) (L : List Value) (j : Nat), (stL1 i v L)[j]? = some w → w ≠ .null → (j = i ∧ w = v) ∨ (j ≠ i ∧ L[j]? = some w ∧ ¬ (j + 1 = i ∧ w.category = 2))
  | 0, [], j, h, _ => by simp [stL1] at h
  | 0, a :: r, j, h, hw => by
    cases j with
    | zero => simp [stL1] at h; exact Or.inl ⟨rfl, h.symm⟩
    | succ j => simp [stL1] at h; exact Or.inr ⟨by omega, by simpa using h, by omega⟩
  | 1, [], j, h, _ => by simp [stL1] at h
  | 1, [a], j, h, _ => by simp [stL1] at h
  | 1, a :: b :: r, j, h, hw => by
    match j with
    | 0 =>
      simp [stL1] at h
      obtain ⟨e1, e2⟩ := clr_some h hw
      exact Or.inr ⟨by omega, by simp [e1], fun q => e2 q.2⟩
    | 1 => simp [stL1] at h; exact Or.inl ⟨rfl, h.symm⟩
    | j + 2 => simp [stL1] at h; exact Or.inr ⟨by omega, by simpa using h, by omega⟩
  | i + 2, [], j, h, _ => by simp [stL1] at h
  | i + 2, a :: r, j, h, hw => by
    cases j with
    | zero => simp [stL1] at h; exact Or.inr ⟨by omega, by simpa using h, by omega⟩
    | succ j =>
      simp only [stL1, List.getElem?_cons_succ] at h
      rcases stL1_get v w (i + 1) r j h hw with ⟨e1, e2⟩ | ⟨e1, e2, e3⟩
      · exact Or.inl ⟨by omega, e2⟩
      · exact Or.inr ⟨by omega, by simpa using e2, fun q => e3 ⟨by omega, q.2⟩⟩
theorem stL2_get (v w : Value) : ∀ (i : Nat) (L : List Value) (j : Nat), (stL2 i v L)[j]? = some w → w ≠ .null → (j = i ∧ w = v) ∨ (j ≠ i ∧ j ≠ i + 1 ∧ L[j]? = some w ∧ ¬ (j + 1 = i ∧ w.category = 2))
  | 0, [], j, h, _ => by simp [stL2] at h
  | 0, [a], j, h, _ => by simp [stL2] at h
  | 0, a :: b :: r, j, h, hw => by
    match j with
    | 0 => simp [stL2] at h; exact Or.inl ⟨rfl, h.symm⟩
    | 1 => simp [stL2] at h; exact absurd h.symm hw
    | j + 2 => simp [stL2] at h; exact Or.inr ⟨by omega, by omega, by simpa using h, by omega⟩
  | 1, [], j, h, _ => by simp [stL2] at h
  | 1, [a], j, h, _ => by simp [stL2] at h
  | 1, [a, b], j, h, _ => by simp [stL2] at h
  | 1, a :: b :: c :: r, j, h, hw => by
    match j with
    | 0 =>
      simp [stL2] at h
      obtain ⟨e1, e2⟩ := clr_some h hw
      exact Or.inr ⟨by omega, by omega, by simp [e1], fun q => e2 q.2⟩
    | 1 => simp [stL2] at h; exact Or.inl ⟨rfl, h.symm⟩
    | 2 => simp [stL2] at h; exact absurd h.symm hw
    | j + 3 => simp [stL2] at h; exact Or.inr ⟨by omega, by omega, by simpa using h, by omega⟩
  | i + 2, [], j, h, _ => by simp [stL2] at h
  | i + 2, a :: r, j, h, hw => by
    cases j with
    | zero => simp [stL2] at h; exact Or.inr ⟨by omega, by omega, by simpa using h, by omega⟩
    | succ j =>
      simp only [stL2, List.getElem?_cons_succ] at h
      rcases stL2_get v w (i + 1) r j h hw with ⟨e1, e2⟩ | ⟨e1, e1', e2, e3⟩
      · exact Or.inl ⟨by omega, e2⟩
      · exact Or.inr ⟨by omega, by omega, by simpa using e2, fun q => e3 ⟨by omega, q.2⟩⟩
theorem lR.st1 {E : eE} {ls' : Array Slot} {nL i : Nat} {v : Value} {L : List Value} (h : lv_has ls' nL ((i, sh E v) :: (tol E 0 L).filter (fun q => !(q.1 == i) && !(q.1 + 1 == i && q.2.category == 2)))) : lR E ls' nL (stL1 i v L) := by
  refine ⟨h.1, h.2.1, fun q hq => h.2.2 q ?_⟩
  obtain ⟨j, w, h1, h2, h3, h4⟩ := (tol_mem _ 0).mp hq
  obtain ⟨q1, q2⟩ := q
  simp only [Nat.zero_add] at h1
  dsimp only at h1 h4
  subst h1; subst h4
  rcases stL1_get v w i L q1 h2 h3 with ⟨e1, e2⟩ | ⟨e1, e2, e3⟩
  · subst e1; subst e2
    exact List.mem_cons_self
  · refine List.mem_cons_of_mem _ (List.mem_filter.mpr ⟨(tol_mem _ 0).mpr ⟨q1, w, by simp, e2, h3, rfl⟩, ?_⟩)
    simp only [sh_cat]
    simp only [Bool.and_eq_true, Bool.not_eq_true', beq_eq_false_iff_ne, ne_eq, Bool.and_eq_false_iff]
    refine ⟨e1, ?_⟩
    by_cases g : q1 + 1 = i
    · exact Or.inr fun k => e3 ⟨g, k⟩
    · exact Or.inl g
theorem lR.st2 {E : eE} {ls' : Array Slot} {nL i : Nat} {v : Value} {L : List Value} (h : lv_has ls' nL ((i, sh E v) :: (tol E 0 L).filter (fun q => !(q.1 == i) && (!(q.1 == i + 1) && !(q.1 + 1 == i && q.2.category == 2))))) : lR E ls' nL (stL2 i v L) := by
  refine ⟨h.1, h.2.1, fun q hq => h.2.2 q ?_⟩
  obtain ⟨j, w, h1, h2, h3, h4⟩ := (tol_mem _ 0).mp hq
  obtain ⟨q1, q2⟩ := q
  simp only [Nat.zero_add] at h1
  dsimp only at h1 h4
  subst h1; subst h4
  rcases stL2_get v w i L q1 h2 h3 with ⟨e1, e2⟩ | ⟨e1, e1', e2, e3⟩
  · subst e1; subst e2
    exact List.mem_cons_self
  · refine List.mem_cons_of_mem _ (List.mem_filter.mpr ⟨(tol_mem _ 0).mpr ⟨q1, w, by simp, e2, h3, rfl⟩, ?_⟩)
    simp only [sh_cat]
    simp only [Bool.and_eq_true, Bool.not_eq_true', beq_eq_false_iff_ne, ne_eq, Bool.and_eq_false_iff]
    refine ⟨e1, e1', ?_⟩
    by_cases g : q1 + 1 = i
    · exact Or.inr fun k => e3 ⟨g, k⟩
    · exact Or.inl g
/-- the arguments, as locals -/
def lay : Nat → List Value → List Value
  | n, [] => List.replicate n .null
  | n, .long x :: r => .long x :: .null :: lay (n - 2) r
  | n, .double x :: r => .double x :: .null :: lay (n - 2) r
  | n, v :: r => v :: lay (n - 1) r
def layN : List Value → Nat
  | [] => 0
  | .long _ :: r => layN r + 2
  | .double _ :: r => layN r + 2
  | _ :: r => layN r + 1
theorem layN_eq (E : eE) (A : List Value) : (lg_sl (A.map (sh E))).length = layN A := by
  induction A with
  | nil => rfl
  | cons v r ih =>
    have e : lg_sl ((v :: r).map (sh E)) = (if (sh E v).category = 2 then [.val (sh E v), .second] else [.val (sh E v)]) ++ lg_sl (r.map (sh E)) := by
      simp [lg_sl]
    rw [e, List.length_append, ih, sh_cat]
    cases v <;> simp [Value.category, layN] <;> omega
theorem tol_null (E : eE) : ∀ (n i : Nat), tol E i (List.replicate n .null) = []
  | 0, _ => rfl
  | n + 1, i => by rw [List.replicate_succ]; exact tol_null E n (i + 1)
theorem tol_lay (E : eE) : ∀ (A : List Value) (n i : Nat), ∀ q ∈ tol E i (lay n A), q ∈ lv_args i (A.map (sh E)) := by
  intro A
  induction A with
  | nil =>
    intro n i q hq
    rw [show lay n [] = List.replicate n .null from rfl, tol_null] at hq
    exact absurd hq List.not_mem_nil
  | cons v r ih =>
    intro n i q hq
    show q ∈ (i, sh E v) :: lv_args (if (sh E v).category = 2 then i + 2 else i + 1) (r.map (sh E))
    rw [sh_cat]
    cases v <;> simp only [lay, tol, Value.category] at hq ⊢ <;> first
      | (rcases List.mem_cons.mp hq with h | h
         · exact h ▸ List.mem_cons_self
         · exact List.mem_cons_of_mem _ (by simpa using ih _ _ q h))
      | exact List.mem_cons_of_mem _ (by simpa using ih _ _ q hq)
theorem lR_entry (E : eE) (A : List Value) {n : Nat} (h : layN A ≤ n) : lR E ((lg_sl (A.map (sh E)) ++ List.replicate (n - (lg_sl (A.map (sh E))).length) Slot.unset).toArray) n (lay n A) := by
  have g := lv_entry (A.map (sh E)) (n := n) (by rw [layN_eq]; exact h)
  exact ⟨g.1, g.2.1, fun q hq => g.2.2 q (tol_lay E A n 0 q hq)⟩
