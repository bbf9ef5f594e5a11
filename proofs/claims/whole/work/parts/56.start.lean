/-! THE CLAIM OUT OF ONE WALK OF THE LAW'S BODY. Your part is whole_start (and what it stands on); all else here is the same for every law, but numbers. -/
def R_law : String := "UpWithSheafLaw"
def lw_P (b : Addr) (xs : List Int32) (args : Array Value) (s : State) : Prop := args = #[.ref b] ∧ s.IntsAt b xs ∧ xs.length ≤ 256 ∧ (Jvm.Cond.and given_1 narrow_1).before args s = true
def lw_Q (_ : Array Value) (s : State) (o : Outcome) (t : State) : Prop := o = .returned (some (.int 1)) ∧ Framed s o t [] 600000 7302249
def lw_Z (below : List Frame) (a : Array Value) (s : State) : State → Prop := fun t => ∃ o, t.status = .running ∧ Ended t below o ∧ lw_Q a s o t
/-- the law's own end, with 1 on the stack, nothing written that was there before, its room as the claim has it -/
theorem lw_ret {p : Program} {l : Launch} {e : Env} {s : State} {m : MethodId} {below : List Frame} {meth : Method} {c : Code} {b : Nat} (hx : p.tables.exec = Jvm.exec) (hb : c.code = code) (hr : meth.sig.returnType = ret) (hlocks : meth.locks = false) {pc : Nat} {H : Heap} {ls : Array Slot} (hdg : decode code pc = .ok (.ireturn, 1)) : W p l e room_1 s m #[Value.ref b] below meth c H [] 600000 7302249 (lw_Z below #[Value.ref b] s) (F0 m pc ls [.int 1]) := by
  intro T hT X
  obtain ⟨fs, hret, hrun, hended, hW, hframe⟩ := X.leave (v := some (.int 1)) (hlocks := hlocks) (fun h => by rw [hr] at h; cases h)
  have hmeth' : T.vm.method? m = some meth := X.method'
  refine ⟨T.setFrames fs, ?_, .returned (some (.int 1)), hrun, hended, rfl, ⟨_, rfl⟩, hW, hframe⟩
  jvm_step X.here [X.here.top, hx, hb, hdg, hmeth', hr, ret, narrow_b1]
  (try refine ⟨rfl, ?_⟩); (try refine ⟨rfl, ?_⟩)
  first | (intro acts; rw [hret _ acts rfl rfl rfl]) | rw [hret _ _ rfl rfl rfl]
  exact Steps.refl _
/-- what holds at the law's entry: the machine, the code, the tables' words (any of lw_tbl by 'hts w (by decide +kernel)'), the script of L ints xs at the cell b, what the Statement gives of the start (any of its parts by flat_of_before) -/
def lw_At (p : Program) (s : State) (m : MethodId) (meth : Method) (c : Code) (b L : Nat) (xs : Nat → Int32) : Prop :=
  p.tables.exec = Jvm.exec ∧ c.code = code ∧ meth.sig.returnType = ret ∧ c.maxLocals = 4 ∧ s.vm.findClass R_law = some m.cls ∧ (∀ w ∈ lw_tbl, w.before #[Value.ref b] s = true) ∧ va_X b L xs s s.heap ∧ b < s.heap.size ∧ meth.locks = false ∧ (Jvm.Cond.and given_1 narrow_1).before #[Value.ref b] s = true
theorem nml_in : ∀ q ∈ NMl, Cond.methodLinkNest q.1 q.2.1 q.2.2.1 q.2.2.2 ∈ lw_tbl := by decide +kernel
theorem nml_f : Cond.fieldLinkNest "UpWithSheaf$Ahead" 82 "UpWithSheaf" "TENS" "[J" "UpWithSheaf" ∈ lw_tbl := by decide +kernel
theorem nml_t : Cond.arrayOver (.object "UpWithSheaf$Thrower") ∈ lw_tbl := by decide +kernel
theorem nml_c : Cond.arrayOver (.object "UpWithSheaf$Contest") ∈ lw_tbl := by decide +kernel
theorem nml_a : Cond.arrayOver (.array .int) ∈ lw_tbl := by decide +kernel
theorem nml_l : Cond.laysStatic "UpWithSheaf" "TENS" "[J" ∈ lw_tbl := by decide +kernel
theorem nml_i : Cond.initialized "UpWithSheaf" ∈ lw_tbl := by decide +kernel
theorem ten_el {args : Array Value} {s : State} (h : (Jvm.Cond.and given_1 narrow_1).before args s = true) : ∀ j : Nat, j < 13 → (Term.elem (.static "UpWithSheaf" "TENS" "[J") (.int (Int32.ofNat j))).eval args s none [] s = some (.long (lN (10 ^ j))) := by
  have hs := flat_of_before _ h
  intro j hj
  match j, hj with
  | 0, _ => exact va_eqtl (z := 1) (hs (.eq (.elem (.static "UpWithSheaf" "TENS" "[J") (.int 0)) (.long 1)) (by decide +kernel))
  | 1, _ => exact va_eqtl (z := 10) (hs (.eq (.elem (.static "UpWithSheaf" "TENS" "[J") (.int 1)) (.long 10)) (by decide +kernel))
  | 2, _ => exact va_eqtl (z := 100) (hs (.eq (.elem (.static "UpWithSheaf" "TENS" "[J") (.int 2)) (.long 100)) (by decide +kernel))
  | 3, _ => exact va_eqtl (z := 1000) (hs (.eq (.elem (.static "UpWithSheaf" "TENS" "[J") (.int 3)) (.long 1000)) (by decide +kernel))
  | 4, _ => exact va_eqtl (z := 10000) (hs (.eq (.elem (.static "UpWithSheaf" "TENS" "[J") (.int 4)) (.long 10000)) (by decide +kernel))
  | 5, _ => exact va_eqtl (z := 100000) (hs (.eq (.elem (.static "UpWithSheaf" "TENS" "[J") (.int 5)) (.long 100000)) (by decide +kernel))
  | 6, _ => exact va_eqtl (z := 1000000) (hs (.eq (.elem (.static "UpWithSheaf" "TENS" "[J") (.int 6)) (.long 1000000)) (by decide +kernel))
  | 7, _ => exact va_eqtl (z := 10000000) (hs (.eq (.elem (.static "UpWithSheaf" "TENS" "[J") (.int 7)) (.long 10000000)) (by decide +kernel))
  | 8, _ => exact va_eqtl (z := 100000000) (hs (.eq (.elem (.static "UpWithSheaf" "TENS" "[J") (.int 8)) (.long 100000000)) (by decide +kernel))
  | 9, _ => exact va_eqtl (z := 1000000000) (hs (.eq (.elem (.static "UpWithSheaf" "TENS" "[J") (.int 9)) (.long 1000000000)) (by decide +kernel))
  | 10, _ => exact va_eqtl (z := 10000000000) (hs (.eq (.elem (.static "UpWithSheaf" "TENS" "[J") (.int 10)) (.long 10000000000)) (by decide +kernel))
  | 11, _ => exact va_eqtl (z := 100000000000) (hs (.eq (.elem (.static "UpWithSheaf" "TENS" "[J") (.int 11)) (.long 100000000000)) (by decide +kernel))
  | 12, _ => exact va_eqtl (z := 1000000000000) (hs (.eq (.elem (.static "UpWithSheaf" "TENS" "[J") (.int 12)) (.long 1000000000000)) (by decide +kernel))
  | j + 13, g => exact absurd g (by omega)
/-- the abstract heap at the law's entry -/
def hp0 (L : Nat) (xs : Nat → Int32) : Hp := fun a => if a = 0 then some (scr L xs) else if a = 1 then some (.inl (.long, 13, fun j => .long (lN (10 ^ j)))) else none
theorem known {s : State} {args : Array Value} (hG : ∀ w ∈ GW, w.before args s = true) : ∃ (dC : Nat → ClassId) (dI : Nat → Nat → Nat), ∀ (k : Nat) (q : vw_C), vwCl[k]? = some q → u_Kn s q.1 q.2.1 q.2.2 (dC k) (dI k) := by
  obtain ⟨c0, i0, k0⟩ := u_known (C := RX0) (T := TX0) (N := 3) (n := 3) hG gwc_X0 (hG _ neww_X6_X0.2.1)
  obtain ⟨c1, i1, k1⟩ := u_known (C := RX2) (T := TX2) (N := 4) (n := 4) hG gwc_X2 (hG _ neww_X6_X2.2.1)
  obtain ⟨c2, i2, k2⟩ := u_known (C := RX3) (T := TX3) (N := 2) (n := 2) hG gwc_X3 (hG _ neww_X6_X3.2.1)
  obtain ⟨c3, i3, k3⟩ := u_known (C := RX4) (T := TX4) (N := 2) (n := 2) hG gwc_X4 (hG _ neww_X6_X4.2.1)
  obtain ⟨c4, i4, k4⟩ := u_known (C := RX5) (T := TX5) (N := 9) (n := 9) hG gwc_X5 (hG _ neww_X6_X5.2.1)
  obtain ⟨c5, i5, k5⟩ := u_known (C := RX6) (T := TX6) (N := 9) (n := 9) hG gwc_X6 (hG _ neww_L_X6.2.1)
  obtain ⟨c6, i6, k6⟩ := u_known (C := RX7) (T := TX7) (N := 17) (n := 17) hG gwc_X7 (hG _ neww_L_X7.2.1)
  refine ⟨fun k => match k with | 0 => c0 | 1 => c1 | 2 => c2 | 3 => c3 | 4 => c4 | 5 => c5 | _ => c6, fun k => match k with | 0 => i0 | 1 => i1 | 2 => i2 | 3 => i3 | 4 => i4 | 5 => i5 | _ => i6, ?_⟩
  intro k q hq
  match k, hq with
  | 0, hq => cases hq; exact k0
  | 1, hq => cases hq; exact k1
  | 2, hq => cases hq; exact k2
  | 3, hq => cases hq; exact k3
  | 4, hq => cases hq; exact k4
  | 5, hq => cases hq; exact k5
  | 6, hq => cases hq; exact k6
  | k + 7, hq => simp [vwCl] at hq
set_option maxRecDepth 100000 in
theorem whole_start {p : Program} {e : Env} {s : State} {m : MethodId} {below : List Frame} {meth : Method} {c : Code} (l : Launch) (hflags : l.flags = flags0) {b L : Nat} {xs : Nat → Int32} (hL : L ≤ 256) (C0 : lw_At p s m meth c b L xs) : W p l e room_1 s m #[Value.ref b] below meth c s.heap [] 0 0 (lw_Z below #[Value.ref b] s) (entryFrame m ([Value.ref b] : List Value).toArray 4) := by
  obtain ⟨hx, hb, hr, hml, hown, hts, hX, hbl, hlocks, hgv⟩ := C0
  have hG : ∀ w ∈ GW, w.before #[Value.ref b] s = true := fun w hw => hts w (GW_tbl w hw)
  have hA : ∀ a : Nat, a < s.heap.size → ¬ (fun q : Nat => s.heap.size ≤ q) a := fun a h => Nat.not_le.mpr h
  have hs := flat_of_before _ hgv
  obtain ⟨t, ht, hT⟩ := va_Tof (tm := .static "UpWithSheaf" "TENS" "[J") (ty := .long) (N := 13) (f := fun j => .long (lN (10 ^ j))) (A := fun q : Nat => s.heap.size ≤ q) (by omega) (hs (.arrayOf (.static "UpWithSheaf" "TENS" "[J") .long) (by decide +kernel)) (va_eqt (z := 13) (hs (.eq (.length (.static "UpWithSheaf" "TENS" "[J")) (.int 13)) (by decide +kernel))) (ten_el hgv) hA
  obtain ⟨dC, dI, hKc⟩ := known hG
  have hZ : va_Z "UpWithSheaf" "TENS" "[J" (.ref t) (fun q => s.heap.size ≤ q) s s.heap := va_Zref (hts _ nml_l) (hts _ nml_i) ht hA
  have hXT : XT s := ⟨fun q hq => va_Nw.of rfl (hts _ (nml_in q hq)), va_Nw.of rfl (hts _ nml_f), va_AO.of (hts _ nml_t), va_AO.of (hts _ nml_c), (show (Cond.arrayOver (.array .int)).before #[] s = true from hts _ nml_a)⟩
  have hK : va_K (dC, dI) vwCl [] s := ⟨hKc, fun k q h => by simp at h⟩
  obtain ⟨cT, t1, t2, t3, t4, t5, t6, t7⟩ := hT
  obtain ⟨cX, x1, x2, x3, x4, x5⟩ := hX
  have htl : t < s.heap.size := (Array.getElem?_eq_some_iff.mp t1).1
  have hH : hR (b, t, s.heap.size, dC, dI) s (hp0 L xs) 2 s.heap := by
    refine ⟨Nat.le_refl _, hbl, htl, rfl, fun a e he => ?_⟩
    match a, he with
    | 0, he =>
      cases he
      exact ⟨by omega, cX, x1, x2, x3, Nat.le_of_eq x4.symm, by rw [x4], x5, fun q => absurd q (by omega)⟩
    | 1, he =>
      cases he
      exact ⟨by omega, cT, t1, t2, t3, t4, t5, t6, fun q => absurd q (by omega)⟩
    | a + 2, he => exact absurd he (by simp [hp0])
  have hRC : RC ML_law 161 3865 (fun v _ _ => v = some (.int 1)) p l e room_1 s m #[Value.ref b] below meth c (b, t, s.heap.size, dC, dI) (lw_Z below #[Value.ref b] s) := by
    intro v h z k n pc H locs ls i hQ hR1 hdg hH1 hS hk hn
    subst hQ
    obtain ⟨rfl, -⟩ := hR1
    refine va_forget hS.2.2 ?_
    refine W.widen (k := 600000) (n := 7302249) (by omega) (by omega) ?_
    exact lw_ret hx hb hr hlocks hdg
  rw [lg_entry_eq]
  exact law_body hL (h := hp0 L xs) rfl rfl p l e room_1 s m _ below meth c (b, t, s.heap.size, dC, dI) _ ⟨hx, hb, hml, hown, hG, ⟨Nat.le_of_ble_eq_true rfl, Nat.le_of_ble_eq_true rfl, Nat.le_of_ble_eq_true rfl, Nat.le_of_ble_eq_true rfl⟩, fun q => absurd q (by decide), hK, hZ, hXT, Nat.le_refl _, hRC⟩ s.heap [] _ hH va_S.rf (lR_entry (b, t, s.heap.size, dC, dI) [.ref 0] (n := 4) (Nat.le_of_ble_eq_true rfl)) (Nat.zero_le _) (Nat.zero_le _)
