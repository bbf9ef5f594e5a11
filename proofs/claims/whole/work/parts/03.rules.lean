abbrev MD : Type := MethodName × ByteArray × Nat × Option FieldType
def Ins (M : MD) (pc : Nat) (i : Instr) (len pc' : Nat) : Prop := decode M.2.1 pc = .ok (i, len) ∧ pc + len = pc'
def NMl : List (String × Nat × MethodName × String) := [("UpWithSheaf", 11, ⟨"UpWithSheaf$Text", "<init>", "()V"⟩, "UpWithSheaf"), ("UpWithSheaf", 50, ⟨"UpWithSheaf$Sheets", "<init>", "()V"⟩, "UpWithSheaf"), ("UpWithSheaf", 157, ⟨"UpWithSheaf$Ahead", "greatest", "(LUpWithSheaf$Thrower;IIIIII)J"⟩, "UpWithSheaf"), ("UpWithSheaf", 161, ⟨"UpWithSheaf$Ahead", "byTrying", "(LUpWithSheaf$Thrower;IIIIII)J"⟩, "UpWithSheaf"), ("UpWithSheaf", 164, ⟨"UpWithSheaf$Ahead", "bySparing", "(LUpWithSheaf$Thrower;IIIIII)J"⟩, "UpWithSheaf"), ("UpWithSheaf", 170, ⟨"UpWithSheaf$Ahead", "unbeaten", "(LUpWithSheaf$Contest;I[LUpWithSheaf$Thrower;III)J"⟩, "UpWithSheaf")]
def va_AA (U : State) : Prop := (Cond.arrayOver (.array .int)).before #[] U = true
def XT (s : State) : Prop := (∀ q ∈ NMl, va_Nw (.methodLinkNest q.1 q.2.1 q.2.2.1 q.2.2.2) s) ∧ va_Nw (.fieldLinkNest "UpWithSheaf$Ahead" 82 "UpWithSheaf" "TENS" "[J" "UpWithSheaf") s ∧ va_AO "UpWithSheaf$Thrower" s ∧ va_AO "UpWithSheaf$Contest" s ∧ va_AA s
theorem va_AA.moved {u U : State} (hvm : u.vm.Alike U.vm) (h : va_AA u) : va_AA U := over_moved hvm h
theorem XT.warm {s U : State} (hW : s.WarmedH U.vm) (h : XT s) : XT U := ⟨fun q hq => (h.1 q hq).warmM hW, h.2.1.warmF hW, h.2.2.1.moved hW.alike, h.2.2.2.1.moved hW.alike, h.2.2.2.2.moved hW.alike⟩
theorem XT.same {s U : State} (hv : s.vm = U.vm) (h : XT s) : XT U := ⟨fun q hq => (h.1 q hq).same rfl hv, h.2.1.same rfl hv, h.2.2.1.moved (by rw [hv]; exact Vm.Alike.refl _), h.2.2.2.1.moved (by rw [hv]; exact Vm.Alike.refl _), h.2.2.2.2.moved (by rw [hv]; exact Vm.Alike.refl _)⟩
def wld (E : eE) (h : Hp) (z : Nat) (U : State) : Prop := hR E U h z U.heap ∧ va_K (aD E) vwCl [] U ∧ va_Z "UpWithSheaf" "TENS" "[J" (.ref E.2.1) (fun q => E.2.2.1 ≤ q) U U.heap ∧ XT U
def RetOK (ret : Option FieldType) (v : Option Value) (i : Instr) : Prop := match v with
  | none => ret = none ∧ i = .return_
  | some (.int x) => i = .ireturn ∧ (ret = some .int ∨ (ret = some .boolean ∧ (x = 0 ∨ x = 1)))
  | some (.long _) => i = .lreturn ∧ ret = some .long
  | _ => False
def RC (M : MD) (mc ms : Nat) (Q : Option Value → Hp → Nat → Prop) (p : Program) (l : Launch) (e : Env) (Rm : Room) (s : State) (m : MethodId) (args : Array Value) (below : List Frame) (meth : Method) (c : Code) (E : eE) (Qf : State → Prop) : Prop :=
  ∀ (v : Option Value) (h : Hp) (z k n pc : Nat) (H : Heap) (locs : List Loc) (ls : Array Slot) (i : Instr), Q v h z → RetOK M.2.2.2 v i → decode M.2.1 pc = .ok (i, 1) → hR E s h z H → va_S (fun q => E.2.2.1 ≤ q) s.heap H locs → k ≤ mc → n ≤ ms → W p l e Rm s m args below meth c H locs k n Qf (F0 m pc ls (v.toList.map (sh E)))
def Ox (M : MD) (d mc ms : Nat) (Q : Option Value → Hp → Nat → Prop) (p : Program) (l : Launch) (e : Env) (Rm : Room) (s : State) (m : MethodId) (args : Array Value) (below : List Frame) (meth : Method) (c : Code) (E : eE) (Qf : State → Prop) : Prop :=
  p.tables.exec = Jvm.exec ∧ c.code = M.2.1 ∧ c.maxLocals = M.2.2.1 ∧ s.vm.findClass M.1.cls = some m.cls ∧ (∀ w ∈ GW, w.before args s = true) ∧ (d ≤ Rm.frames ∧ 48 * d ≤ Rm.locals ∧ mc ≤ Rm.cells ∧ ms ≤ Rm.slots) ∧ (M.1.name = "<init>" → meth.name = "<init>") ∧ va_K (aD E) vwCl [] s ∧ va_Z "UpWithSheaf" "TENS" "[J" (.ref E.2.1) (fun q => E.2.2.1 ≤ q) s s.heap ∧ XT s ∧ E.2.2.1 ≤ s.heap.size ∧ RC M mc ms Q p l e Rm s m args below meth c E Qf
/-- the machine stands in method M at pc, with these locals, this stack, this heap (next cell z), k cells of n slots made; it comes to an end that Q says -/
def R (M : MD) (d mc ms : Nat) (Q : Option Value → Hp → Nat → Prop) (pc : Nat) (L S : List Value) (h : Hp) (z k n : Nat) : Prop :=
  ∀ (p : Program) (l : Launch) (e : Env) (Rm : Room) (s : State) (m : MethodId) (args : Array Value) (below : List Frame) (meth : Method) (c : Code) (E : eE) (Qf : State → Prop), Ox M d mc ms Q p l e Rm s m args below meth c E Qf → ∀ (H : Heap) (locs : List Loc) (ls : Array Slot), hR E s h z H → va_S (fun q => E.2.2.1 ≤ q) s.heap H locs → lR E ls M.2.2.1 L → k ≤ mc → n ≤ ms → W p l e Rm s m args below meth c H locs k n Qf (F0 m pc ls (S.map (sh E)))
def wM (M : MD) : List Cond := Cond.code M.1 M.2.1 M.2.2.1 M.2.2.2 :: GW
def rmd (d mc ms : Nat) : Room := { frames := d, cells := mc, slots := ms, locals := 48 * d }
def cPc (E : eE) (A : List Value) (h : Hp) (z : Nat) : Array Value → State → Prop := fun v U => v = (A.map (sh E)).toArray ∧ wld E h z U
def cQc (E : eE) (Q : Option Value → Hp → Nat → Prop) : Array Value → State → Outcome → State → Prop := fun _ st o t => ∃ (v : Option Value) (h : Hp) (z : Nat), o = .returned (v.map (sh E)) ∧ Q v h z ∧ hR E t h z t.heap ∧ va_F (fun q => E.2.2.1 ≤ q) st t
/-- a method's contract: with these arguments on this heap it returns, and Q says what -/
def Cal (M : MD) (d mc ms : Nat) (A : List Value) (h : Hp) (z : Nat) (Q : Option Value → Hp → Nat → Prop) : Prop := ∀ (l : Launch) (E : eE), Met l M.1 (wM M) (rmd d mc ms) (cPc E A h z) (cQc E Q) mc ms (fun q => E.2.2.1 ≤ q)
theorem R_mono {M : MD} {d mc ms pc : Nat} {Q Q' : Option Value → Hp → Nat → Prop} {L S : List Value} {h : Hp} {z k n : Nat} (hQ : ∀ v h z, Q v h z → Q' v h z) (K : R M d mc ms Q pc L S h z k n) : R M d mc ms Q' pc L S h z k n := by
  intro p l e Rm s m args below meth c E Qf O
  obtain ⟨hx, hb, hml, hown, hts, hrm, hin, hK, hZ, hX, hB, hRC⟩ := O
  exact K p l e Rm s m args below meth c E Qf ⟨hx, hb, hml, hown, hts, hrm, hin, hK, hZ, hX, hB, fun v h z k n pc H locs ls i q => hRC v h z k n pc H locs ls i (hQ _ _ _ q)⟩
theorem Cal_mono {M : MD} {d mc ms : Nat} {A : List Value} {h : Hp} {z : Nat} {Q Q' : Option Value → Hp → Nat → Prop} (hQ : ∀ v h z, Q v h z → Q' v h z) (K : Cal M d mc ms A h z Q) : Cal M d mc ms A h z Q' := by
  intro l E p e ha hc hk s m args below hf happ hpre hfree
  obtain ⟨t, o, h1, h2, h3, ⟨v, h', z', q1, q2, q3⟩, h5⟩ := K l E p e ha hc hk s m args below hf happ hpre hfree
  exact ⟨t, o, h1, h2, h3, ⟨v, h', z', q1, hQ _ _ _ q2, q3⟩, h5⟩
set_option maxHeartbeats 2000000 in
theorem Cal_of_R {M : MD} {d mc ms : Nat} {A L : List Value} {h : Hp} {z : Nat} {Q : Option Value → Hp → Nat → Prop} (hpl : plainName M.1.cls = true) (hL : lay M.2.2.1 A = L) (hn : layN A ≤ M.2.2.1) (K : R M d mc ms Q 0 L [] h z 0 0) : Cal M d mc ms A h z Q := by
  intro l E
  refine Met.ofW (cc := M.2.1) (maxL := M.2.2.1) (ret := M.2.2.2) hpl rfl ?_
  intro p e s m args below meth c s₁ B hml hv
  obtain ⟨rfl, hH, hK, hZ, hX⟩ := hv
  have hx := B.exec
  have hb := B.bytes
  have hr := B.returns
  have hts := atoms_spec (ws := wM M) B.pre
  have hown : s.vm.findClass M.1.cls = some m.cls := findClass_of_methodNamed B.named
  have hlocks := B.notSynchronized
  have hin : M.1.name = "<init>" → meth.name = "<init>" := fun q => by rw [(name_of_methodNamed B.named B.method).1]; exact q
  rw [lg_entry_eq]
  subst hL
  have hB : E.2.2.1 ≤ s.heap.size := by rw [hH.2.2.2.1]; omega
  refine K p l e _ s m _ below meth c E _ ⟨hx, hb, hml, hown, fun w hw => hts w (List.mem_cons_of_mem _ hw), ⟨Nat.le_refl _, Nat.le_refl _, Nat.le_refl _, Nat.le_refl _⟩, hin, hK, hZ, hX, hB, ?_⟩ s.heap [] _ hH va_S.rf (lR_entry E A hn) (Nat.zero_le _) (Nat.zero_le _)
  intro v h' z' k n pc H locs ls i hQ hR1 hdg hH1 hS hk hn
  refine W.widen hk hn ?_
  have hq : ∀ t : State, t.heap = H → s.WarmedH t.vm → cQc E Q (A.map (sh E)).toArray s (.returned (v.map (sh E))) t := fun t ht hW => ⟨v, h', z', rfl, hQ, by rw [ht]; exact hH1.moved hW.alike, hS.F ht⟩
  match v, hR1 with
  | none, hR1 =>
    obtain ⟨e1, rfl⟩ := hR1
    exact W.vret hx hb (by rw [hr]; exact e1) hq hS.2.2 hdg
  | some (.int x), hR1 =>
    obtain ⟨rfl, e1 | ⟨e1, e2⟩⟩ := hR1
    · exact W.iret hx hb (by rw [hr]; exact e1) hq hS.2.2 hdg
    · exact W.zret hx hb (by rw [hr]; exact e1) (by rcases e2 with rfl | rfl <;> rfl) hq hS.2.2 hdg
  | some (.long x), hR1 =>
    obtain ⟨rfl, e1⟩ := hR1
    exact W.lret hx hb (by rw [hr]; exact e1) hq hS.2.2 hdg
theorem r_iadd {M : MD} {d mc ms pc pc' z k n : Nat} {Q : Option Value → Hp → Nat → Prop} {L S : List Value} {h : Hp} {x y : Int32} (hi : Ins M pc .iadd 1 pc')  (K : R M d mc ms Q pc' L (.int (x + y) :: S) h z k n) : R M d mc ms Q pc L (.int y :: .int x :: S) h z k n := by
  intro p l e Rm s m args below meth c E Qf O H locs ls hH hS hL hk hn
  obtain ⟨hx, hb, hml, hown, hts, hrm, hin, hK, hZ, hX, hB, hRC⟩ := id O
  obtain ⟨hd, rfl⟩ := hi
  exact lv_iadd hx hb hd  (K p l e Rm s m args below meth c E Qf O H locs ls hH hS hL hk hn)
theorem r_isub {M : MD} {d mc ms pc pc' z k n : Nat} {Q : Option Value → Hp → Nat → Prop} {L S : List Value} {h : Hp} {x y : Int32} (hi : Ins M pc .isub 1 pc')  (K : R M d mc ms Q pc' L (.int (x - y) :: S) h z k n) : R M d mc ms Q pc L (.int y :: .int x :: S) h z k n := by
  intro p l e Rm s m args below meth c E Qf O H locs ls hH hS hL hk hn
  obtain ⟨hx, hb, hml, hown, hts, hrm, hin, hK, hZ, hX, hB, hRC⟩ := id O
  obtain ⟨hd, rfl⟩ := hi
  exact lv_isub hx hb hd  (K p l e Rm s m args below meth c E Qf O H locs ls hH hS hL hk hn)
theorem r_imul {M : MD} {d mc ms pc pc' z k n : Nat} {Q : Option Value → Hp → Nat → Prop} {L S : List Value} {h : Hp} {x y : Int32} (hi : Ins M pc .imul 1 pc')  (K : R M d mc ms Q pc' L (.int (x * y) :: S) h z k n) : R M d mc ms Q pc L (.int y :: .int x :: S) h z k n := by
  intro p l e Rm s m args below meth c E Qf O H locs ls hH hS hL hk hn
  obtain ⟨hx, hb, hml, hown, hts, hrm, hin, hK, hZ, hX, hB, hRC⟩ := id O
  obtain ⟨hd, rfl⟩ := hi
  exact lv_imul hx hb hd  (K p l e Rm s m args below meth c E Qf O H locs ls hH hS hL hk hn)
theorem r_iand {M : MD} {d mc ms pc pc' z k n : Nat} {Q : Option Value → Hp → Nat → Prop} {L S : List Value} {h : Hp} {x y : Int32} (hi : Ins M pc .iand 1 pc')  (K : R M d mc ms Q pc' L (.int (x &&& y) :: S) h z k n) : R M d mc ms Q pc L (.int y :: .int x :: S) h z k n := by
  intro p l e Rm s m args below meth c E Qf O H locs ls hH hS hL hk hn
  obtain ⟨hx, hb, hml, hown, hts, hrm, hin, hK, hZ, hX, hB, hRC⟩ := id O
  obtain ⟨hd, rfl⟩ := hi
  exact lv_iand hx hb hd  (K p l e Rm s m args below meth c E Qf O H locs ls hH hS hL hk hn)
theorem r_ior {M : MD} {d mc ms pc pc' z k n : Nat} {Q : Option Value → Hp → Nat → Prop} {L S : List Value} {h : Hp} {x y : Int32} (hi : Ins M pc .ior 1 pc')  (K : R M d mc ms Q pc' L (.int (x ||| y) :: S) h z k n) : R M d mc ms Q pc L (.int y :: .int x :: S) h z k n := by
  intro p l e Rm s m args below meth c E Qf O H locs ls hH hS hL hk hn
  obtain ⟨hx, hb, hml, hown, hts, hrm, hin, hK, hZ, hX, hB, hRC⟩ := id O
  obtain ⟨hd, rfl⟩ := hi
  exact lv_ior hx hb hd  (K p l e Rm s m args below meth c E Qf O H locs ls hH hS hL hk hn)
theorem r_ixor {M : MD} {d mc ms pc pc' z k n : Nat} {Q : Option Value → Hp → Nat → Prop} {L S : List Value} {h : Hp} {x y : Int32} (hi : Ins M pc .ixor 1 pc')  (K : R M d mc ms Q pc' L (.int (x ^^^ y) :: S) h z k n) : R M d mc ms Q pc L (.int y :: .int x :: S) h z k n := by
  intro p l e Rm s m args below meth c E Qf O H locs ls hH hS hL hk hn
  obtain ⟨hx, hb, hml, hown, hts, hrm, hin, hK, hZ, hX, hB, hRC⟩ := id O
  obtain ⟨hd, rfl⟩ := hi
  exact lv_ixor hx hb hd  (K p l e Rm s m args below meth c E Qf O H locs ls hH hS hL hk hn)
theorem r_ishl {M : MD} {d mc ms pc pc' z k n : Nat} {Q : Option Value → Hp → Nat → Prop} {L S : List Value} {h : Hp} {x y : Int32} (hi : Ins M pc .ishl 1 pc')  (K : R M d mc ms Q pc' L (.int (x <<< (y &&& 31)) :: S) h z k n) : R M d mc ms Q pc L (.int y :: .int x :: S) h z k n := by
  intro p l e Rm s m args below meth c E Qf O H locs ls hH hS hL hk hn
  obtain ⟨hx, hb, hml, hown, hts, hrm, hin, hK, hZ, hX, hB, hRC⟩ := id O
  obtain ⟨hd, rfl⟩ := hi
  exact lv_ishl hx hb hd  (K p l e Rm s m args below meth c E Qf O H locs ls hH hS hL hk hn)
theorem r_ishr {M : MD} {d mc ms pc pc' z k n : Nat} {Q : Option Value → Hp → Nat → Prop} {L S : List Value} {h : Hp} {x y : Int32} (hi : Ins M pc .ishr 1 pc')  (K : R M d mc ms Q pc' L (.int (x >>> (y &&& 31)) :: S) h z k n) : R M d mc ms Q pc L (.int y :: .int x :: S) h z k n := by
  intro p l e Rm s m args below meth c E Qf O H locs ls hH hS hL hk hn
  obtain ⟨hx, hb, hml, hown, hts, hrm, hin, hK, hZ, hX, hB, hRC⟩ := id O
  obtain ⟨hd, rfl⟩ := hi
  exact lv_ishr hx hb hd  (K p l e Rm s m args below meth c E Qf O H locs ls hH hS hL hk hn)
theorem r_idiv {M : MD} {d mc ms pc pc' z k n : Nat} {Q : Option Value → Hp → Nat → Prop} {L S : List Value} {h : Hp} {x y : Int32} (hi : Ins M pc .idiv 1 pc') (hne : ¬ y = 0) (K : R M d mc ms Q pc' L (.int (x / y) :: S) h z k n) : R M d mc ms Q pc L (.int y :: .int x :: S) h z k n := by
  intro p l e Rm s m args below meth c E Qf O H locs ls hH hS hL hk hn
  obtain ⟨hx, hb, hml, hown, hts, hrm, hin, hK, hZ, hX, hB, hRC⟩ := id O
  obtain ⟨hd, rfl⟩ := hi
  exact lv_idiv hx hb hd hne (K p l e Rm s m args below meth c E Qf O H locs ls hH hS hL hk hn)
theorem r_irem {M : MD} {d mc ms pc pc' z k n : Nat} {Q : Option Value → Hp → Nat → Prop} {L S : List Value} {h : Hp} {x y : Int32} (hi : Ins M pc .irem 1 pc') (hne : ¬ y = 0) (K : R M d mc ms Q pc' L (.int (x - x / y * y) :: S) h z k n) : R M d mc ms Q pc L (.int y :: .int x :: S) h z k n := by
  intro p l e Rm s m args below meth c E Qf O H locs ls hH hS hL hk hn
  obtain ⟨hx, hb, hml, hown, hts, hrm, hin, hK, hZ, hX, hB, hRC⟩ := id O
  obtain ⟨hd, rfl⟩ := hi
  exact lv_irem hx hb hd hne (K p l e Rm s m args below meth c E Qf O H locs ls hH hS hL hk hn)
theorem r_ladd {M : MD} {d mc ms pc pc' z k n : Nat} {Q : Option Value → Hp → Nat → Prop} {L S : List Value} {h : Hp} {x y : Int64} (hi : Ins M pc .ladd 1 pc')  (K : R M d mc ms Q pc' L (.long (x + y) :: S) h z k n) : R M d mc ms Q pc L (.long y :: .long x :: S) h z k n := by
  intro p l e Rm s m args below meth c E Qf O H locs ls hH hS hL hk hn
  obtain ⟨hx, hb, hml, hown, hts, hrm, hin, hK, hZ, hX, hB, hRC⟩ := id O
  obtain ⟨hd, rfl⟩ := hi
  exact lv_ladd hx hb hd  (K p l e Rm s m args below meth c E Qf O H locs ls hH hS hL hk hn)
theorem r_lsub {M : MD} {d mc ms pc pc' z k n : Nat} {Q : Option Value → Hp → Nat → Prop} {L S : List Value} {h : Hp} {x y : Int64} (hi : Ins M pc .lsub 1 pc')  (K : R M d mc ms Q pc' L (.long (x - y) :: S) h z k n) : R M d mc ms Q pc L (.long y :: .long x :: S) h z k n := by
  intro p l e Rm s m args below meth c E Qf O H locs ls hH hS hL hk hn
  obtain ⟨hx, hb, hml, hown, hts, hrm, hin, hK, hZ, hX, hB, hRC⟩ := id O
  obtain ⟨hd, rfl⟩ := hi
  exact lv_lsub hx hb hd  (K p l e Rm s m args below meth c E Qf O H locs ls hH hS hL hk hn)
theorem r_lmul {M : MD} {d mc ms pc pc' z k n : Nat} {Q : Option Value → Hp → Nat → Prop} {L S : List Value} {h : Hp} {x y : Int64} (hi : Ins M pc .lmul 1 pc')  (K : R M d mc ms Q pc' L (.long (x * y) :: S) h z k n) : R M d mc ms Q pc L (.long y :: .long x :: S) h z k n := by
  intro p l e Rm s m args below meth c E Qf O H locs ls hH hS hL hk hn
  obtain ⟨hx, hb, hml, hown, hts, hrm, hin, hK, hZ, hX, hB, hRC⟩ := id O
  obtain ⟨hd, rfl⟩ := hi
  exact lv_lmul hx hb hd  (K p l e Rm s m args below meth c E Qf O H locs ls hH hS hL hk hn)
theorem r_land {M : MD} {d mc ms pc pc' z k n : Nat} {Q : Option Value → Hp → Nat → Prop} {L S : List Value} {h : Hp} {x y : Int64} (hi : Ins M pc .land 1 pc')  (K : R M d mc ms Q pc' L (.long (x &&& y) :: S) h z k n) : R M d mc ms Q pc L (.long y :: .long x :: S) h z k n := by
  intro p l e Rm s m args below meth c E Qf O H locs ls hH hS hL hk hn
  obtain ⟨hx, hb, hml, hown, hts, hrm, hin, hK, hZ, hX, hB, hRC⟩ := id O
  obtain ⟨hd, rfl⟩ := hi
  exact lv_land hx hb hd  (K p l e Rm s m args below meth c E Qf O H locs ls hH hS hL hk hn)
theorem r_lor {M : MD} {d mc ms pc pc' z k n : Nat} {Q : Option Value → Hp → Nat → Prop} {L S : List Value} {h : Hp} {x y : Int64} (hi : Ins M pc .lor 1 pc')  (K : R M d mc ms Q pc' L (.long (x ||| y) :: S) h z k n) : R M d mc ms Q pc L (.long y :: .long x :: S) h z k n := by
  intro p l e Rm s m args below meth c E Qf O H locs ls hH hS hL hk hn
  obtain ⟨hx, hb, hml, hown, hts, hrm, hin, hK, hZ, hX, hB, hRC⟩ := id O
  obtain ⟨hd, rfl⟩ := hi
  exact lv_lor hx hb hd  (K p l e Rm s m args below meth c E Qf O H locs ls hH hS hL hk hn)
theorem r_lxor {M : MD} {d mc ms pc pc' z k n : Nat} {Q : Option Value → Hp → Nat → Prop} {L S : List Value} {h : Hp} {x y : Int64} (hi : Ins M pc .lxor 1 pc')  (K : R M d mc ms Q pc' L (.long (x ^^^ y) :: S) h z k n) : R M d mc ms Q pc L (.long y :: .long x :: S) h z k n := by
  intro p l e Rm s m args below meth c E Qf O H locs ls hH hS hL hk hn
  obtain ⟨hx, hb, hml, hown, hts, hrm, hin, hK, hZ, hX, hB, hRC⟩ := id O
  obtain ⟨hd, rfl⟩ := hi
  exact lv_lxor hx hb hd  (K p l e Rm s m args below meth c E Qf O H locs ls hH hS hL hk hn)
theorem r_ldiv {M : MD} {d mc ms pc pc' z k n : Nat} {Q : Option Value → Hp → Nat → Prop} {L S : List Value} {h : Hp} {x y : Int64} (hi : Ins M pc .ldiv 1 pc') (hne : ¬ y = 0) (K : R M d mc ms Q pc' L (.long (x / y) :: S) h z k n) : R M d mc ms Q pc L (.long y :: .long x :: S) h z k n := by
  intro p l e Rm s m args below meth c E Qf O H locs ls hH hS hL hk hn
  obtain ⟨hx, hb, hml, hown, hts, hrm, hin, hK, hZ, hX, hB, hRC⟩ := id O
  obtain ⟨hd, rfl⟩ := hi
  exact lv_ldiv hx hb hd hne (K p l e Rm s m args below meth c E Qf O H locs ls hH hS hL hk hn)
theorem r_lrem {M : MD} {d mc ms pc pc' z k n : Nat} {Q : Option Value → Hp → Nat → Prop} {L S : List Value} {h : Hp} {x y : Int64} (hi : Ins M pc .lrem 1 pc') (hne : ¬ y = 0) (K : R M d mc ms Q pc' L (.long (x - x / y * y) :: S) h z k n) : R M d mc ms Q pc L (.long y :: .long x :: S) h z k n := by
  intro p l e Rm s m args below meth c E Qf O H locs ls hH hS hL hk hn
  obtain ⟨hx, hb, hml, hown, hts, hrm, hin, hK, hZ, hX, hB, hRC⟩ := id O
  obtain ⟨hd, rfl⟩ := hi
  exact lv_lrem hx hb hd hne (K p l e Rm s m args below meth c E Qf O H locs ls hH hS hL hk hn)
theorem r_lcmp {M : MD} {d mc ms pc pc' z k n : Nat} {Q : Option Value → Hp → Nat → Prop} {L S : List Value} {h : Hp} {x y : Int64} (hi : Ins M pc .lcmp 1 pc')  (K : R M d mc ms Q pc' L (.int (lg_cmp x y) :: S) h z k n) : R M d mc ms Q pc L (.long y :: .long x :: S) h z k n := by
  intro p l e Rm s m args below meth c E Qf O H locs ls hH hS hL hk hn
  obtain ⟨hx, hb, hml, hown, hts, hrm, hin, hK, hZ, hX, hB, hRC⟩ := id O
  obtain ⟨hd, rfl⟩ := hi
  exact W.lcmp hx hb hd  (K p l e Rm s m args below meth c E Qf O H locs ls hH hS hL hk hn)
theorem r_i2l {M : MD} {d mc ms pc pc' z k n : Nat} {Q : Option Value → Hp → Nat → Prop} {L S : List Value} {h : Hp} {x : Int32} (hi : Ins M pc .i2l 1 pc')  (K : R M d mc ms Q pc' L (.long x.toInt64 :: S) h z k n) : R M d mc ms Q pc L (.int x :: S) h z k n := by
  intro p l e Rm s m args below meth c E Qf O H locs ls hH hS hL hk hn
  obtain ⟨hx, hb, hml, hown, hts, hrm, hin, hK, hZ, hX, hB, hRC⟩ := id O
  obtain ⟨hd, rfl⟩ := hi
  exact lv_i2l hx hb hd rfl (K p l e Rm s m args below meth c E Qf O H locs ls hH hS hL hk hn)
theorem r_l2i {M : MD} {d mc ms pc pc' z k n : Nat} {Q : Option Value → Hp → Nat → Prop} {L S : List Value} {h : Hp} {x : Int64} (hi : Ins M pc .l2i 1 pc')  (K : R M d mc ms Q pc' L (.int x.toInt32 :: S) h z k n) : R M d mc ms Q pc L (.long x :: S) h z k n := by
  intro p l e Rm s m args below meth c E Qf O H locs ls hH hS hL hk hn
  obtain ⟨hx, hb, hml, hown, hts, hrm, hin, hK, hZ, hX, hB, hRC⟩ := id O
  obtain ⟨hd, rfl⟩ := hi
  exact lv_l2i hx hb hd rfl (K p l e Rm s m args below meth c E Qf O H locs ls hH hS hL hk hn)
theorem r_ineg {M : MD} {d mc ms pc pc' z k n : Nat} {Q : Option Value → Hp → Nat → Prop} {L S : List Value} {h : Hp} {x : Int32} (hi : Ins M pc .ineg 1 pc')  (K : R M d mc ms Q pc' L (.int (-x) :: S) h z k n) : R M d mc ms Q pc L (.int x :: S) h z k n := by
  intro p l e Rm s m args below meth c E Qf O H locs ls hH hS hL hk hn
  obtain ⟨hx, hb, hml, hown, hts, hrm, hin, hK, hZ, hX, hB, hRC⟩ := id O
  obtain ⟨hd, rfl⟩ := hi
  exact lv_ineg hx hb hd  (K p l e Rm s m args below meth c E Qf O H locs ls hH hS hL hk hn)
theorem r_lushr {M : MD} {d mc ms pc pc' z k n : Nat} {Q : Option Value → Hp → Nat → Prop} {L S : List Value} {h : Hp} {x : Int64} {y : Int32} (hi : Ins M pc .lushr 1 pc')  (K : R M d mc ms Q pc' L (.long ((x.toUInt64 >>> (y.toInt64.toUInt64 &&& Int64.toUInt64 63)).toInt64) :: S) h z k n) : R M d mc ms Q pc L (.int y :: .long x :: S) h z k n := by
  intro p l e Rm s m args below meth c E Qf O H locs ls hH hS hL hk hn
  obtain ⟨hx, hb, hml, hown, hts, hrm, hin, hK, hZ, hX, hB, hRC⟩ := id O
  obtain ⟨hd, rfl⟩ := hi
  exact lv_lushr hx hb hd rfl (K p l e Rm s m args below meth c E Qf O H locs ls hH hS hL hk hn)
theorem r_lshl {M : MD} {d mc ms pc pc' z k n : Nat} {Q : Option Value → Hp → Nat → Prop} {L S : List Value} {h : Hp} {x : Int64} {y : Int32} (hi : Ins M pc .lshl 1 pc')  (K : R M d mc ms Q pc' L (.long (x <<< (y.toInt64 &&& 63)) :: S) h z k n) : R M d mc ms Q pc L (.int y :: .long x :: S) h z k n := by
  intro p l e Rm s m args below meth c E Qf O H locs ls hH hS hL hk hn
  obtain ⟨hx, hb, hml, hown, hts, hrm, hin, hK, hZ, hX, hB, hRC⟩ := id O
  obtain ⟨hd, rfl⟩ := hi
  exact lv_lshl hx hb hd rfl (K p l e Rm s m args below meth c E Qf O H locs ls hH hS hL hk hn)
theorem r_lshr {M : MD} {d mc ms pc pc' z k n : Nat} {Q : Option Value → Hp → Nat → Prop} {L S : List Value} {h : Hp} {x : Int64} {y : Int32} (hi : Ins M pc .lshr 1 pc')  (K : R M d mc ms Q pc' L (.long (x >>> (y.toInt64 &&& 63)) :: S) h z k n) : R M d mc ms Q pc L (.int y :: .long x :: S) h z k n := by
  intro p l e Rm s m args below meth c E Qf O H locs ls hH hS hL hk hn
  obtain ⟨hx, hb, hml, hown, hts, hrm, hin, hK, hZ, hX, hB, hRC⟩ := id O
  obtain ⟨hd, rfl⟩ := hi
  exact lv_lshr hx hb hd rfl (K p l e Rm s m args below meth c E Qf O H locs ls hH hS hL hk hn)
theorem r_iconst {M : MD} {d mc ms pc pc' z k n : Nat} {Q : Option Value → Hp → Nat → Prop} {L S : List Value} {h : Hp} {w : Int} {v : Int32} (hi : Ins M pc (.iconst w) 1 pc') (hv : Int32.ofInt w = v) (K : R M d mc ms Q pc' L (.int v :: S) h z k n) : R M d mc ms Q pc L S h z k n := by
  intro p l e Rm s m args below meth c E Qf O H locs ls hH hS hL hk hn
  obtain ⟨hx, hb, hml, hown, hts, hrm, hin, hK, hZ, hX, hB, hRC⟩ := id O
  obtain ⟨hd, rfl⟩ := hi
  exact lv_iconst hx hb hd hv (K p l e Rm s m args below meth c E Qf O H locs ls hH hS hL hk hn)
theorem r_bipush {M : MD} {d mc ms pc pc' z k n : Nat} {Q : Option Value → Hp → Nat → Prop} {L S : List Value} {h : Hp} {w : Int} {v : Int32} (hi : Ins M pc (.bipush w) 2 pc') (hv : (Int8.ofInt w).toInt32 = v) (K : R M d mc ms Q pc' L (.int v :: S) h z k n) : R M d mc ms Q pc L S h z k n := by
  intro p l e Rm s m args below meth c E Qf O H locs ls hH hS hL hk hn
  obtain ⟨hx, hb, hml, hown, hts, hrm, hin, hK, hZ, hX, hB, hRC⟩ := id O
  obtain ⟨hd, rfl⟩ := hi
  exact lv_bipush hx hb hd hv (K p l e Rm s m args below meth c E Qf O H locs ls hH hS hL hk hn)
theorem r_sipush {M : MD} {d mc ms pc pc' z k n : Nat} {Q : Option Value → Hp → Nat → Prop} {L S : List Value} {h : Hp} {w : Int} {v : Int32} (hi : Ins M pc (.sipush w) 3 pc') (hv : (Int16.ofInt w).toInt32 = v) (K : R M d mc ms Q pc' L (.int v :: S) h z k n) : R M d mc ms Q pc L S h z k n := by
  intro p l e Rm s m args below meth c E Qf O H locs ls hH hS hL hk hn
  obtain ⟨hx, hb, hml, hown, hts, hrm, hin, hK, hZ, hX, hB, hRC⟩ := id O
  obtain ⟨hd, rfl⟩ := hi
  exact lv_sipush hx hb hd hv (K p l e Rm s m args below meth c E Qf O H locs ls hH hS hL hk hn)
theorem r_lconst {M : MD} {d mc ms pc pc' z k n : Nat} {Q : Option Value → Hp → Nat → Prop} {L S : List Value} {h : Hp} {w : Fin 2} {v : Int64} (hi : Ins M pc (.lconst w) 1 pc') (hv : Int64.ofNat (w : Nat) = v) (K : R M d mc ms Q pc' L (.long v :: S) h z k n) : R M d mc ms Q pc L S h z k n := by
  intro p l e Rm s m args below meth c E Qf O H locs ls hH hS hL hk hn
  obtain ⟨hx, hb, hml, hown, hts, hrm, hin, hK, hZ, hX, hB, hRC⟩ := id O
  obtain ⟨hd, rfl⟩ := hi
  exact lv_lconst hx hb hd hv (K p l e Rm s m args below meth c E Qf O H locs ls hH hS hL hk hn)
theorem r_dup {M : MD} {d mc ms pc pc' z k n : Nat} {Q : Option Value → Hp → Nat → Prop} {L S : List Value} {h : Hp} {a : Value} (hi : Ins M pc .dup 1 pc') (hc : a.category = 1) (K : R M d mc ms Q pc' L (a :: a :: S) h z k n) : R M d mc ms Q pc L (a :: S) h z k n := by
  intro p l e Rm s m args below meth c E Qf O H locs ls hH hS hL hk hn
  obtain ⟨hx, hb, hml, hown, hts, hrm, hin, hK, hZ, hX, hB, hRC⟩ := id O
  obtain ⟨hd, rfl⟩ := hi
  exact lv_dup hx hb hd (by rw [sh_cat]; exact hc) (K p l e Rm s m args below meth c E Qf O H locs ls hH hS hL hk hn)
theorem r_dup2 {M : MD} {d mc ms pc pc' z k n : Nat} {Q : Option Value → Hp → Nat → Prop} {L S : List Value} {h : Hp} {a b : Value} (hi : Ins M pc .dup2 1 pc') (hc : a.category = 1) (hc2 : b.category = 1) (K : R M d mc ms Q pc' L (a :: b :: a :: b :: S) h z k n) : R M d mc ms Q pc L (a :: b :: S) h z k n := by
  intro p l e Rm s m args below meth c E Qf O H locs ls hH hS hL hk hn
  obtain ⟨hx, hb, hml, hown, hts, hrm, hin, hK, hZ, hX, hB, hRC⟩ := id O
  obtain ⟨hd, rfl⟩ := hi
  exact lv_dup2_11 hx hb hd (by rw [sh_cat]; exact hc) (by rw [sh_cat]; exact hc2) (K p l e Rm s m args below meth c E Qf O H locs ls hH hS hL hk hn)
theorem r_pop {M : MD} {d mc ms pc pc' z k n : Nat} {Q : Option Value → Hp → Nat → Prop} {L S : List Value} {h : Hp} {a : Value} (hi : Ins M pc .pop 1 pc') (hc : a.category = 1) (K : R M d mc ms Q pc' L S h z k n) : R M d mc ms Q pc L (a :: S) h z k n := by
  intro p l e Rm s m args below meth c E Qf O H locs ls hH hS hL hk hn
  obtain ⟨hx, hb, hml, hown, hts, hrm, hin, hK, hZ, hX, hB, hRC⟩ := id O
  obtain ⟨hd, rfl⟩ := hi
  exact lv_pop hx hb hd (by rw [sh_cat]; exact hc) (K p l e Rm s m args below meth c E Qf O H locs ls hH hS hL hk hn)
theorem r_ldc {M : MD} {d mc ms pc pc' z k n : Nat} {Q : Option Value → Hp → Nat → Prop} {L S : List Value} {h : Hp} {idx : Nat} {v : Int32} (hi : Ins M pc (.ldc idx) 2 pc') (hw : Cond.constant M.1.cls idx v ∈ GW) (K : R M d mc ms Q pc' L (.int v :: S) h z k n) : R M d mc ms Q pc L S h z k n := by
  intro p l e Rm s m args below meth c E Qf O H locs ls hH hS hL hk hn
  obtain ⟨hx, hb, hml, hown, hts, hrm, hin, hK, hZ, hX, hB, hRC⟩ := id O
  obtain ⟨hd, rfl⟩ := hi
  exact lv_ldc hx hb hown (hts _ hw) hd (K p l e Rm s m args below meth c E Qf O H locs ls hH hS hL hk hn)
theorem r_ldc2 {M : MD} {d mc ms pc pc' z k n : Nat} {Q : Option Value → Hp → Nat → Prop} {L S : List Value} {h : Hp} {idx : Nat} {v : Int64} (hi : Ins M pc (.ldc2_w idx) 3 pc') (hw : Cond.constantLong M.1.cls idx v ∈ GW) (K : R M d mc ms Q pc' L (.long v :: S) h z k n) : R M d mc ms Q pc L S h z k n := by
  intro p l e Rm s m args below meth c E Qf O H locs ls hH hS hL hk hn
  obtain ⟨hx, hb, hml, hown, hts, hrm, hin, hK, hZ, hX, hB, hRC⟩ := id O
  obtain ⟨hd, rfl⟩ := hi
  exact lv_ldc2 hx hb hown (hts _ hw) hd (K p l e Rm s m args below meth c E Qf O H locs ls hH hS hL hk hn)
def LdI (M : MD) (pc i pc' : Nat) : Prop := Ins M pc (.iload i) 2 pc' ∨ ∃ k : Fin 4, (k : Nat) = i ∧ Ins M pc (.iload_n k) 1 pc'
theorem r_iload {M : MD} {d mc ms pc pc' z k n : Nat} {Q : Option Value → Hp → Nat → Prop} {L S : List Value} {h : Hp} {i : Nat} {x : Int32} (hi : LdI M pc i pc') (hl : L[i]? = some (.int x)) (K : R M d mc ms Q pc' L (.int x :: S) h z k n) : R M d mc ms Q pc L S h z k n := by
  intro p l e Rm s m args below meth c E Qf O H locs ls hH hS hL hk hn
  obtain ⟨hx, hb, hml, hown, hts, hrm, hin, hK, hZ, hX, hB, hRC⟩ := id O
  have g := hL.at hl (fun q => by cases q)
  rcases hi with ⟨hd, rfl⟩ | ⟨w, hw, hd, rfl⟩
  · exact lv_iload hx hb hd g (K p l e Rm s m args below meth c E Qf O H locs ls hH hS hL hk hn)
  · exact lv_iload_n hx hb hd hw g (K p l e Rm s m args below meth c E Qf O H locs ls hH hS hL hk hn)
def LdL (M : MD) (pc i pc' : Nat) : Prop := Ins M pc (.lload i) 2 pc' ∨ ∃ k : Fin 4, (k : Nat) = i ∧ Ins M pc (.lload_n k) 1 pc'
theorem r_lload {M : MD} {d mc ms pc pc' z k n : Nat} {Q : Option Value → Hp → Nat → Prop} {L S : List Value} {h : Hp} {i : Nat} {x : Int64} (hi : LdL M pc i pc') (hl : L[i]? = some (.long x)) (K : R M d mc ms Q pc' L (.long x :: S) h z k n) : R M d mc ms Q pc L S h z k n := by
  intro p l e Rm s m args below meth c E Qf O H locs ls hH hS hL hk hn
  obtain ⟨hx, hb, hml, hown, hts, hrm, hin, hK, hZ, hX, hB, hRC⟩ := id O
  have g := hL.at hl (fun q => by cases q)
  rcases hi with ⟨hd, rfl⟩ | ⟨w, hw, hd, rfl⟩
  · exact lv_lload hx hb hd g (K p l e Rm s m args below meth c E Qf O H locs ls hH hS hL hk hn)
  · exact lv_lload_n hx hb hd hw g (K p l e Rm s m args below meth c E Qf O H locs ls hH hS hL hk hn)
def LdA (M : MD) (pc i pc' : Nat) : Prop := Ins M pc (.aload i) 2 pc' ∨ ∃ k : Fin 4, (k : Nat) = i ∧ Ins M pc (.aload_n k) 1 pc'
theorem r_aload {M : MD} {d mc ms pc pc' z k n : Nat} {Q : Option Value → Hp → Nat → Prop} {L S : List Value} {h : Hp} {i : Nat} {x : Nat} (hi : LdA M pc i pc') (hl : L[i]? = some (.ref x)) (K : R M d mc ms Q pc' L (.ref x :: S) h z k n) : R M d mc ms Q pc L S h z k n := by
  intro p l e Rm s m args below meth c E Qf O H locs ls hH hS hL hk hn
  obtain ⟨hx, hb, hml, hown, hts, hrm, hin, hK, hZ, hX, hB, hRC⟩ := id O
  have g := hL.at hl (fun q => by cases q)
  rcases hi with ⟨hd, rfl⟩ | ⟨w, hw, hd, rfl⟩
  · exact lv_aload hx hb hd g (K p l e Rm s m args below meth c E Qf O H locs ls hH hS hL hk hn)
  · exact lv_aload_n hx hb hd hw g (K p l e Rm s m args below meth c E Qf O H locs ls hH hS hL hk hn)
def StI (M : MD) (pc i pc' : Nat) : Prop := (Ins M pc (.istore i) 2 pc' ∨ ∃ k : Fin 4, (k : Nat) = i ∧ Ins M pc (.istore_n k) 1 pc') ∧ i + 1 ≤ M.2.2.1
theorem r_istoreG {M : MD} {d mc ms pc pc' z k n : Nat} {Q : Option Value → Hp → Nat → Prop} {L S : List Value} {h : Hp} {i : Nat} {x : Int32} {L' : List Value} (hi : StI M pc i pc') (hl : stL1 i (.int x) L = L') (K : R M d mc ms Q pc' L' S h z k n) : R M d mc ms Q pc L (.int x :: S) h z k n := by
  intro p l e Rm s m args below meth c E Qf O H locs ls hH hS hL hk hn
  obtain ⟨hx, hb, hml, hown, hts, hrm, hin, hK, hZ, hX, hB, hRC⟩ := id O
  subst hl
  obtain ⟨hi, hn2⟩ := hi
  rcases hi with ⟨hd, rfl⟩ | ⟨w, hw, hd, rfl⟩
  · exact lv_istore hx hb hd hL (by omega) rfl (fun ls' hL' => K p l e Rm s m args below meth c E Qf O H locs ls' hH hS (lR.st1 hL') hk hn)
  · exact lv_istore_n hx hb hd hw hL (by omega) rfl (fun ls' hL' => K p l e Rm s m args below meth c E Qf O H locs ls' hH hS (lR.st1 hL') hk hn)
def StL (M : MD) (pc i pc' : Nat) : Prop := (Ins M pc (.lstore i) 2 pc' ∨ ∃ k : Fin 4, (k : Nat) = i ∧ Ins M pc (.lstore_n k) 1 pc') ∧ i + 2 ≤ M.2.2.1
theorem r_lstoreG {M : MD} {d mc ms pc pc' z k n : Nat} {Q : Option Value → Hp → Nat → Prop} {L S : List Value} {h : Hp} {i : Nat} {x : Int64} {L' : List Value} (hi : StL M pc i pc') (hl : stL2 i (.long x) L = L') (K : R M d mc ms Q pc' L' S h z k n) : R M d mc ms Q pc L (.long x :: S) h z k n := by
  intro p l e Rm s m args below meth c E Qf O H locs ls hH hS hL hk hn
  obtain ⟨hx, hb, hml, hown, hts, hrm, hin, hK, hZ, hX, hB, hRC⟩ := id O
  subst hl
  obtain ⟨hi, hn2⟩ := hi
  rcases hi with ⟨hd, rfl⟩ | ⟨w, hw, hd, rfl⟩
  · exact lv_lstore hx hb hd hL (by omega) rfl (fun ls' hL' => K p l e Rm s m args below meth c E Qf O H locs ls' hH hS (lR.st2 hL') hk hn)
  · exact lv_lstore_n hx hb hd hw hL (by omega) rfl (fun ls' hL' => K p l e Rm s m args below meth c E Qf O H locs ls' hH hS (lR.st2 hL') hk hn)
def StA (M : MD) (pc i pc' : Nat) : Prop := (Ins M pc (.astore i) 2 pc' ∨ ∃ k : Fin 4, (k : Nat) = i ∧ Ins M pc (.astore_n k) 1 pc') ∧ i + 1 ≤ M.2.2.1
theorem r_astoreG {M : MD} {d mc ms pc pc' z k n : Nat} {Q : Option Value → Hp → Nat → Prop} {L S : List Value} {h : Hp} {i : Nat} {x : Nat} {L' : List Value} (hi : StA M pc i pc') (hl : stL1 i (.ref x) L = L') (K : R M d mc ms Q pc' L' S h z k n) : R M d mc ms Q pc L (.ref x :: S) h z k n := by
  intro p l e Rm s m args below meth c E Qf O H locs ls hH hS hL hk hn
  obtain ⟨hx, hb, hml, hown, hts, hrm, hin, hK, hZ, hX, hB, hRC⟩ := id O
  subst hl
  obtain ⟨hi, hn2⟩ := hi
  rcases hi with ⟨hd, rfl⟩ | ⟨w, hw, hd, rfl⟩
  · exact lv_astore hx hb hd hL (by omega) rfl (fun ls' hL' => K p l e Rm s m args below meth c E Qf O H locs ls' hH hS (lR.st1 hL') hk hn)
  · exact lv_astore_n hx hb hd hw hL (by omega) rfl (fun ls' hL' => K p l e Rm s m args below meth c E Qf O H locs ls' hH hS (lR.st1 hL') hk hn)
def Inc (M : MD) (pc i : Nat) (w : Int) (pc' : Nat) : Prop := Ins M pc (.iinc i w) 3 pc' ∧ i + 1 ≤ M.2.2.1
theorem r_iincG {M : MD} {d mc ms pc pc' z k n : Nat} {Q : Option Value → Hp → Nat → Prop} {L S : List Value} {h : Hp} {i : Nat} {w : Int} {x v : Int32} {L' : List Value} (hi : Inc M pc i w pc') (hl0 : L[i]? = some (.int x)) (hv : x + Int32.ofInt w = v) (hl : stL1 i (.int v) L = L') (K : R M d mc ms Q pc' L' S h z k n) : R M d mc ms Q pc L S h z k n := by
  intro p l e Rm s m args below meth c E Qf O H locs ls hH hS hL hk hn
  obtain ⟨hx, hb, hml, hown, hts, hrm, hin, hK, hZ, hX, hB, hRC⟩ := id O
  subst hl
  obtain ⟨⟨hd, rfl⟩, hn2⟩ := hi
  obtain ⟨kk, hkk⟩ := List.getElem?_of_mem ((tol_mem (E := E) (q := (i, .int x)) L 0).mpr ⟨i, .int x, by simp, hl0, (fun q => by cases q), rfl⟩)
  exact lv_iinc hx hb hd hL hkk hv (by omega) rfl (fun ls' hL' => K p l e Rm s m args below meth c E Qf O H locs ls' hH hS (lR.st1 (v := .int v) hL') hk hn)
theorem r_istore_0 {M : MD} {d mc ms pc pc' z k n : Nat} {Q : Option Value → Hp → Nat → Prop} {S : List Value} {h : Hp} {a0 : Value} {r : List Value} {x : Int32} (hi : StI M pc 0 pc') (K : R M d mc ms Q pc' (.int x :: r) S h z k n) : R M d mc ms Q pc (a0 :: r) (.int x :: S) h z k n := r_istoreG hi (by rfl) K
theorem r_astore_0 {M : MD} {d mc ms pc pc' z k n : Nat} {Q : Option Value → Hp → Nat → Prop} {S : List Value} {h : Hp} {a0 : Value} {r : List Value} {x : Nat} (hi : StA M pc 0 pc') (K : R M d mc ms Q pc' (.ref x :: r) S h z k n) : R M d mc ms Q pc (a0 :: r) (.ref x :: S) h z k n := r_astoreG hi (by rfl) K
theorem r_iinc_0 {M : MD} {d mc ms pc pc' z k n : Nat} {Q : Option Value → Hp → Nat → Prop} {S : List Value} {h : Hp} {r : List Value} {w : Int} {x v : Int32} (hi : Inc M pc 0 w pc') (hv : x + Int32.ofInt w = v) (K : R M d mc ms Q pc' (.int v :: r) S h z k n) : R M d mc ms Q pc (.int x :: r) S h z k n := r_iincG hi rfl hv (by rfl) K
theorem r_lstore_0 {M : MD} {d mc ms pc pc' z k n : Nat} {Q : Option Value → Hp → Nat → Prop} {S : List Value} {h : Hp} { b c : Value} {r : List Value} {x : Int64} (hi : StL M pc 0 pc') (K : R M d mc ms Q pc' (.long x :: .null :: r) S h z k n) : R M d mc ms Q pc (b :: c :: r) (.long x :: S) h z k n := r_lstoreG hi (by rfl) K
theorem r_istore_1 {M : MD} {d mc ms pc pc' z k n : Nat} {Q : Option Value → Hp → Nat → Prop} {S : List Value} {h : Hp} {a0 a1 : Value} {r : List Value} {x : Int32} (hi : StI M pc 1 pc') (hc : clr a0 = a0) (K : R M d mc ms Q pc' (a0 :: .int x :: r) S h z k n) : R M d mc ms Q pc (a0 :: a1 :: r) (.int x :: S) h z k n := r_istoreG hi (by simp only [stL1, hc]) K
theorem r_astore_1 {M : MD} {d mc ms pc pc' z k n : Nat} {Q : Option Value → Hp → Nat → Prop} {S : List Value} {h : Hp} {a0 a1 : Value} {r : List Value} {x : Nat} (hi : StA M pc 1 pc') (hc : clr a0 = a0) (K : R M d mc ms Q pc' (a0 :: .ref x :: r) S h z k n) : R M d mc ms Q pc (a0 :: a1 :: r) (.ref x :: S) h z k n := r_astoreG hi (by simp only [stL1, hc]) K
theorem r_iinc_1 {M : MD} {d mc ms pc pc' z k n : Nat} {Q : Option Value → Hp → Nat → Prop} {S : List Value} {h : Hp} {a0 : Value} {r : List Value} {w : Int} {x v : Int32} (hi : Inc M pc 1 w pc') (hv : x + Int32.ofInt w = v) (hc : clr a0 = a0) (K : R M d mc ms Q pc' (a0 :: .int v :: r) S h z k n) : R M d mc ms Q pc (a0 :: .int x :: r) S h z k n := r_iincG hi rfl hv (by simp only [stL1, hc]) K
theorem r_lstore_1 {M : MD} {d mc ms pc pc' z k n : Nat} {Q : Option Value → Hp → Nat → Prop} {S : List Value} {h : Hp} {a0 b c : Value} {r : List Value} {x : Int64} (hi : StL M pc 1 pc') (hc : clr a0 = a0) (K : R M d mc ms Q pc' (a0 :: .long x :: .null :: r) S h z k n) : R M d mc ms Q pc (a0 :: b :: c :: r) (.long x :: S) h z k n := r_lstoreG hi (by simp only [stL2, hc]) K
theorem r_istore_2 {M : MD} {d mc ms pc pc' z k n : Nat} {Q : Option Value → Hp → Nat → Prop} {S : List Value} {h : Hp} {a0 a1 a2 : Value} {r : List Value} {x : Int32} (hi : StI M pc 2 pc') (hc : clr a1 = a1) (K : R M d mc ms Q pc' (a0 :: a1 :: .int x :: r) S h z k n) : R M d mc ms Q pc (a0 :: a1 :: a2 :: r) (.int x :: S) h z k n := r_istoreG hi (by simp only [stL1, hc]) K
theorem r_astore_2 {M : MD} {d mc ms pc pc' z k n : Nat} {Q : Option Value → Hp → Nat → Prop} {S : List Value} {h : Hp} {a0 a1 a2 : Value} {r : List Value} {x : Nat} (hi : StA M pc 2 pc') (hc : clr a1 = a1) (K : R M d mc ms Q pc' (a0 :: a1 :: .ref x :: r) S h z k n) : R M d mc ms Q pc (a0 :: a1 :: a2 :: r) (.ref x :: S) h z k n := r_astoreG hi (by simp only [stL1, hc]) K
theorem r_iinc_2 {M : MD} {d mc ms pc pc' z k n : Nat} {Q : Option Value → Hp → Nat → Prop} {S : List Value} {h : Hp} {a0 a1 : Value} {r : List Value} {w : Int} {x v : Int32} (hi : Inc M pc 2 w pc') (hv : x + Int32.ofInt w = v) (hc : clr a1 = a1) (K : R M d mc ms Q pc' (a0 :: a1 :: .int v :: r) S h z k n) : R M d mc ms Q pc (a0 :: a1 :: .int x :: r) S h z k n := r_iincG hi rfl hv (by simp only [stL1, hc]) K
theorem r_lstore_2 {M : MD} {d mc ms pc pc' z k n : Nat} {Q : Option Value → Hp → Nat → Prop} {S : List Value} {h : Hp} {a0 a1 b c : Value} {r : List Value} {x : Int64} (hi : StL M pc 2 pc') (hc : clr a1 = a1) (K : R M d mc ms Q pc' (a0 :: a1 :: .long x :: .null :: r) S h z k n) : R M d mc ms Q pc (a0 :: a1 :: b :: c :: r) (.long x :: S) h z k n := r_lstoreG hi (by simp only [stL2, hc]) K
theorem r_istore_3 {M : MD} {d mc ms pc pc' z k n : Nat} {Q : Option Value → Hp → Nat → Prop} {S : List Value} {h : Hp} {a0 a1 a2 a3 : Value} {r : List Value} {x : Int32} (hi : StI M pc 3 pc') (hc : clr a2 = a2) (K : R M d mc ms Q pc' (a0 :: a1 :: a2 :: .int x :: r) S h z k n) : R M d mc ms Q pc (a0 :: a1 :: a2 :: a3 :: r) (.int x :: S) h z k n := r_istoreG hi (by simp only [stL1, hc]) K
theorem r_astore_3 {M : MD} {d mc ms pc pc' z k n : Nat} {Q : Option Value → Hp → Nat → Prop} {S : List Value} {h : Hp} {a0 a1 a2 a3 : Value} {r : List Value} {x : Nat} (hi : StA M pc 3 pc') (hc : clr a2 = a2) (K : R M d mc ms Q pc' (a0 :: a1 :: a2 :: .ref x :: r) S h z k n) : R M d mc ms Q pc (a0 :: a1 :: a2 :: a3 :: r) (.ref x :: S) h z k n := r_astoreG hi (by simp only [stL1, hc]) K
theorem r_iinc_3 {M : MD} {d mc ms pc pc' z k n : Nat} {Q : Option Value → Hp → Nat → Prop} {S : List Value} {h : Hp} {a0 a1 a2 : Value} {r : List Value} {w : Int} {x v : Int32} (hi : Inc M pc 3 w pc') (hv : x + Int32.ofInt w = v) (hc : clr a2 = a2) (K : R M d mc ms Q pc' (a0 :: a1 :: a2 :: .int v :: r) S h z k n) : R M d mc ms Q pc (a0 :: a1 :: a2 :: .int x :: r) S h z k n := r_iincG hi rfl hv (by simp only [stL1, hc]) K
theorem r_lstore_3 {M : MD} {d mc ms pc pc' z k n : Nat} {Q : Option Value → Hp → Nat → Prop} {S : List Value} {h : Hp} {a0 a1 a2 b c : Value} {r : List Value} {x : Int64} (hi : StL M pc 3 pc') (hc : clr a2 = a2) (K : R M d mc ms Q pc' (a0 :: a1 :: a2 :: .long x :: .null :: r) S h z k n) : R M d mc ms Q pc (a0 :: a1 :: a2 :: b :: c :: r) (.long x :: S) h z k n := r_lstoreG hi (by simp only [stL2, hc]) K
theorem r_istore_4 {M : MD} {d mc ms pc pc' z k n : Nat} {Q : Option Value → Hp → Nat → Prop} {S : List Value} {h : Hp} {a0 a1 a2 a3 a4 : Value} {r : List Value} {x : Int32} (hi : StI M pc 4 pc') (hc : clr a3 = a3) (K : R M d mc ms Q pc' (a0 :: a1 :: a2 :: a3 :: .int x :: r) S h z k n) : R M d mc ms Q pc (a0 :: a1 :: a2 :: a3 :: a4 :: r) (.int x :: S) h z k n := r_istoreG hi (by simp only [stL1, hc]) K
theorem r_astore_4 {M : MD} {d mc ms pc pc' z k n : Nat} {Q : Option Value → Hp → Nat → Prop} {S : List Value} {h : Hp} {a0 a1 a2 a3 a4 : Value} {r : List Value} {x : Nat} (hi : StA M pc 4 pc') (hc : clr a3 = a3) (K : R M d mc ms Q pc' (a0 :: a1 :: a2 :: a3 :: .ref x :: r) S h z k n) : R M d mc ms Q pc (a0 :: a1 :: a2 :: a3 :: a4 :: r) (.ref x :: S) h z k n := r_astoreG hi (by simp only [stL1, hc]) K
theorem r_iinc_4 {M : MD} {d mc ms pc pc' z k n : Nat} {Q : Option Value → Hp → Nat → Prop} {S : List Value} {h : Hp} {a0 a1 a2 a3 : Value} {r : List Value} {w : Int} {x v : Int32} (hi : Inc M pc 4 w pc') (hv : x + Int32.ofInt w = v) (hc : clr a3 = a3) (K : R M d mc ms Q pc' (a0 :: a1 :: a2 :: a3 :: .int v :: r) S h z k n) : R M d mc ms Q pc (a0 :: a1 :: a2 :: a3 :: .int x :: r) S h z k n := r_iincG hi rfl hv (by simp only [stL1, hc]) K
theorem r_lstore_4 {M : MD} {d mc ms pc pc' z k n : Nat} {Q : Option Value → Hp → Nat → Prop} {S : List Value} {h : Hp} {a0 a1 a2 a3 b c : Value} {r : List Value} {x : Int64} (hi : StL M pc 4 pc') (hc : clr a3 = a3) (K : R M d mc ms Q pc' (a0 :: a1 :: a2 :: a3 :: .long x :: .null :: r) S h z k n) : R M d mc ms Q pc (a0 :: a1 :: a2 :: a3 :: b :: c :: r) (.long x :: S) h z k n := r_lstoreG hi (by simp only [stL2, hc]) K
theorem r_istore_5 {M : MD} {d mc ms pc pc' z k n : Nat} {Q : Option Value → Hp → Nat → Prop} {S : List Value} {h : Hp} {a0 a1 a2 a3 a4 a5 : Value} {r : List Value} {x : Int32} (hi : StI M pc 5 pc') (hc : clr a4 = a4) (K : R M d mc ms Q pc' (a0 :: a1 :: a2 :: a3 :: a4 :: .int x :: r) S h z k n) : R M d mc ms Q pc (a0 :: a1 :: a2 :: a3 :: a4 :: a5 :: r) (.int x :: S) h z k n := r_istoreG hi (by simp only [stL1, hc]) K
theorem r_astore_5 {M : MD} {d mc ms pc pc' z k n : Nat} {Q : Option Value → Hp → Nat → Prop} {S : List Value} {h : Hp} {a0 a1 a2 a3 a4 a5 : Value} {r : List Value} {x : Nat} (hi : StA M pc 5 pc') (hc : clr a4 = a4) (K : R M d mc ms Q pc' (a0 :: a1 :: a2 :: a3 :: a4 :: .ref x :: r) S h z k n) : R M d mc ms Q pc (a0 :: a1 :: a2 :: a3 :: a4 :: a5 :: r) (.ref x :: S) h z k n := r_astoreG hi (by simp only [stL1, hc]) K
theorem r_iinc_5 {M : MD} {d mc ms pc pc' z k n : Nat} {Q : Option Value → Hp → Nat → Prop} {S : List Value} {h : Hp} {a0 a1 a2 a3 a4 : Value} {r : List Value} {w : Int} {x v : Int32} (hi : Inc M pc 5 w pc') (hv : x + Int32.ofInt w = v) (hc : clr a4 = a4) (K : R M d mc ms Q pc' (a0 :: a1 :: a2 :: a3 :: a4 :: .int v :: r) S h z k n) : R M d mc ms Q pc (a0 :: a1 :: a2 :: a3 :: a4 :: .int x :: r) S h z k n := r_iincG hi rfl hv (by simp only [stL1, hc]) K
theorem r_lstore_5 {M : MD} {d mc ms pc pc' z k n : Nat} {Q : Option Value → Hp → Nat → Prop} {S : List Value} {h : Hp} {a0 a1 a2 a3 a4 b c : Value} {r : List Value} {x : Int64} (hi : StL M pc 5 pc') (hc : clr a4 = a4) (K : R M d mc ms Q pc' (a0 :: a1 :: a2 :: a3 :: a4 :: .long x :: .null :: r) S h z k n) : R M d mc ms Q pc (a0 :: a1 :: a2 :: a3 :: a4 :: b :: c :: r) (.long x :: S) h z k n := r_lstoreG hi (by simp only [stL2, hc]) K
theorem r_istore_6 {M : MD} {d mc ms pc pc' z k n : Nat} {Q : Option Value → Hp → Nat → Prop} {S : List Value} {h : Hp} {a0 a1 a2 a3 a4 a5 a6 : Value} {r : List Value} {x : Int32} (hi : StI M pc 6 pc') (hc : clr a5 = a5) (K : R M d mc ms Q pc' (a0 :: a1 :: a2 :: a3 :: a4 :: a5 :: .int x :: r) S h z k n) : R M d mc ms Q pc (a0 :: a1 :: a2 :: a3 :: a4 :: a5 :: a6 :: r) (.int x :: S) h z k n := r_istoreG hi (by simp only [stL1, hc]) K
theorem r_astore_6 {M : MD} {d mc ms pc pc' z k n : Nat} {Q : Option Value → Hp → Nat → Prop} {S : List Value} {h : Hp} {a0 a1 a2 a3 a4 a5 a6 : Value} {r : List Value} {x : Nat} (hi : StA M pc 6 pc') (hc : clr a5 = a5) (K : R M d mc ms Q pc' (a0 :: a1 :: a2 :: a3 :: a4 :: a5 :: .ref x :: r) S h z k n) : R M d mc ms Q pc (a0 :: a1 :: a2 :: a3 :: a4 :: a5 :: a6 :: r) (.ref x :: S) h z k n := r_astoreG hi (by simp only [stL1, hc]) K
theorem r_iinc_6 {M : MD} {d mc ms pc pc' z k n : Nat} {Q : Option Value → Hp → Nat → Prop} {S : List Value} {h : Hp} {a0 a1 a2 a3 a4 a5 : Value} {r : List Value} {w : Int} {x v : Int32} (hi : Inc M pc 6 w pc') (hv : x + Int32.ofInt w = v) (hc : clr a5 = a5) (K : R M d mc ms Q pc' (a0 :: a1 :: a2 :: a3 :: a4 :: a5 :: .int v :: r) S h z k n) : R M d mc ms Q pc (a0 :: a1 :: a2 :: a3 :: a4 :: a5 :: .int x :: r) S h z k n := r_iincG hi rfl hv (by simp only [stL1, hc]) K
theorem r_lstore_6 {M : MD} {d mc ms pc pc' z k n : Nat} {Q : Option Value → Hp → Nat → Prop} {S : List Value} {h : Hp} {a0 a1 a2 a3 a4 a5 b c : Value} {r : List Value} {x : Int64} (hi : StL M pc 6 pc') (hc : clr a5 = a5) (K : R M d mc ms Q pc' (a0 :: a1 :: a2 :: a3 :: a4 :: a5 :: .long x :: .null :: r) S h z k n) : R M d mc ms Q pc (a0 :: a1 :: a2 :: a3 :: a4 :: a5 :: b :: c :: r) (.long x :: S) h z k n := r_lstoreG hi (by simp only [stL2, hc]) K
theorem r_istore_7 {M : MD} {d mc ms pc pc' z k n : Nat} {Q : Option Value → Hp → Nat → Prop} {S : List Value} {h : Hp} {a0 a1 a2 a3 a4 a5 a6 a7 : Value} {r : List Value} {x : Int32} (hi : StI M pc 7 pc') (hc : clr a6 = a6) (K : R M d mc ms Q pc' (a0 :: a1 :: a2 :: a3 :: a4 :: a5 :: a6 :: .int x :: r) S h z k n) : R M d mc ms Q pc (a0 :: a1 :: a2 :: a3 :: a4 :: a5 :: a6 :: a7 :: r) (.int x :: S) h z k n := r_istoreG hi (by simp only [stL1, hc]) K
theorem r_astore_7 {M : MD} {d mc ms pc pc' z k n : Nat} {Q : Option Value → Hp → Nat → Prop} {S : List Value} {h : Hp} {a0 a1 a2 a3 a4 a5 a6 a7 : Value} {r : List Value} {x : Nat} (hi : StA M pc 7 pc') (hc : clr a6 = a6) (K : R M d mc ms Q pc' (a0 :: a1 :: a2 :: a3 :: a4 :: a5 :: a6 :: .ref x :: r) S h z k n) : R M d mc ms Q pc (a0 :: a1 :: a2 :: a3 :: a4 :: a5 :: a6 :: a7 :: r) (.ref x :: S) h z k n := r_astoreG hi (by simp only [stL1, hc]) K
theorem r_iinc_7 {M : MD} {d mc ms pc pc' z k n : Nat} {Q : Option Value → Hp → Nat → Prop} {S : List Value} {h : Hp} {a0 a1 a2 a3 a4 a5 a6 : Value} {r : List Value} {w : Int} {x v : Int32} (hi : Inc M pc 7 w pc') (hv : x + Int32.ofInt w = v) (hc : clr a6 = a6) (K : R M d mc ms Q pc' (a0 :: a1 :: a2 :: a3 :: a4 :: a5 :: a6 :: .int v :: r) S h z k n) : R M d mc ms Q pc (a0 :: a1 :: a2 :: a3 :: a4 :: a5 :: a6 :: .int x :: r) S h z k n := r_iincG hi rfl hv (by simp only [stL1, hc]) K
theorem r_lstore_7 {M : MD} {d mc ms pc pc' z k n : Nat} {Q : Option Value → Hp → Nat → Prop} {S : List Value} {h : Hp} {a0 a1 a2 a3 a4 a5 a6 b c : Value} {r : List Value} {x : Int64} (hi : StL M pc 7 pc') (hc : clr a6 = a6) (K : R M d mc ms Q pc' (a0 :: a1 :: a2 :: a3 :: a4 :: a5 :: a6 :: .long x :: .null :: r) S h z k n) : R M d mc ms Q pc (a0 :: a1 :: a2 :: a3 :: a4 :: a5 :: a6 :: b :: c :: r) (.long x :: S) h z k n := r_lstoreG hi (by simp only [stL2, hc]) K
theorem r_istore_8 {M : MD} {d mc ms pc pc' z k n : Nat} {Q : Option Value → Hp → Nat → Prop} {S : List Value} {h : Hp} {a0 a1 a2 a3 a4 a5 a6 a7 a8 : Value} {r : List Value} {x : Int32} (hi : StI M pc 8 pc') (hc : clr a7 = a7) (K : R M d mc ms Q pc' (a0 :: a1 :: a2 :: a3 :: a4 :: a5 :: a6 :: a7 :: .int x :: r) S h z k n) : R M d mc ms Q pc (a0 :: a1 :: a2 :: a3 :: a4 :: a5 :: a6 :: a7 :: a8 :: r) (.int x :: S) h z k n := r_istoreG hi (by simp only [stL1, hc]) K
theorem r_astore_8 {M : MD} {d mc ms pc pc' z k n : Nat} {Q : Option Value → Hp → Nat → Prop} {S : List Value} {h : Hp} {a0 a1 a2 a3 a4 a5 a6 a7 a8 : Value} {r : List Value} {x : Nat} (hi : StA M pc 8 pc') (hc : clr a7 = a7) (K : R M d mc ms Q pc' (a0 :: a1 :: a2 :: a3 :: a4 :: a5 :: a6 :: a7 :: .ref x :: r) S h z k n) : R M d mc ms Q pc (a0 :: a1 :: a2 :: a3 :: a4 :: a5 :: a6 :: a7 :: a8 :: r) (.ref x :: S) h z k n := r_astoreG hi (by simp only [stL1, hc]) K
theorem r_iinc_8 {M : MD} {d mc ms pc pc' z k n : Nat} {Q : Option Value → Hp → Nat → Prop} {S : List Value} {h : Hp} {a0 a1 a2 a3 a4 a5 a6 a7 : Value} {r : List Value} {w : Int} {x v : Int32} (hi : Inc M pc 8 w pc') (hv : x + Int32.ofInt w = v) (hc : clr a7 = a7) (K : R M d mc ms Q pc' (a0 :: a1 :: a2 :: a3 :: a4 :: a5 :: a6 :: a7 :: .int v :: r) S h z k n) : R M d mc ms Q pc (a0 :: a1 :: a2 :: a3 :: a4 :: a5 :: a6 :: a7 :: .int x :: r) S h z k n := r_iincG hi rfl hv (by simp only [stL1, hc]) K
theorem r_lstore_8 {M : MD} {d mc ms pc pc' z k n : Nat} {Q : Option Value → Hp → Nat → Prop} {S : List Value} {h : Hp} {a0 a1 a2 a3 a4 a5 a6 a7 b c : Value} {r : List Value} {x : Int64} (hi : StL M pc 8 pc') (hc : clr a7 = a7) (K : R M d mc ms Q pc' (a0 :: a1 :: a2 :: a3 :: a4 :: a5 :: a6 :: a7 :: .long x :: .null :: r) S h z k n) : R M d mc ms Q pc (a0 :: a1 :: a2 :: a3 :: a4 :: a5 :: a6 :: a7 :: b :: c :: r) (.long x :: S) h z k n := r_lstoreG hi (by simp only [stL2, hc]) K
theorem r_istore_9 {M : MD} {d mc ms pc pc' z k n : Nat} {Q : Option Value → Hp → Nat → Prop} {S : List Value} {h : Hp} {a0 a1 a2 a3 a4 a5 a6 a7 a8 a9 : Value} {r : List Value} {x : Int32} (hi : StI M pc 9 pc') (hc : clr a8 = a8) (K : R M d mc ms Q pc' (a0 :: a1 :: a2 :: a3 :: a4 :: a5 :: a6 :: a7 :: a8 :: .int x :: r) S h z k n) : R M d mc ms Q pc (a0 :: a1 :: a2 :: a3 :: a4 :: a5 :: a6 :: a7 :: a8 :: a9 :: r) (.int x :: S) h z k n := r_istoreG hi (by simp only [stL1, hc]) K
theorem r_astore_9 {M : MD} {d mc ms pc pc' z k n : Nat} {Q : Option Value → Hp → Nat → Prop} {S : List Value} {h : Hp} {a0 a1 a2 a3 a4 a5 a6 a7 a8 a9 : Value} {r : List Value} {x : Nat} (hi : StA M pc 9 pc') (hc : clr a8 = a8) (K : R M d mc ms Q pc' (a0 :: a1 :: a2 :: a3 :: a4 :: a5 :: a6 :: a7 :: a8 :: .ref x :: r) S h z k n) : R M d mc ms Q pc (a0 :: a1 :: a2 :: a3 :: a4 :: a5 :: a6 :: a7 :: a8 :: a9 :: r) (.ref x :: S) h z k n := r_astoreG hi (by simp only [stL1, hc]) K
theorem r_iinc_9 {M : MD} {d mc ms pc pc' z k n : Nat} {Q : Option Value → Hp → Nat → Prop} {S : List Value} {h : Hp} {a0 a1 a2 a3 a4 a5 a6 a7 a8 : Value} {r : List Value} {w : Int} {x v : Int32} (hi : Inc M pc 9 w pc') (hv : x + Int32.ofInt w = v) (hc : clr a8 = a8) (K : R M d mc ms Q pc' (a0 :: a1 :: a2 :: a3 :: a4 :: a5 :: a6 :: a7 :: a8 :: .int v :: r) S h z k n) : R M d mc ms Q pc (a0 :: a1 :: a2 :: a3 :: a4 :: a5 :: a6 :: a7 :: a8 :: .int x :: r) S h z k n := r_iincG hi rfl hv (by simp only [stL1, hc]) K
theorem r_lstore_9 {M : MD} {d mc ms pc pc' z k n : Nat} {Q : Option Value → Hp → Nat → Prop} {S : List Value} {h : Hp} {a0 a1 a2 a3 a4 a5 a6 a7 a8 b c : Value} {r : List Value} {x : Int64} (hi : StL M pc 9 pc') (hc : clr a8 = a8) (K : R M d mc ms Q pc' (a0 :: a1 :: a2 :: a3 :: a4 :: a5 :: a6 :: a7 :: a8 :: .long x :: .null :: r) S h z k n) : R M d mc ms Q pc (a0 :: a1 :: a2 :: a3 :: a4 :: a5 :: a6 :: a7 :: a8 :: b :: c :: r) (.long x :: S) h z k n := r_lstoreG hi (by simp only [stL2, hc]) K
theorem r_istore_10 {M : MD} {d mc ms pc pc' z k n : Nat} {Q : Option Value → Hp → Nat → Prop} {S : List Value} {h : Hp} {a0 a1 a2 a3 a4 a5 a6 a7 a8 a9 a10 : Value} {r : List Value} {x : Int32} (hi : StI M pc 10 pc') (hc : clr a9 = a9) (K : R M d mc ms Q pc' (a0 :: a1 :: a2 :: a3 :: a4 :: a5 :: a6 :: a7 :: a8 :: a9 :: .int x :: r) S h z k n) : R M d mc ms Q pc (a0 :: a1 :: a2 :: a3 :: a4 :: a5 :: a6 :: a7 :: a8 :: a9 :: a10 :: r) (.int x :: S) h z k n := r_istoreG hi (by simp only [stL1, hc]) K
theorem r_astore_10 {M : MD} {d mc ms pc pc' z k n : Nat} {Q : Option Value → Hp → Nat → Prop} {S : List Value} {h : Hp} {a0 a1 a2 a3 a4 a5 a6 a7 a8 a9 a10 : Value} {r : List Value} {x : Nat} (hi : StA M pc 10 pc') (hc : clr a9 = a9) (K : R M d mc ms Q pc' (a0 :: a1 :: a2 :: a3 :: a4 :: a5 :: a6 :: a7 :: a8 :: a9 :: .ref x :: r) S h z k n) : R M d mc ms Q pc (a0 :: a1 :: a2 :: a3 :: a4 :: a5 :: a6 :: a7 :: a8 :: a9 :: a10 :: r) (.ref x :: S) h z k n := r_astoreG hi (by simp only [stL1, hc]) K
theorem r_iinc_10 {M : MD} {d mc ms pc pc' z k n : Nat} {Q : Option Value → Hp → Nat → Prop} {S : List Value} {h : Hp} {a0 a1 a2 a3 a4 a5 a6 a7 a8 a9 : Value} {r : List Value} {w : Int} {x v : Int32} (hi : Inc M pc 10 w pc') (hv : x + Int32.ofInt w = v) (hc : clr a9 = a9) (K : R M d mc ms Q pc' (a0 :: a1 :: a2 :: a3 :: a4 :: a5 :: a6 :: a7 :: a8 :: a9 :: .int v :: r) S h z k n) : R M d mc ms Q pc (a0 :: a1 :: a2 :: a3 :: a4 :: a5 :: a6 :: a7 :: a8 :: a9 :: .int x :: r) S h z k n := r_iincG hi rfl hv (by simp only [stL1, hc]) K
theorem r_lstore_10 {M : MD} {d mc ms pc pc' z k n : Nat} {Q : Option Value → Hp → Nat → Prop} {S : List Value} {h : Hp} {a0 a1 a2 a3 a4 a5 a6 a7 a8 a9 b c : Value} {r : List Value} {x : Int64} (hi : StL M pc 10 pc') (hc : clr a9 = a9) (K : R M d mc ms Q pc' (a0 :: a1 :: a2 :: a3 :: a4 :: a5 :: a6 :: a7 :: a8 :: a9 :: .long x :: .null :: r) S h z k n) : R M d mc ms Q pc (a0 :: a1 :: a2 :: a3 :: a4 :: a5 :: a6 :: a7 :: a8 :: a9 :: b :: c :: r) (.long x :: S) h z k n := r_lstoreG hi (by simp only [stL2, hc]) K
theorem r_istore_11 {M : MD} {d mc ms pc pc' z k n : Nat} {Q : Option Value → Hp → Nat → Prop} {S : List Value} {h : Hp} {a0 a1 a2 a3 a4 a5 a6 a7 a8 a9 a10 a11 : Value} {r : List Value} {x : Int32} (hi : StI M pc 11 pc') (hc : clr a10 = a10) (K : R M d mc ms Q pc' (a0 :: a1 :: a2 :: a3 :: a4 :: a5 :: a6 :: a7 :: a8 :: a9 :: a10 :: .int x :: r) S h z k n) : R M d mc ms Q pc (a0 :: a1 :: a2 :: a3 :: a4 :: a5 :: a6 :: a7 :: a8 :: a9 :: a10 :: a11 :: r) (.int x :: S) h z k n := r_istoreG hi (by simp only [stL1, hc]) K
theorem r_astore_11 {M : MD} {d mc ms pc pc' z k n : Nat} {Q : Option Value → Hp → Nat → Prop} {S : List Value} {h : Hp} {a0 a1 a2 a3 a4 a5 a6 a7 a8 a9 a10 a11 : Value} {r : List Value} {x : Nat} (hi : StA M pc 11 pc') (hc : clr a10 = a10) (K : R M d mc ms Q pc' (a0 :: a1 :: a2 :: a3 :: a4 :: a5 :: a6 :: a7 :: a8 :: a9 :: a10 :: .ref x :: r) S h z k n) : R M d mc ms Q pc (a0 :: a1 :: a2 :: a3 :: a4 :: a5 :: a6 :: a7 :: a8 :: a9 :: a10 :: a11 :: r) (.ref x :: S) h z k n := r_astoreG hi (by simp only [stL1, hc]) K
theorem r_iinc_11 {M : MD} {d mc ms pc pc' z k n : Nat} {Q : Option Value → Hp → Nat → Prop} {S : List Value} {h : Hp} {a0 a1 a2 a3 a4 a5 a6 a7 a8 a9 a10 : Value} {r : List Value} {w : Int} {x v : Int32} (hi : Inc M pc 11 w pc') (hv : x + Int32.ofInt w = v) (hc : clr a10 = a10) (K : R M d mc ms Q pc' (a0 :: a1 :: a2 :: a3 :: a4 :: a5 :: a6 :: a7 :: a8 :: a9 :: a10 :: .int v :: r) S h z k n) : R M d mc ms Q pc (a0 :: a1 :: a2 :: a3 :: a4 :: a5 :: a6 :: a7 :: a8 :: a9 :: a10 :: .int x :: r) S h z k n := r_iincG hi rfl hv (by simp only [stL1, hc]) K
theorem r_lstore_11 {M : MD} {d mc ms pc pc' z k n : Nat} {Q : Option Value → Hp → Nat → Prop} {S : List Value} {h : Hp} {a0 a1 a2 a3 a4 a5 a6 a7 a8 a9 a10 b c : Value} {r : List Value} {x : Int64} (hi : StL M pc 11 pc') (hc : clr a10 = a10) (K : R M d mc ms Q pc' (a0 :: a1 :: a2 :: a3 :: a4 :: a5 :: a6 :: a7 :: a8 :: a9 :: a10 :: .long x :: .null :: r) S h z k n) : R M d mc ms Q pc (a0 :: a1 :: a2 :: a3 :: a4 :: a5 :: a6 :: a7 :: a8 :: a9 :: a10 :: b :: c :: r) (.long x :: S) h z k n := r_lstoreG hi (by simp only [stL2, hc]) K
theorem r_istore_12 {M : MD} {d mc ms pc pc' z k n : Nat} {Q : Option Value → Hp → Nat → Prop} {S : List Value} {h : Hp} {a0 a1 a2 a3 a4 a5 a6 a7 a8 a9 a10 a11 a12 : Value} {r : List Value} {x : Int32} (hi : StI M pc 12 pc') (hc : clr a11 = a11) (K : R M d mc ms Q pc' (a0 :: a1 :: a2 :: a3 :: a4 :: a5 :: a6 :: a7 :: a8 :: a9 :: a10 :: a11 :: .int x :: r) S h z k n) : R M d mc ms Q pc (a0 :: a1 :: a2 :: a3 :: a4 :: a5 :: a6 :: a7 :: a8 :: a9 :: a10 :: a11 :: a12 :: r) (.int x :: S) h z k n := r_istoreG hi (by simp only [stL1, hc]) K
theorem r_astore_12 {M : MD} {d mc ms pc pc' z k n : Nat} {Q : Option Value → Hp → Nat → Prop} {S : List Value} {h : Hp} {a0 a1 a2 a3 a4 a5 a6 a7 a8 a9 a10 a11 a12 : Value} {r : List Value} {x : Nat} (hi : StA M pc 12 pc') (hc : clr a11 = a11) (K : R M d mc ms Q pc' (a0 :: a1 :: a2 :: a3 :: a4 :: a5 :: a6 :: a7 :: a8 :: a9 :: a10 :: a11 :: .ref x :: r) S h z k n) : R M d mc ms Q pc (a0 :: a1 :: a2 :: a3 :: a4 :: a5 :: a6 :: a7 :: a8 :: a9 :: a10 :: a11 :: a12 :: r) (.ref x :: S) h z k n := r_astoreG hi (by simp only [stL1, hc]) K
theorem r_iinc_12 {M : MD} {d mc ms pc pc' z k n : Nat} {Q : Option Value → Hp → Nat → Prop} {S : List Value} {h : Hp} {a0 a1 a2 a3 a4 a5 a6 a7 a8 a9 a10 a11 : Value} {r : List Value} {w : Int} {x v : Int32} (hi : Inc M pc 12 w pc') (hv : x + Int32.ofInt w = v) (hc : clr a11 = a11) (K : R M d mc ms Q pc' (a0 :: a1 :: a2 :: a3 :: a4 :: a5 :: a6 :: a7 :: a8 :: a9 :: a10 :: a11 :: .int v :: r) S h z k n) : R M d mc ms Q pc (a0 :: a1 :: a2 :: a3 :: a4 :: a5 :: a6 :: a7 :: a8 :: a9 :: a10 :: a11 :: .int x :: r) S h z k n := r_iincG hi rfl hv (by simp only [stL1, hc]) K
theorem r_lstore_12 {M : MD} {d mc ms pc pc' z k n : Nat} {Q : Option Value → Hp → Nat → Prop} {S : List Value} {h : Hp} {a0 a1 a2 a3 a4 a5 a6 a7 a8 a9 a10 a11 b c : Value} {r : List Value} {x : Int64} (hi : StL M pc 12 pc') (hc : clr a11 = a11) (K : R M d mc ms Q pc' (a0 :: a1 :: a2 :: a3 :: a4 :: a5 :: a6 :: a7 :: a8 :: a9 :: a10 :: a11 :: .long x :: .null :: r) S h z k n) : R M d mc ms Q pc (a0 :: a1 :: a2 :: a3 :: a4 :: a5 :: a6 :: a7 :: a8 :: a9 :: a10 :: a11 :: b :: c :: r) (.long x :: S) h z k n := r_lstoreG hi (by simp only [stL2, hc]) K
theorem r_istore_13 {M : MD} {d mc ms pc pc' z k n : Nat} {Q : Option Value → Hp → Nat → Prop} {S : List Value} {h : Hp} {a0 a1 a2 a3 a4 a5 a6 a7 a8 a9 a10 a11 a12 a13 : Value} {r : List Value} {x : Int32} (hi : StI M pc 13 pc') (hc : clr a12 = a12) (K : R M d mc ms Q pc' (a0 :: a1 :: a2 :: a3 :: a4 :: a5 :: a6 :: a7 :: a8 :: a9 :: a10 :: a11 :: a12 :: .int x :: r) S h z k n) : R M d mc ms Q pc (a0 :: a1 :: a2 :: a3 :: a4 :: a5 :: a6 :: a7 :: a8 :: a9 :: a10 :: a11 :: a12 :: a13 :: r) (.int x :: S) h z k n := r_istoreG hi (by simp only [stL1, hc]) K
theorem r_astore_13 {M : MD} {d mc ms pc pc' z k n : Nat} {Q : Option Value → Hp → Nat → Prop} {S : List Value} {h : Hp} {a0 a1 a2 a3 a4 a5 a6 a7 a8 a9 a10 a11 a12 a13 : Value} {r : List Value} {x : Nat} (hi : StA M pc 13 pc') (hc : clr a12 = a12) (K : R M d mc ms Q pc' (a0 :: a1 :: a2 :: a3 :: a4 :: a5 :: a6 :: a7 :: a8 :: a9 :: a10 :: a11 :: a12 :: .ref x :: r) S h z k n) : R M d mc ms Q pc (a0 :: a1 :: a2 :: a3 :: a4 :: a5 :: a6 :: a7 :: a8 :: a9 :: a10 :: a11 :: a12 :: a13 :: r) (.ref x :: S) h z k n := r_astoreG hi (by simp only [stL1, hc]) K
theorem r_iinc_13 {M : MD} {d mc ms pc pc' z k n : Nat} {Q : Option Value → Hp → Nat → Prop} {S : List Value} {h : Hp} {a0 a1 a2 a3 a4 a5 a6 a7 a8 a9 a10 a11 a12 : Value} {r : List Value} {w : Int} {x v : Int32} (hi : Inc M pc 13 w pc') (hv : x + Int32.ofInt w = v) (hc : clr a12 = a12) (K : R M d mc ms Q pc' (a0 :: a1 :: a2 :: a3 :: a4 :: a5 :: a6 :: a7 :: a8 :: a9 :: a10 :: a11 :: a12 :: .int v :: r) S h z k n) : R M d mc ms Q pc (a0 :: a1 :: a2 :: a3 :: a4 :: a5 :: a6 :: a7 :: a8 :: a9 :: a10 :: a11 :: a12 :: .int x :: r) S h z k n := r_iincG hi rfl hv (by simp only [stL1, hc]) K
theorem r_lstore_13 {M : MD} {d mc ms pc pc' z k n : Nat} {Q : Option Value → Hp → Nat → Prop} {S : List Value} {h : Hp} {a0 a1 a2 a3 a4 a5 a6 a7 a8 a9 a10 a11 a12 b c : Value} {r : List Value} {x : Int64} (hi : StL M pc 13 pc') (hc : clr a12 = a12) (K : R M d mc ms Q pc' (a0 :: a1 :: a2 :: a3 :: a4 :: a5 :: a6 :: a7 :: a8 :: a9 :: a10 :: a11 :: a12 :: .long x :: .null :: r) S h z k n) : R M d mc ms Q pc (a0 :: a1 :: a2 :: a3 :: a4 :: a5 :: a6 :: a7 :: a8 :: a9 :: a10 :: a11 :: a12 :: b :: c :: r) (.long x :: S) h z k n := r_lstoreG hi (by simp only [stL2, hc]) K
theorem r_istore_14 {M : MD} {d mc ms pc pc' z k n : Nat} {Q : Option Value → Hp → Nat → Prop} {S : List Value} {h : Hp} {a0 a1 a2 a3 a4 a5 a6 a7 a8 a9 a10 a11 a12 a13 a14 : Value} {r : List Value} {x : Int32} (hi : StI M pc 14 pc') (hc : clr a13 = a13) (K : R M d mc ms Q pc' (a0 :: a1 :: a2 :: a3 :: a4 :: a5 :: a6 :: a7 :: a8 :: a9 :: a10 :: a11 :: a12 :: a13 :: .int x :: r) S h z k n) : R M d mc ms Q pc (a0 :: a1 :: a2 :: a3 :: a4 :: a5 :: a6 :: a7 :: a8 :: a9 :: a10 :: a11 :: a12 :: a13 :: a14 :: r) (.int x :: S) h z k n := r_istoreG hi (by simp only [stL1, hc]) K
theorem r_astore_14 {M : MD} {d mc ms pc pc' z k n : Nat} {Q : Option Value → Hp → Nat → Prop} {S : List Value} {h : Hp} {a0 a1 a2 a3 a4 a5 a6 a7 a8 a9 a10 a11 a12 a13 a14 : Value} {r : List Value} {x : Nat} (hi : StA M pc 14 pc') (hc : clr a13 = a13) (K : R M d mc ms Q pc' (a0 :: a1 :: a2 :: a3 :: a4 :: a5 :: a6 :: a7 :: a8 :: a9 :: a10 :: a11 :: a12 :: a13 :: .ref x :: r) S h z k n) : R M d mc ms Q pc (a0 :: a1 :: a2 :: a3 :: a4 :: a5 :: a6 :: a7 :: a8 :: a9 :: a10 :: a11 :: a12 :: a13 :: a14 :: r) (.ref x :: S) h z k n := r_astoreG hi (by simp only [stL1, hc]) K
theorem r_iinc_14 {M : MD} {d mc ms pc pc' z k n : Nat} {Q : Option Value → Hp → Nat → Prop} {S : List Value} {h : Hp} {a0 a1 a2 a3 a4 a5 a6 a7 a8 a9 a10 a11 a12 a13 : Value} {r : List Value} {w : Int} {x v : Int32} (hi : Inc M pc 14 w pc') (hv : x + Int32.ofInt w = v) (hc : clr a13 = a13) (K : R M d mc ms Q pc' (a0 :: a1 :: a2 :: a3 :: a4 :: a5 :: a6 :: a7 :: a8 :: a9 :: a10 :: a11 :: a12 :: a13 :: .int v :: r) S h z k n) : R M d mc ms Q pc (a0 :: a1 :: a2 :: a3 :: a4 :: a5 :: a6 :: a7 :: a8 :: a9 :: a10 :: a11 :: a12 :: a13 :: .int x :: r) S h z k n := r_iincG hi rfl hv (by simp only [stL1, hc]) K
theorem r_lstore_14 {M : MD} {d mc ms pc pc' z k n : Nat} {Q : Option Value → Hp → Nat → Prop} {S : List Value} {h : Hp} {a0 a1 a2 a3 a4 a5 a6 a7 a8 a9 a10 a11 a12 a13 b c : Value} {r : List Value} {x : Int64} (hi : StL M pc 14 pc') (hc : clr a13 = a13) (K : R M d mc ms Q pc' (a0 :: a1 :: a2 :: a3 :: a4 :: a5 :: a6 :: a7 :: a8 :: a9 :: a10 :: a11 :: a12 :: a13 :: .long x :: .null :: r) S h z k n) : R M d mc ms Q pc (a0 :: a1 :: a2 :: a3 :: a4 :: a5 :: a6 :: a7 :: a8 :: a9 :: a10 :: a11 :: a12 :: a13 :: b :: c :: r) (.long x :: S) h z k n := r_lstoreG hi (by simp only [stL2, hc]) K
theorem r_istore_15 {M : MD} {d mc ms pc pc' z k n : Nat} {Q : Option Value → Hp → Nat → Prop} {S : List Value} {h : Hp} {a0 a1 a2 a3 a4 a5 a6 a7 a8 a9 a10 a11 a12 a13 a14 a15 : Value} {r : List Value} {x : Int32} (hi : StI M pc 15 pc') (hc : clr a14 = a14) (K : R M d mc ms Q pc' (a0 :: a1 :: a2 :: a3 :: a4 :: a5 :: a6 :: a7 :: a8 :: a9 :: a10 :: a11 :: a12 :: a13 :: a14 :: .int x :: r) S h z k n) : R M d mc ms Q pc (a0 :: a1 :: a2 :: a3 :: a4 :: a5 :: a6 :: a7 :: a8 :: a9 :: a10 :: a11 :: a12 :: a13 :: a14 :: a15 :: r) (.int x :: S) h z k n := r_istoreG hi (by simp only [stL1, hc]) K
theorem r_astore_15 {M : MD} {d mc ms pc pc' z k n : Nat} {Q : Option Value → Hp → Nat → Prop} {S : List Value} {h : Hp} {a0 a1 a2 a3 a4 a5 a6 a7 a8 a9 a10 a11 a12 a13 a14 a15 : Value} {r : List Value} {x : Nat} (hi : StA M pc 15 pc') (hc : clr a14 = a14) (K : R M d mc ms Q pc' (a0 :: a1 :: a2 :: a3 :: a4 :: a5 :: a6 :: a7 :: a8 :: a9 :: a10 :: a11 :: a12 :: a13 :: a14 :: .ref x :: r) S h z k n) : R M d mc ms Q pc (a0 :: a1 :: a2 :: a3 :: a4 :: a5 :: a6 :: a7 :: a8 :: a9 :: a10 :: a11 :: a12 :: a13 :: a14 :: a15 :: r) (.ref x :: S) h z k n := r_astoreG hi (by simp only [stL1, hc]) K
theorem r_iinc_15 {M : MD} {d mc ms pc pc' z k n : Nat} {Q : Option Value → Hp → Nat → Prop} {S : List Value} {h : Hp} {a0 a1 a2 a3 a4 a5 a6 a7 a8 a9 a10 a11 a12 a13 a14 : Value} {r : List Value} {w : Int} {x v : Int32} (hi : Inc M pc 15 w pc') (hv : x + Int32.ofInt w = v) (hc : clr a14 = a14) (K : R M d mc ms Q pc' (a0 :: a1 :: a2 :: a3 :: a4 :: a5 :: a6 :: a7 :: a8 :: a9 :: a10 :: a11 :: a12 :: a13 :: a14 :: .int v :: r) S h z k n) : R M d mc ms Q pc (a0 :: a1 :: a2 :: a3 :: a4 :: a5 :: a6 :: a7 :: a8 :: a9 :: a10 :: a11 :: a12 :: a13 :: a14 :: .int x :: r) S h z k n := r_iincG hi rfl hv (by simp only [stL1, hc]) K
theorem r_lstore_15 {M : MD} {d mc ms pc pc' z k n : Nat} {Q : Option Value → Hp → Nat → Prop} {S : List Value} {h : Hp} {a0 a1 a2 a3 a4 a5 a6 a7 a8 a9 a10 a11 a12 a13 a14 b c : Value} {r : List Value} {x : Int64} (hi : StL M pc 15 pc') (hc : clr a14 = a14) (K : R M d mc ms Q pc' (a0 :: a1 :: a2 :: a3 :: a4 :: a5 :: a6 :: a7 :: a8 :: a9 :: a10 :: a11 :: a12 :: a13 :: a14 :: .long x :: .null :: r) S h z k n) : R M d mc ms Q pc (a0 :: a1 :: a2 :: a3 :: a4 :: a5 :: a6 :: a7 :: a8 :: a9 :: a10 :: a11 :: a12 :: a13 :: a14 :: b :: c :: r) (.long x :: S) h z k n := r_lstoreG hi (by simp only [stL2, hc]) K
theorem r_istore_16 {M : MD} {d mc ms pc pc' z k n : Nat} {Q : Option Value → Hp → Nat → Prop} {S : List Value} {h : Hp} {a0 a1 a2 a3 a4 a5 a6 a7 a8 a9 a10 a11 a12 a13 a14 a15 a16 : Value} {r : List Value} {x : Int32} (hi : StI M pc 16 pc') (hc : clr a15 = a15) (K : R M d mc ms Q pc' (a0 :: a1 :: a2 :: a3 :: a4 :: a5 :: a6 :: a7 :: a8 :: a9 :: a10 :: a11 :: a12 :: a13 :: a14 :: a15 :: .int x :: r) S h z k n) : R M d mc ms Q pc (a0 :: a1 :: a2 :: a3 :: a4 :: a5 :: a6 :: a7 :: a8 :: a9 :: a10 :: a11 :: a12 :: a13 :: a14 :: a15 :: a16 :: r) (.int x :: S) h z k n := r_istoreG hi (by simp only [stL1, hc]) K
theorem r_astore_16 {M : MD} {d mc ms pc pc' z k n : Nat} {Q : Option Value → Hp → Nat → Prop} {S : List Value} {h : Hp} {a0 a1 a2 a3 a4 a5 a6 a7 a8 a9 a10 a11 a12 a13 a14 a15 a16 : Value} {r : List Value} {x : Nat} (hi : StA M pc 16 pc') (hc : clr a15 = a15) (K : R M d mc ms Q pc' (a0 :: a1 :: a2 :: a3 :: a4 :: a5 :: a6 :: a7 :: a8 :: a9 :: a10 :: a11 :: a12 :: a13 :: a14 :: a15 :: .ref x :: r) S h z k n) : R M d mc ms Q pc (a0 :: a1 :: a2 :: a3 :: a4 :: a5 :: a6 :: a7 :: a8 :: a9 :: a10 :: a11 :: a12 :: a13 :: a14 :: a15 :: a16 :: r) (.ref x :: S) h z k n := r_astoreG hi (by simp only [stL1, hc]) K
theorem r_iinc_16 {M : MD} {d mc ms pc pc' z k n : Nat} {Q : Option Value → Hp → Nat → Prop} {S : List Value} {h : Hp} {a0 a1 a2 a3 a4 a5 a6 a7 a8 a9 a10 a11 a12 a13 a14 a15 : Value} {r : List Value} {w : Int} {x v : Int32} (hi : Inc M pc 16 w pc') (hv : x + Int32.ofInt w = v) (hc : clr a15 = a15) (K : R M d mc ms Q pc' (a0 :: a1 :: a2 :: a3 :: a4 :: a5 :: a6 :: a7 :: a8 :: a9 :: a10 :: a11 :: a12 :: a13 :: a14 :: a15 :: .int v :: r) S h z k n) : R M d mc ms Q pc (a0 :: a1 :: a2 :: a3 :: a4 :: a5 :: a6 :: a7 :: a8 :: a9 :: a10 :: a11 :: a12 :: a13 :: a14 :: a15 :: .int x :: r) S h z k n := r_iincG hi rfl hv (by simp only [stL1, hc]) K
theorem r_lstore_16 {M : MD} {d mc ms pc pc' z k n : Nat} {Q : Option Value → Hp → Nat → Prop} {S : List Value} {h : Hp} {a0 a1 a2 a3 a4 a5 a6 a7 a8 a9 a10 a11 a12 a13 a14 a15 b c : Value} {r : List Value} {x : Int64} (hi : StL M pc 16 pc') (hc : clr a15 = a15) (K : R M d mc ms Q pc' (a0 :: a1 :: a2 :: a3 :: a4 :: a5 :: a6 :: a7 :: a8 :: a9 :: a10 :: a11 :: a12 :: a13 :: a14 :: a15 :: .long x :: .null :: r) S h z k n) : R M d mc ms Q pc (a0 :: a1 :: a2 :: a3 :: a4 :: a5 :: a6 :: a7 :: a8 :: a9 :: a10 :: a11 :: a12 :: a13 :: a14 :: a15 :: b :: c :: r) (.long x :: S) h z k n := r_lstoreG hi (by simp only [stL2, hc]) K
theorem r_istore_17 {M : MD} {d mc ms pc pc' z k n : Nat} {Q : Option Value → Hp → Nat → Prop} {S : List Value} {h : Hp} {a0 a1 a2 a3 a4 a5 a6 a7 a8 a9 a10 a11 a12 a13 a14 a15 a16 a17 : Value} {r : List Value} {x : Int32} (hi : StI M pc 17 pc') (hc : clr a16 = a16) (K : R M d mc ms Q pc' (a0 :: a1 :: a2 :: a3 :: a4 :: a5 :: a6 :: a7 :: a8 :: a9 :: a10 :: a11 :: a12 :: a13 :: a14 :: a15 :: a16 :: .int x :: r) S h z k n) : R M d mc ms Q pc (a0 :: a1 :: a2 :: a3 :: a4 :: a5 :: a6 :: a7 :: a8 :: a9 :: a10 :: a11 :: a12 :: a13 :: a14 :: a15 :: a16 :: a17 :: r) (.int x :: S) h z k n := r_istoreG hi (by simp only [stL1, hc]) K
theorem r_astore_17 {M : MD} {d mc ms pc pc' z k n : Nat} {Q : Option Value → Hp → Nat → Prop} {S : List Value} {h : Hp} {a0 a1 a2 a3 a4 a5 a6 a7 a8 a9 a10 a11 a12 a13 a14 a15 a16 a17 : Value} {r : List Value} {x : Nat} (hi : StA M pc 17 pc') (hc : clr a16 = a16) (K : R M d mc ms Q pc' (a0 :: a1 :: a2 :: a3 :: a4 :: a5 :: a6 :: a7 :: a8 :: a9 :: a10 :: a11 :: a12 :: a13 :: a14 :: a15 :: a16 :: .ref x :: r) S h z k n) : R M d mc ms Q pc (a0 :: a1 :: a2 :: a3 :: a4 :: a5 :: a6 :: a7 :: a8 :: a9 :: a10 :: a11 :: a12 :: a13 :: a14 :: a15 :: a16 :: a17 :: r) (.ref x :: S) h z k n := r_astoreG hi (by simp only [stL1, hc]) K
theorem r_iinc_17 {M : MD} {d mc ms pc pc' z k n : Nat} {Q : Option Value → Hp → Nat → Prop} {S : List Value} {h : Hp} {a0 a1 a2 a3 a4 a5 a6 a7 a8 a9 a10 a11 a12 a13 a14 a15 a16 : Value} {r : List Value} {w : Int} {x v : Int32} (hi : Inc M pc 17 w pc') (hv : x + Int32.ofInt w = v) (hc : clr a16 = a16) (K : R M d mc ms Q pc' (a0 :: a1 :: a2 :: a3 :: a4 :: a5 :: a6 :: a7 :: a8 :: a9 :: a10 :: a11 :: a12 :: a13 :: a14 :: a15 :: a16 :: .int v :: r) S h z k n) : R M d mc ms Q pc (a0 :: a1 :: a2 :: a3 :: a4 :: a5 :: a6 :: a7 :: a8 :: a9 :: a10 :: a11 :: a12 :: a13 :: a14 :: a15 :: a16 :: .int x :: r) S h z k n := r_iincG hi rfl hv (by simp only [stL1, hc]) K
theorem r_lstore_17 {M : MD} {d mc ms pc pc' z k n : Nat} {Q : Option Value → Hp → Nat → Prop} {S : List Value} {h : Hp} {a0 a1 a2 a3 a4 a5 a6 a7 a8 a9 a10 a11 a12 a13 a14 a15 a16 b c : Value} {r : List Value} {x : Int64} (hi : StL M pc 17 pc') (hc : clr a16 = a16) (K : R M d mc ms Q pc' (a0 :: a1 :: a2 :: a3 :: a4 :: a5 :: a6 :: a7 :: a8 :: a9 :: a10 :: a11 :: a12 :: a13 :: a14 :: a15 :: a16 :: .long x :: .null :: r) S h z k n) : R M d mc ms Q pc (a0 :: a1 :: a2 :: a3 :: a4 :: a5 :: a6 :: a7 :: a8 :: a9 :: a10 :: a11 :: a12 :: a13 :: a14 :: a15 :: a16 :: b :: c :: r) (.long x :: S) h z k n := r_lstoreG hi (by simp only [stL2, hc]) K
def Jmp (M : MD) (pc : Nat) (i : Int → Instr) (tgt pc' : Nat) : Prop := ∃ off : Int, Ins M pc (i off) 3 pc' ∧ (pc : Int) + off = (tgt : Int)
theorem r_goto {M : MD} {d mc ms pc pc' z k n : Nat} {Q : Option Value → Hp → Nat → Prop} {L S : List Value} {h : Hp} {tgt : Nat} (hi : Jmp M pc .goto tgt pc') (K : R M d mc ms Q tgt L S h z k n) : R M d mc ms Q pc L S h z k n := by
  intro p l e Rm s m args below meth c E Qf O H locs ls hH hS hL hk hn
  obtain ⟨hx, hb, hml, hown, hts, hrm, hin, hK, hZ, hX, hB, hRC⟩ := id O
  obtain ⟨off, ⟨hd, rfl⟩, ht⟩ := hi
  exact lv_goto hx hb hd ht (K p l e Rm s m args below meth c E Qf O H locs ls hH hS hL hk hn)
theorem r_icmp_eq {M : MD} {d mc ms pc pc' z k n : Nat} {Q : Option Value → Hp → Nat → Prop} {L S : List Value} {h : Hp} {x y : Int32} {tgt : Nat} (hi : Jmp M pc (.if_icmp .eq) tgt pc') (Kt : x = y → R M d mc ms Q tgt L S h z k n) (Kf : ¬ x = y → R M d mc ms Q pc' L S h z k n) : R M d mc ms Q pc L (.int y :: .int x :: S) h z k n := by
  intro p l e Rm s m args below meth c E Qf O H locs ls hH hS hL hk hn
  obtain ⟨hx, hb, hml, hown, hts, hrm, hin, hK, hZ, hX, hB, hRC⟩ := id O
  obtain ⟨off, ⟨hd, rfl⟩, ht⟩ := hi
  exact lv_icmp_eq hx hb hd ht (fun g => Kt g p l e Rm s m args below meth c E Qf O H locs ls hH hS hL hk hn) (fun g => Kf g p l e Rm s m args below meth c E Qf O H locs ls hH hS hL hk hn)
theorem r_if_eq {M : MD} {d mc ms pc pc' z k n : Nat} {Q : Option Value → Hp → Nat → Prop} {L S : List Value} {h : Hp} {x : Int32} {tgt : Nat} (hi : Jmp M pc (.ifCond .eq) tgt pc') (Kt : x = 0 → R M d mc ms Q tgt L S h z k n) (Kf : ¬ x = 0 → R M d mc ms Q pc' L S h z k n) : R M d mc ms Q pc L (.int x :: S) h z k n := by
  intro p l e Rm s m args below meth c E Qf O H locs ls hH hS hL hk hn
  obtain ⟨hx, hb, hml, hown, hts, hrm, hin, hK, hZ, hX, hB, hRC⟩ := id O
  obtain ⟨off, ⟨hd, rfl⟩, ht⟩ := hi
  exact lv_if_eq hx hb hd ht (fun g => Kt g p l e Rm s m args below meth c E Qf O H locs ls hH hS hL hk hn) (fun g => Kf g p l e Rm s m args below meth c E Qf O H locs ls hH hS hL hk hn)
theorem r_icmp_ne {M : MD} {d mc ms pc pc' z k n : Nat} {Q : Option Value → Hp → Nat → Prop} {L S : List Value} {h : Hp} {x y : Int32} {tgt : Nat} (hi : Jmp M pc (.if_icmp .ne) tgt pc') (Kt : ¬ x = y → R M d mc ms Q tgt L S h z k n) (Kf : x = y → R M d mc ms Q pc' L S h z k n) : R M d mc ms Q pc L (.int y :: .int x :: S) h z k n := by
  intro p l e Rm s m args below meth c E Qf O H locs ls hH hS hL hk hn
  obtain ⟨hx, hb, hml, hown, hts, hrm, hin, hK, hZ, hX, hB, hRC⟩ := id O
  obtain ⟨off, ⟨hd, rfl⟩, ht⟩ := hi
  exact lv_icmp_ne hx hb hd ht (fun g => Kt g p l e Rm s m args below meth c E Qf O H locs ls hH hS hL hk hn) (fun g => Kf g p l e Rm s m args below meth c E Qf O H locs ls hH hS hL hk hn)
theorem r_if_ne {M : MD} {d mc ms pc pc' z k n : Nat} {Q : Option Value → Hp → Nat → Prop} {L S : List Value} {h : Hp} {x : Int32} {tgt : Nat} (hi : Jmp M pc (.ifCond .ne) tgt pc') (Kt : ¬ x = 0 → R M d mc ms Q tgt L S h z k n) (Kf : x = 0 → R M d mc ms Q pc' L S h z k n) : R M d mc ms Q pc L (.int x :: S) h z k n := by
  intro p l e Rm s m args below meth c E Qf O H locs ls hH hS hL hk hn
  obtain ⟨hx, hb, hml, hown, hts, hrm, hin, hK, hZ, hX, hB, hRC⟩ := id O
  obtain ⟨off, ⟨hd, rfl⟩, ht⟩ := hi
  exact lv_if_ne hx hb hd ht (fun g => Kt g p l e Rm s m args below meth c E Qf O H locs ls hH hS hL hk hn) (fun g => Kf g p l e Rm s m args below meth c E Qf O H locs ls hH hS hL hk hn)
theorem r_icmp_lt {M : MD} {d mc ms pc pc' z k n : Nat} {Q : Option Value → Hp → Nat → Prop} {L S : List Value} {h : Hp} {x y : Int32} {tgt : Nat} (hi : Jmp M pc (.if_icmp .lt) tgt pc') (Kt : x < y → R M d mc ms Q tgt L S h z k n) (Kf : ¬ x < y → R M d mc ms Q pc' L S h z k n) : R M d mc ms Q pc L (.int y :: .int x :: S) h z k n := by
  intro p l e Rm s m args below meth c E Qf O H locs ls hH hS hL hk hn
  obtain ⟨hx, hb, hml, hown, hts, hrm, hin, hK, hZ, hX, hB, hRC⟩ := id O
  obtain ⟨off, ⟨hd, rfl⟩, ht⟩ := hi
  exact lv_icmp_lt hx hb hd ht (fun g => Kt g p l e Rm s m args below meth c E Qf O H locs ls hH hS hL hk hn) (fun g => Kf g p l e Rm s m args below meth c E Qf O H locs ls hH hS hL hk hn)
theorem r_if_lt {M : MD} {d mc ms pc pc' z k n : Nat} {Q : Option Value → Hp → Nat → Prop} {L S : List Value} {h : Hp} {x : Int32} {tgt : Nat} (hi : Jmp M pc (.ifCond .lt) tgt pc') (Kt : x < 0 → R M d mc ms Q tgt L S h z k n) (Kf : ¬ x < 0 → R M d mc ms Q pc' L S h z k n) : R M d mc ms Q pc L (.int x :: S) h z k n := by
  intro p l e Rm s m args below meth c E Qf O H locs ls hH hS hL hk hn
  obtain ⟨hx, hb, hml, hown, hts, hrm, hin, hK, hZ, hX, hB, hRC⟩ := id O
  obtain ⟨off, ⟨hd, rfl⟩, ht⟩ := hi
  exact lv_if_lt hx hb hd ht (fun g => Kt g p l e Rm s m args below meth c E Qf O H locs ls hH hS hL hk hn) (fun g => Kf g p l e Rm s m args below meth c E Qf O H locs ls hH hS hL hk hn)
theorem r_icmp_ge {M : MD} {d mc ms pc pc' z k n : Nat} {Q : Option Value → Hp → Nat → Prop} {L S : List Value} {h : Hp} {x y : Int32} {tgt : Nat} (hi : Jmp M pc (.if_icmp .ge) tgt pc') (Kt : y ≤ x → R M d mc ms Q tgt L S h z k n) (Kf : ¬ y ≤ x → R M d mc ms Q pc' L S h z k n) : R M d mc ms Q pc L (.int y :: .int x :: S) h z k n := by
  intro p l e Rm s m args below meth c E Qf O H locs ls hH hS hL hk hn
  obtain ⟨hx, hb, hml, hown, hts, hrm, hin, hK, hZ, hX, hB, hRC⟩ := id O
  obtain ⟨off, ⟨hd, rfl⟩, ht⟩ := hi
  exact lv_icmp_ge hx hb hd ht (fun g => Kt g p l e Rm s m args below meth c E Qf O H locs ls hH hS hL hk hn) (fun g => Kf g p l e Rm s m args below meth c E Qf O H locs ls hH hS hL hk hn)
theorem r_if_ge {M : MD} {d mc ms pc pc' z k n : Nat} {Q : Option Value → Hp → Nat → Prop} {L S : List Value} {h : Hp} {x : Int32} {tgt : Nat} (hi : Jmp M pc (.ifCond .ge) tgt pc') (Kt : 0 ≤ x → R M d mc ms Q tgt L S h z k n) (Kf : ¬ 0 ≤ x → R M d mc ms Q pc' L S h z k n) : R M d mc ms Q pc L (.int x :: S) h z k n := by
  intro p l e Rm s m args below meth c E Qf O H locs ls hH hS hL hk hn
  obtain ⟨hx, hb, hml, hown, hts, hrm, hin, hK, hZ, hX, hB, hRC⟩ := id O
  obtain ⟨off, ⟨hd, rfl⟩, ht⟩ := hi
  exact lv_if_ge hx hb hd ht (fun g => Kt g p l e Rm s m args below meth c E Qf O H locs ls hH hS hL hk hn) (fun g => Kf g p l e Rm s m args below meth c E Qf O H locs ls hH hS hL hk hn)
theorem r_icmp_gt {M : MD} {d mc ms pc pc' z k n : Nat} {Q : Option Value → Hp → Nat → Prop} {L S : List Value} {h : Hp} {x y : Int32} {tgt : Nat} (hi : Jmp M pc (.if_icmp .gt) tgt pc') (Kt : y < x → R M d mc ms Q tgt L S h z k n) (Kf : ¬ y < x → R M d mc ms Q pc' L S h z k n) : R M d mc ms Q pc L (.int y :: .int x :: S) h z k n := by
  intro p l e Rm s m args below meth c E Qf O H locs ls hH hS hL hk hn
  obtain ⟨hx, hb, hml, hown, hts, hrm, hin, hK, hZ, hX, hB, hRC⟩ := id O
  obtain ⟨off, ⟨hd, rfl⟩, ht⟩ := hi
  exact lv_icmp_gt hx hb hd ht (fun g => Kt g p l e Rm s m args below meth c E Qf O H locs ls hH hS hL hk hn) (fun g => Kf g p l e Rm s m args below meth c E Qf O H locs ls hH hS hL hk hn)
theorem r_if_gt {M : MD} {d mc ms pc pc' z k n : Nat} {Q : Option Value → Hp → Nat → Prop} {L S : List Value} {h : Hp} {x : Int32} {tgt : Nat} (hi : Jmp M pc (.ifCond .gt) tgt pc') (Kt : 0 < x → R M d mc ms Q tgt L S h z k n) (Kf : ¬ 0 < x → R M d mc ms Q pc' L S h z k n) : R M d mc ms Q pc L (.int x :: S) h z k n := by
  intro p l e Rm s m args below meth c E Qf O H locs ls hH hS hL hk hn
  obtain ⟨hx, hb, hml, hown, hts, hrm, hin, hK, hZ, hX, hB, hRC⟩ := id O
  obtain ⟨off, ⟨hd, rfl⟩, ht⟩ := hi
  exact lv_if_gt hx hb hd ht (fun g => Kt g p l e Rm s m args below meth c E Qf O H locs ls hH hS hL hk hn) (fun g => Kf g p l e Rm s m args below meth c E Qf O H locs ls hH hS hL hk hn)
theorem r_icmp_le {M : MD} {d mc ms pc pc' z k n : Nat} {Q : Option Value → Hp → Nat → Prop} {L S : List Value} {h : Hp} {x y : Int32} {tgt : Nat} (hi : Jmp M pc (.if_icmp .le) tgt pc') (Kt : x ≤ y → R M d mc ms Q tgt L S h z k n) (Kf : ¬ x ≤ y → R M d mc ms Q pc' L S h z k n) : R M d mc ms Q pc L (.int y :: .int x :: S) h z k n := by
  intro p l e Rm s m args below meth c E Qf O H locs ls hH hS hL hk hn
  obtain ⟨hx, hb, hml, hown, hts, hrm, hin, hK, hZ, hX, hB, hRC⟩ := id O
  obtain ⟨off, ⟨hd, rfl⟩, ht⟩ := hi
  exact lv_icmp_le hx hb hd ht (fun g => Kt g p l e Rm s m args below meth c E Qf O H locs ls hH hS hL hk hn) (fun g => Kf g p l e Rm s m args below meth c E Qf O H locs ls hH hS hL hk hn)
theorem r_if_le {M : MD} {d mc ms pc pc' z k n : Nat} {Q : Option Value → Hp → Nat → Prop} {L S : List Value} {h : Hp} {x : Int32} {tgt : Nat} (hi : Jmp M pc (.ifCond .le) tgt pc') (Kt : x ≤ 0 → R M d mc ms Q tgt L S h z k n) (Kf : ¬ x ≤ 0 → R M d mc ms Q pc' L S h z k n) : R M d mc ms Q pc L (.int x :: S) h z k n := by
  intro p l e Rm s m args below meth c E Qf O H locs ls hH hS hL hk hn
  obtain ⟨hx, hb, hml, hown, hts, hrm, hin, hK, hZ, hX, hB, hRC⟩ := id O
  obtain ⟨off, ⟨hd, rfl⟩, ht⟩ := hi
  exact lv_if_le hx hb hd ht (fun g => Kt g p l e Rm s m args below meth c E Qf O H locs ls hH hS hL hk hn) (fun g => Kf g p l e Rm s m args below meth c E Qf O H locs ls hH hS hL hk hn)
theorem r_tabIn {M : MD} {d mc ms pc pc' z k n : Nat} {Q : Option Value → Hp → Nat → Prop} {L S : List Value} {h : Hp} {dflt lo hi : Int} {offs : Array Int} {len : Nat} {x : Int32} {off : Int} {tgt : Nat} (hi' : Ins M pc (.tableswitch dflt lo hi offs) len pc') (h1 : ¬ x.toInt < lo) (h2 : ¬ hi < x.toInt) (ho : offs[(x.toInt - lo).toNat]? = some off) (ht : (pc : Int) + off = (tgt : Int)) (K : R M d mc ms Q tgt L S h z k n) : R M d mc ms Q pc L (.int x :: S) h z k n := by
  intro p l e Rm s m args below meth c E Qf O H locs ls hH hS hL hk hn
  obtain ⟨hx, hb, hml, hown, hts, hrm, hin, hK, hZ, hX, hB, hRC⟩ := id O
  obtain ⟨hd, rfl⟩ := hi'
  exact lv_tableIn hx hb hd h1 h2 ho ht (K p l e Rm s m args below meth c E Qf O H locs ls hH hS hL hk hn)
theorem r_tabOut {M : MD} {d mc ms pc pc' z k n : Nat} {Q : Option Value → Hp → Nat → Prop} {L S : List Value} {h : Hp} {dflt lo hi : Int} {offs : Array Int} {len : Nat} {x : Int32} {tgt : Nat} (hi' : Ins M pc (.tableswitch dflt lo hi offs) len pc') (h1 : x.toInt < lo ∨ hi < x.toInt) (ht : (pc : Int) + dflt = (tgt : Int)) (K : R M d mc ms Q tgt L S h z k n) : R M d mc ms Q pc L (.int x :: S) h z k n := by
  intro p l e Rm s m args below meth c E Qf O H locs ls hH hS hL hk hn
  obtain ⟨hx, hb, hml, hown, hts, hrm, hin, hK, hZ, hX, hB, hRC⟩ := id O
  obtain ⟨hd, rfl⟩ := hi'
  exact lv_tableOut hx hb hd h1 ht (K p l e Rm s m args below meth c E Qf O H locs ls hH hS hL hk hn)
theorem r_look {M : MD} {d mc ms pc pc' z k n : Nat} {Q : Option Value → Hp → Nat → Prop} {L S : List Value} {h : Hp} {dflt : Int} {ps : Array (Int × Int)} {len : Nat} {x : Int32} {off : Int} {tgt : Nat} (hi' : Ins M pc (.lookupswitch dflt ps) len pc') (hp : (ps.toList.zip (ps.toList.drop 1)).all (fun (a, next) => a.1 < next.1) = true) (ho : Op.lookupswitch.offset ps.toList dflt x.toInt = off) (ht : (pc : Int) + off = (tgt : Int)) (K : R M d mc ms Q tgt L S h z k n) : R M d mc ms Q pc L (.int x :: S) h z k n := by
  intro p l e Rm s m args below meth c E Qf O H locs ls hH hS hL hk hn
  obtain ⟨hx, hb, hml, hown, hts, hrm, hin, hK, hZ, hX, hB, hRC⟩ := id O
  obtain ⟨hd, rfl⟩ := hi'
  exact lv_lookup hx hb hd hp ho ht (K p l e Rm s m args below meth c E Qf O H locs ls hH hS hL hk hn)
theorem r_iret {M : MD} {d mc ms pc pc' z k n : Nat} {Q : Option Value → Hp → Nat → Prop} {L : List Value} {h : Hp} {x : Int32} (hi : Ins M pc .ireturn 1 pc') (hr : M.2.2.2 = some .int) (hq : Q (some (.int x)) h z) : R M d mc ms Q pc L [.int x] h z k n := by
  intro p l e Rm s m args below meth c E Qf O H locs ls hH hS hL hk hn
  obtain ⟨hx, hb, hml, hown, hts, hrm, hin, hK, hZ, hX, hB, hRC⟩ := id O
  exact hRC (some (.int x)) h z k n pc H locs ls .ireturn hq ⟨rfl, Or.inl hr⟩ hi.1 hH hS hk hn
theorem r_zret {M : MD} {d mc ms pc pc' z k n : Nat} {Q : Option Value → Hp → Nat → Prop} {L : List Value} {h : Hp} {x : Int32} (hi : Ins M pc .ireturn 1 pc') (hr : M.2.2.2 = some .boolean) (h01 : x = 0 ∨ x = 1) (hq : Q (some (.int x)) h z) : R M d mc ms Q pc L [.int x] h z k n := by
  intro p l e Rm s m args below meth c E Qf O H locs ls hH hS hL hk hn
  obtain ⟨hx, hb, hml, hown, hts, hrm, hin, hK, hZ, hX, hB, hRC⟩ := id O
  exact hRC (some (.int x)) h z k n pc H locs ls .ireturn hq ⟨rfl, Or.inr ⟨hr, h01⟩⟩ hi.1 hH hS hk hn
theorem r_lret {M : MD} {d mc ms pc pc' z k n : Nat} {Q : Option Value → Hp → Nat → Prop} {L : List Value} {h : Hp} {x : Int64} (hi : Ins M pc .lreturn 1 pc') (hr : M.2.2.2 = some .long) (hq : Q (some (.long x)) h z) : R M d mc ms Q pc L [.long x] h z k n := by
  intro p l e Rm s m args below meth c E Qf O H locs ls hH hS hL hk hn
  obtain ⟨hx, hb, hml, hown, hts, hrm, hin, hK, hZ, hX, hB, hRC⟩ := id O
  exact hRC (some (.long x)) h z k n pc H locs ls .lreturn hq ⟨rfl, hr⟩ hi.1 hH hS hk hn
theorem r_vret {M : MD} {d mc ms pc pc' z k n : Nat} {Q : Option Value → Hp → Nat → Prop} {L : List Value} {h : Hp} (hi : Ins M pc .return_ 1 pc') (hr : M.2.2.2 = none) (hq : Q none h z) : R M d mc ms Q pc L [] h z k n := by
  intro p l e Rm s m args below meth c E Qf O H locs ls hH hS hL hk hn
  obtain ⟨hx, hb, hml, hown, hts, hrm, hin, hK, hZ, hX, hB, hRC⟩ := id O
  exact hRC none h z k n pc H locs ls .return_ hq ⟨hr, rfl⟩ hi.1 hH hS hk hn
