/-- a private method of a class that the tables say can be made, by its rows of tables_1 -/
def lw_okq (q : MethodName × Nat) : Prop := (q.1.cls ≠ "java/lang/invoke/MethodHandle" ∧ q.1.cls ≠ "java/lang/invoke/VarHandle") ∧ Cond.instantiable q.1.cls q.2 ∈ tables_1 ∧ Cond.privateMethod q.1 ∈ tables_1 ∧ Cond.instanceMethod q.1 ∈ tables_1
theorem lw_p0 : lw_okq (⟨"UpWithSheaf$Text", "figureAt", "(I)I"⟩, 2) := ⟨⟨by decide +kernel, by decide +kernel⟩, List.mem_of_getElem? (i := 20) (by decide +kernel), List.mem_of_getElem? (i := 211) (by decide +kernel), List.mem_of_getElem? (i := 212) (by decide +kernel)⟩
theorem lw_p1 : lw_okq (⟨"UpWithSheaf$Contest", "nextBehind", "(I)I"⟩, 4) := ⟨⟨by decide +kernel, by decide +kernel⟩, List.mem_of_getElem? (i := 35) (by decide +kernel), List.mem_of_getElem? (i := 224) (by decide +kernel), List.mem_of_getElem? (i := 225) (by decide +kernel)⟩
theorem lw_p2 : lw_okq (⟨"UpWithSheaf", "act", "(I)I"⟩, 9) := ⟨⟨by decide +kernel, by decide +kernel⟩, List.mem_of_getElem? (i := 12) (by decide +kernel), List.mem_of_getElem? (i := 281) (by decide +kernel), List.mem_of_getElem? (i := 282) (by decide +kernel)⟩
theorem lw_p3 : lw_okq (⟨"UpWithSheaf$Contest", "raise", "()V"⟩, 4) := ⟨⟨by decide +kernel, by decide +kernel⟩, List.mem_of_getElem? (i := 35) (by decide +kernel), List.mem_of_getElem? (i := 321) (by decide +kernel), List.mem_of_getElem? (i := 322) (by decide +kernel)⟩
theorem lw_p4 : lw_okq (⟨"UpWithSheaf", "refusalAhead", "(II)I"⟩, 9) := ⟨⟨by decide +kernel, by decide +kernel⟩, List.mem_of_getElem? (i := 12) (by decide +kernel), List.mem_of_getElem? (i := 377) (by decide +kernel), List.mem_of_getElem? (i := 378) (by decide +kernel)⟩
theorem lw_p5 : lw_okq (⟨"UpWithSheaf$Sheets", "outHere", "(I)I"⟩, 2) := ⟨⟨by decide +kernel, by decide +kernel⟩, List.mem_of_getElem? (i := 125) (by decide +kernel), List.mem_of_getElem? (i := 436) (by decide +kernel), List.mem_of_getElem? (i := 437) (by decide +kernel)⟩
theorem lw_p6 : lw_okq (⟨"UpWithSheaf$Sheets", "goOn", "(ZZ)V"⟩, 2) := ⟨⟨by decide +kernel, by decide +kernel⟩, List.mem_of_getElem? (i := 125) (by decide +kernel), List.mem_of_getElem? (i := 440) (by decide +kernel), List.mem_of_getElem? (i := 441) (by decide +kernel)⟩
theorem lw_p7 : lw_okq (⟨"UpWithSheafModel", "fits", "(I)Z"⟩, 17) := ⟨⟨by decide +kernel, by decide +kernel⟩, List.mem_of_getElem? (i := 482) (by decide +kernel), List.mem_of_getElem? (i := 558) (by decide +kernel), List.mem_of_getElem? (i := 559) (by decide +kernel)⟩
theorem lw_p8 : lw_okq (⟨"UpWithSheafModel", "isThrower", "(I)Z"⟩, 17) := ⟨⟨by decide +kernel, by decide +kernel⟩, List.mem_of_getElem? (i := 482) (by decide +kernel), List.mem_of_getElem? (i := 574) (by decide +kernel), List.mem_of_getElem? (i := 575) (by decide +kernel)⟩
theorem lw_p9 : lw_okq (⟨"UpWithSheafModel", "mark", "(III)I"⟩, 17) := ⟨⟨by decide +kernel, by decide +kernel⟩, List.mem_of_getElem? (i := 482) (by decide +kernel), List.mem_of_getElem? (i := 578) (by decide +kernel), List.mem_of_getElem? (i := 579) (by decide +kernel)⟩
theorem lw_p10 : lw_okq (⟨"UpWithSheafModel", "rankOf", "(II)I"⟩, 17) := ⟨⟨by decide +kernel, by decide +kernel⟩, List.mem_of_getElem? (i := 482) (by decide +kernel), List.mem_of_getElem? (i := 590) (by decide +kernel), List.mem_of_getElem? (i := 591) (by decide +kernel)⟩
theorem lw_p11 : lw_okq (⟨"UpWithSheafModel", "valueOf", "(II)I"⟩, 17) := ⟨⟨by decide +kernel, by decide +kernel⟩, List.mem_of_getElem? (i := 482) (by decide +kernel), List.mem_of_getElem? (i := 594) (by decide +kernel), List.mem_of_getElem? (i := 595) (by decide +kernel)⟩
theorem lw_p12 : lw_okq (⟨"UpWithSheafModel", "oddsOf", "(III)I"⟩, 17) := ⟨⟨by decide +kernel, by decide +kernel⟩, List.mem_of_getElem? (i := 482) (by decide +kernel), List.mem_of_getElem? (i := 607) (by decide +kernel), List.mem_of_getElem? (i := 608) (by decide +kernel)⟩
theorem lw_p13 : lw_okq (⟨"UpWithSheafModel", "act", "(I)I"⟩, 17) := ⟨⟨by decide +kernel, by decide +kernel⟩, List.mem_of_getElem? (i := 482) (by decide +kernel), List.mem_of_getElem? (i := 615) (by decide +kernel), List.mem_of_getElem? (i := 616) (by decide +kernel)⟩
theorem lw_p14 : lw_okq (⟨"UpWithSheafModel", "keepAct", "()V"⟩, 17) := ⟨⟨by decide +kernel, by decide +kernel⟩, List.mem_of_getElem? (i := 482) (by decide +kernel), List.mem_of_getElem? (i := 619) (by decide +kernel), List.mem_of_getElem? (i := 620) (by decide +kernel)⟩
theorem lw_p15 : lw_okq (⟨"UpWithSheafModel", "make", "(II)V"⟩, 17) := ⟨⟨by decide +kernel, by decide +kernel⟩, List.mem_of_getElem? (i := 482) (by decide +kernel), List.mem_of_getElem? (i := 623) (by decide +kernel), List.mem_of_getElem? (i := 624) (by decide +kernel)⟩
def lw_privs_1 : List (MethodName × Nat) := [(⟨"UpWithSheaf$Text", "figureAt", "(I)I"⟩, 2), (⟨"UpWithSheaf$Contest", "nextBehind", "(I)I"⟩, 4), (⟨"UpWithSheaf", "act", "(I)I"⟩, 9), (⟨"UpWithSheaf$Contest", "raise", "()V"⟩, 4), (⟨"UpWithSheaf", "refusalAhead", "(II)I"⟩, 9), (⟨"UpWithSheaf$Sheets", "outHere", "(I)I"⟩, 2), (⟨"UpWithSheaf$Sheets", "goOn", "(ZZ)V"⟩, 2), (⟨"UpWithSheafModel", "fits", "(I)Z"⟩, 17), (⟨"UpWithSheafModel", "isThrower", "(I)Z"⟩, 17), (⟨"UpWithSheafModel", "mark", "(III)I"⟩, 17), (⟨"UpWithSheafModel", "rankOf", "(II)I"⟩, 17), (⟨"UpWithSheafModel", "valueOf", "(II)I"⟩, 17), (⟨"UpWithSheafModel", "oddsOf", "(III)I"⟩, 17), (⟨"UpWithSheafModel", "act", "(I)I"⟩, 17), (⟨"UpWithSheafModel", "keepAct", "()V"⟩, 17), (⟨"UpWithSheafModel", "make", "(II)V"⟩, 17)]
theorem lw_r1 : ∀ q ∈ lw_privs_1, lw_okq q := List.forall_mem_cons.mpr ⟨lw_p0, List.forall_mem_cons.mpr ⟨lw_p1, List.forall_mem_cons.mpr ⟨lw_p2, List.forall_mem_cons.mpr ⟨lw_p3, List.forall_mem_cons.mpr ⟨lw_p4, List.forall_mem_cons.mpr ⟨lw_p5, List.forall_mem_cons.mpr ⟨lw_p6, List.forall_mem_cons.mpr ⟨lw_p7, List.forall_mem_cons.mpr ⟨lw_p8, List.forall_mem_cons.mpr ⟨lw_p9, List.forall_mem_cons.mpr ⟨lw_p10, List.forall_mem_cons.mpr ⟨lw_p11, List.forall_mem_cons.mpr ⟨lw_p12, List.forall_mem_cons.mpr ⟨lw_p13, List.forall_mem_cons.mpr ⟨lw_p14, List.forall_mem_cons.mpr ⟨lw_p15, fun _ h => absurd h List.not_mem_nil⟩⟩⟩⟩⟩⟩⟩⟩⟩⟩⟩⟩⟩⟩⟩⟩
theorem lw_p16 : lw_okq (⟨"UpWithSheafModel", "set", "(IIII)V"⟩, 17) := ⟨⟨by decide +kernel, by decide +kernel⟩, List.mem_of_getElem? (i := 482) (by decide +kernel), List.mem_of_getElem? (i := 627) (by decide +kernel), List.mem_of_getElem? (i := 628) (by decide +kernel)⟩
theorem lw_p17 : lw_okq (⟨"UpWithSheafModel", "goOn", "(I)V"⟩, 17) := ⟨⟨by decide +kernel, by decide +kernel⟩, List.mem_of_getElem? (i := 482) (by decide +kernel), List.mem_of_getElem? (i := 631) (by decide +kernel), List.mem_of_getElem? (i := 632) (by decide +kernel)⟩
theorem lw_p18 : lw_okq (⟨"UpWithSheafModel", "nextIn", "(II)I"⟩, 17) := ⟨⟨by decide +kernel, by decide +kernel⟩, List.mem_of_getElem? (i := 482) (by decide +kernel), List.mem_of_getElem? (i := 635) (by decide +kernel), List.mem_of_getElem? (i := 636) (by decide +kernel)⟩
theorem lw_p19 : lw_okq (⟨"UpWithSheafModel", "copyNow", "()V"⟩, 17) := ⟨⟨by decide +kernel, by decide +kernel⟩, List.mem_of_getElem? (i := 482) (by decide +kernel), List.mem_of_getElem? (i := 655) (by decide +kernel), List.mem_of_getElem? (i := 656) (by decide +kernel)⟩
theorem lw_p20 : lw_okq (⟨"UpWithSheafModel", "isOut", "(I)Z"⟩, 17) := ⟨⟨by decide +kernel, by decide +kernel⟩, List.mem_of_getElem? (i := 482) (by decide +kernel), List.mem_of_getElem? (i := 663) (by decide +kernel), List.mem_of_getElem? (i := 664) (by decide +kernel)⟩
theorem lw_p21 : lw_okq (⟨"UpWithSheafModel", "clearsOf", "(I)I"⟩, 17) := ⟨⟨by decide +kernel, by decide +kernel⟩, List.mem_of_getElem? (i := 482) (by decide +kernel), List.mem_of_getElem? (i := 667) (by decide +kernel), List.mem_of_getElem? (i := 668) (by decide +kernel)⟩
theorem lw_p22 : lw_okq (⟨"UpWithSheafModel", "refused", "(II)I"⟩, 17) := ⟨⟨by decide +kernel, by decide +kernel⟩, List.mem_of_getElem? (i := 482) (by decide +kernel), List.mem_of_getElem? (i := 679) (by decide +kernel), List.mem_of_getElem? (i := 680) (by decide +kernel)⟩
theorem lw_p23 : lw_okq (⟨"UpWithSheafModel", "layMeans", "(II)V"⟩, 17) := ⟨⟨by decide +kernel, by decide +kernel⟩, List.mem_of_getElem? (i := 482) (by decide +kernel), List.mem_of_getElem? (i := 684) (by decide +kernel), List.mem_of_getElem? (i := 685) (by decide +kernel)⟩
theorem lw_p24 : lw_okq (⟨"UpWithSheafModel", "layMean", "(IIIII)V"⟩, 17) := ⟨⟨by decide +kernel, by decide +kernel⟩, List.mem_of_getElem? (i := 482) (by decide +kernel), List.mem_of_getElem? (i := 691) (by decide +kernel), List.mem_of_getElem? (i := 692) (by decide +kernel)⟩
theorem lw_p25 : lw_okq (⟨"UpWithSheafModel", "partsOf", "(III)J"⟩, 17) := ⟨⟨by decide +kernel, by decide +kernel⟩, List.mem_of_getElem? (i := 482) (by decide +kernel), List.mem_of_getElem? (i := 703) (by decide +kernel), List.mem_of_getElem? (i := 704) (by decide +kernel)⟩
theorem lw_p26 : lw_okq (⟨"UpWithSheafModel", "winners", "(I)I"⟩, 17) := ⟨⟨by decide +kernel, by decide +kernel⟩, List.mem_of_getElem? (i := 482) (by decide +kernel), List.mem_of_getElem? (i := 728) (by decide +kernel), List.mem_of_getElem? (i := 729) (by decide +kernel)⟩
theorem lw_p27 : lw_okq (⟨"UpWithSheafModel", "those", "(I)I"⟩, 17) := ⟨⟨by decide +kernel, by decide +kernel⟩, List.mem_of_getElem? (i := 482) (by decide +kernel), List.mem_of_getElem? (i := 744) (by decide +kernel), List.mem_of_getElem? (i := 745) (by decide +kernel)⟩
def lw_privs_2 : List (MethodName × Nat) := [(⟨"UpWithSheafModel", "set", "(IIII)V"⟩, 17), (⟨"UpWithSheafModel", "goOn", "(I)V"⟩, 17), (⟨"UpWithSheafModel", "nextIn", "(II)I"⟩, 17), (⟨"UpWithSheafModel", "copyNow", "()V"⟩, 17), (⟨"UpWithSheafModel", "isOut", "(I)Z"⟩, 17), (⟨"UpWithSheafModel", "clearsOf", "(I)I"⟩, 17), (⟨"UpWithSheafModel", "refused", "(II)I"⟩, 17), (⟨"UpWithSheafModel", "layMeans", "(II)V"⟩, 17), (⟨"UpWithSheafModel", "layMean", "(IIIII)V"⟩, 17), (⟨"UpWithSheafModel", "partsOf", "(III)J"⟩, 17), (⟨"UpWithSheafModel", "winners", "(I)I"⟩, 17), (⟨"UpWithSheafModel", "those", "(I)I"⟩, 17)]
theorem lw_r2 : ∀ q ∈ lw_privs_2, lw_okq q := List.forall_mem_cons.mpr ⟨lw_p16, List.forall_mem_cons.mpr ⟨lw_p17, List.forall_mem_cons.mpr ⟨lw_p18, List.forall_mem_cons.mpr ⟨lw_p19, List.forall_mem_cons.mpr ⟨lw_p20, List.forall_mem_cons.mpr ⟨lw_p21, List.forall_mem_cons.mpr ⟨lw_p22, List.forall_mem_cons.mpr ⟨lw_p23, List.forall_mem_cons.mpr ⟨lw_p24, List.forall_mem_cons.mpr ⟨lw_p25, List.forall_mem_cons.mpr ⟨lw_p26, List.forall_mem_cons.mpr ⟨lw_p27, fun _ h => absurd h List.not_mem_nil⟩⟩⟩⟩⟩⟩⟩⟩⟩⟩⟩⟩
def lw_privs : List (MethodName × Nat) := lw_privs_1 ++ (lw_privs_2)
def lw_tbl : List Cond := k2_sels lw_privs ++ tables_1
theorem lw_privs_ok : ∀ q ∈ lw_privs, lw_okq q := by
  show ∀ q ∈ lw_privs_1 ++ (lw_privs_2), lw_okq q
  exact List.forall_mem_append.mpr ⟨lw_r1, lw_r2⟩

def RX0 : String := "UpWithSheaf$Acts"
def TX0 : u_T := fun k => match k with
  | 0 => ("UpWithSheaf$Acts", "ahead", "[LUpWithSheaf$Contest;", true)
  | 1 => ("UpWithSheaf$Acts", "size", "I", false)
  | _ => ("UpWithSheaf$Acts", "next", "I", false)
def tyX0 : Nat → FieldType := fun k => match k with
  | 0 => .array (.object "UpWithSheaf$Contest")
  | 1 => .int
  | _ => .int
abbrev wsX00 : List Cond := u_ws RX0 TX0 3
theorem nmX0 : ∀ a, a < 3 → ∀ b, b < 3 → a ≠ b → (TX0 a).2.1 ≠ (TX0 b).2.1 := by decide +kernel
theorem tyX0_ok : ∀ k, k < 3 → parseFieldDescriptor (TX0 k).2.2.1 = some (tyX0 k) := by decide +kernel
abbrev cX0_init : ByteArray := prog_2_method_1_code
def yX0_init : MethodName := ⟨RX0, "<init>", "()V"⟩
abbrev cX0_forget : ByteArray := prog_2_method_2_code
def yX0_forget : MethodName := ⟨RX0, "forget", "()V"⟩
abbrev cX0_remember : ByteArray := prog_2_method_3_code
def yX0_remember : MethodName := ⟨RX0, "remember", "(LUpWithSheaf$Contest;)V"⟩
abbrev cX0_takeBack : ByteArray := prog_2_method_4_code
def yX0_takeBack : MethodName := ⟨RX0, "takeBack", "(LUpWithSheaf$Contest;)V"⟩
def RX1 : String := "UpWithSheaf$Ahead"
def TX1 : u_T := fun k => match k with
  | _ => ("", "", "", false)
def tyX1 : Nat → FieldType := fun k => match k with
  | _ => .int
abbrev wsX10 : List Cond := u_ws RX1 TX1 0
theorem nmX1 : ∀ a, a < 0 → ∀ b, b < 0 → a ≠ b → (TX1 a).2.1 ≠ (TX1 b).2.1 := by decide +kernel
theorem tyX1_ok : ∀ k, k < 0 → parseFieldDescriptor (TX1 k).2.2.1 = some (tyX1 k) := by decide +kernel
abbrev cX1_wholeOf : ByteArray := prog_3_method_2_code
def yX1_wholeOf : MethodName := ⟨RX1, "wholeOf", "(LUpWithSheaf$Thrower;)J"⟩
abbrev cX1_failing : ByteArray := prog_3_method_3_code
def yX1_failing : MethodName := ⟨RX1, "failing", "(LUpWithSheaf$Thrower;I)J"⟩
abbrev cX1_greatest : ByteArray := prog_3_method_4_code
def yX1_greatest : MethodName := ⟨RX1, "greatest", "(LUpWithSheaf$Thrower;IIIIII)J"⟩
abbrev cX1_byTrying : ByteArray := prog_3_method_5_code
def yX1_byTrying : MethodName := ⟨RX1, "byTrying", "(LUpWithSheaf$Thrower;IIIIII)J"⟩
abbrev cX1_bySparing : ByteArray := prog_3_method_6_code
def yX1_bySparing : MethodName := ⟨RX1, "bySparing", "(LUpWithSheaf$Thrower;IIIIII)J"⟩
abbrev cX1_unbeaten : ByteArray := prog_3_method_7_code
def yX1_unbeaten : MethodName := ⟨RX1, "unbeaten", "(LUpWithSheaf$Contest;I[LUpWithSheaf$Thrower;III)J"⟩
abbrev cX1_noOtherBeats : ByteArray := prog_3_method_8_code
def yX1_noOtherBeats : MethodName := ⟨RX1, "noOtherBeats", "(LUpWithSheaf$Contest;ILUpWithSheaf$Thrower;)Z"⟩
abbrev cX1_unitsLeft : ByteArray := prog_3_method_9_code
def yX1_unitsLeft : MethodName := ⟨RX1, "unitsLeft", "(I)J"⟩
def RX2 : String := "UpWithSheaf$Contest"
def TX2 : u_T := fun k => match k with
  | 0 => ("UpWithSheaf$Contest", "throwers", "[LUpWithSheaf$Thrower;", true)
  | 1 => ("UpWithSheaf$Contest", "size", "I", false)
  | 2 => ("UpWithSheaf$Contest", "bar", "I", false)
  | _ => ("UpWithSheaf$Contest", "turn", "I", false)
def tyX2 : Nat → FieldType := fun k => match k with
  | 0 => .array (.object "UpWithSheaf$Thrower")
  | 1 => .int
  | 2 => .int
  | _ => .int
abbrev wsX20 : List Cond := u_ws RX2 TX2 4
theorem nmX2 : ∀ a, a < 4 → ∀ b, b < 4 → a ≠ b → (TX2 a).2.1 ≠ (TX2 b).2.1 := by decide +kernel
theorem tyX2_ok : ∀ k, k < 4 → parseFieldDescriptor (TX2 k).2.2.1 = some (tyX2 k) := by decide +kernel
abbrev cX2_init : ByteArray := prog_4_method_1_code
def yX2_init : MethodName := ⟨RX2, "<init>", "()V"⟩
abbrev cX2_startFrom : ByteArray := prog_4_method_2_code
def yX2_startFrom : MethodName := ⟨RX2, "startFrom", "(LUpWithSheaf$Text;)V"⟩
abbrev cX2_copyFrom : ByteArray := prog_4_method_3_code
def yX2_copyFrom : MethodName := ⟨RX2, "copyFrom", "(LUpWithSheaf$Contest;)V"⟩
abbrev cX2_knows : ByteArray := prog_4_method_4_code
def yX2_knows : MethodName := ⟨RX2, "knows", "(I)Z"⟩
abbrev cX2_isEnded : ByteArray := prog_4_method_5_code
def yX2_isEnded : MethodName := ⟨RX2, "isEnded", "()Z"⟩
abbrev cX2_act : ByteArray := prog_4_method_6_code
def yX2_act : MethodName := ⟨RX2, "act", "(I)V"⟩
abbrev cX2_raise : ByteArray := prog_4_method_7_code
def yX2_raise : MethodName := ⟨RX2, "raise", "()V"⟩
abbrev cX2_nextBehind : ByteArray := prog_4_method_8_code
def yX2_nextBehind : MethodName := ⟨RX2, "nextBehind", "(I)I"⟩
abbrev cX2_oddsOfTurn : ByteArray := prog_4_method_9_code
def yX2_oddsOfTurn : MethodName := ⟨RX2, "oddsOfTurn", "()I"⟩
abbrev cX2_betterThan : ByteArray := prog_4_method_10_code
def yX2_betterThan : MethodName := ⟨RX2, "betterThan", "(LUpWithSheaf$Thrower;)I"⟩
abbrev cX2_leaders : ByteArray := prog_4_method_11_code
def yX2_leaders : MethodName := ⟨RX2, "leaders", "()I"⟩
abbrev cX2_who : ByteArray := prog_4_method_12_code
def yX2_who : MethodName := ⟨RX2, "who", "(I)I"⟩
abbrev cX2_notOut : ByteArray := prog_4_method_13_code
def yX2_notOut : MethodName := ⟨RX2, "notOut", "()I"⟩
def RX3 : String := "UpWithSheaf$Sheets"
def TX3 : u_T := fun k => match k with
  | 0 => ("UpWithSheaf$Sheets", "ways", "[[I", true)
  | _ => ("UpWithSheaf$Sheets", "then", "[[I", true)
def tyX3 : Nat → FieldType := fun k => match k with
  | 0 => .array (.array .int)
  | _ => .array (.array .int)
abbrev wsX30 : List Cond := u_ws RX3 TX3 2
theorem nmX3 : ∀ a, a < 2 → ∀ b, b < 2 → a ≠ b → (TX3 a).2.1 ≠ (TX3 b).2.1 := by decide +kernel
theorem tyX3_ok : ∀ k, k < 2 → parseFieldDescriptor (TX3 k).2.2.1 = some (tyX3 k) := by decide +kernel
abbrev cX3_init : ByteArray := prog_5_method_1_code
def yX3_init : MethodName := ⟨RX3, "<init>", "()V"⟩
abbrev cX3_such : ByteArray := prog_5_method_2_code
def yX3_such : MethodName := ⟨RX3, "such", "(III)I"⟩
abbrev cX3_outHere : ByteArray := prog_5_method_3_code
def yX3_outHere : MethodName := ⟨RX3, "outHere", "(I)I"⟩
abbrev cX3_goOn : ByteArray := prog_5_method_4_code
def yX3_goOn : MethodName := ⟨RX3, "goOn", "(ZZ)V"⟩
abbrev cX3_empty : ByteArray := prog_5_method_5_code
def yX3_empty : MethodName := ⟨RX3, "empty", "([[I)V"⟩
def RX4 : String := "UpWithSheaf$Text"
def TX4 : u_T := fun k => match k with
  | 0 => ("UpWithSheaf$Text", "bytes", "[I", true)
  | _ => ("UpWithSheaf$Text", "length", "I", false)
def tyX4 : Nat → FieldType := fun k => match k with
  | 0 => .array .int
  | _ => .int
abbrev wsX40 : List Cond := u_ws RX4 TX4 2
theorem nmX4 : ∀ a, a < 2 → ∀ b, b < 2 → a ≠ b → (TX4 a).2.1 ≠ (TX4 b).2.1 := by decide +kernel
theorem tyX4_ok : ∀ k, k < 2 → parseFieldDescriptor (TX4 k).2.2.1 = some (tyX4 k) := by decide +kernel
abbrev cX4_init : ByteArray := prog_6_method_1_code
def yX4_init : MethodName := ⟨RX4, "<init>", "()V"⟩
abbrev cX4_append : ByteArray := prog_6_method_2_code
def yX4_append : MethodName := ⟨RX4, "append", "(IJ)V"⟩
abbrev cX4_firstFault : ByteArray := prog_6_method_3_code
def yX4_firstFault : MethodName := ⟨RX4, "firstFault", "()I"⟩
abbrev cX4_canStand : ByteArray := prog_6_method_4_code
def yX4_canStand : MethodName := ⟨RX4, "canStand", "(II)Z"⟩
abbrev cX4_throwersTold : ByteArray := prog_6_method_5_code
def yX4_throwersTold : MethodName := ⟨RX4, "throwersTold", "()I"⟩
abbrev cX4_barTold : ByteArray := prog_6_method_6_code
def yX4_barTold : MethodName := ⟨RX4, "barTold", "()I"⟩
abbrev cX4_strengthTold : ByteArray := prog_6_method_7_code
def yX4_strengthTold : MethodName := ⟨RX4, "strengthTold", "(I)I"⟩
abbrev cX4_windTold : ByteArray := prog_6_method_8_code
def yX4_windTold : MethodName := ⟨RX4, "windTold", "(I)I"⟩
abbrev cX4_figureAt : ByteArray := prog_6_method_9_code
def yX4_figureAt : MethodName := ⟨RX4, "figureAt", "(I)I"⟩
def RX5 : String := "UpWithSheaf$Thrower"
def TX5 : u_T := fun k => match k with
  | 0 => ("UpWithSheaf$Thrower", "strength", "I", false)
  | 1 => ("UpWithSheaf$Thrower", "wind", "I", false)
  | 2 => ("UpWithSheaf$Thrower", "tries", "I", false)
  | 3 => ("UpWithSheaf$Thrower", "running", "I", false)
  | 4 => ("UpWithSheaf$Thrower", "best", "I", false)
  | 5 => ("UpWithSheaf$Thrower", "there", "I", false)
  | 6 => ("UpWithSheaf$Thrower", "misses", "I", false)
  | 7 => ("UpWithSheaf$Thrower", "how", "I", false)
  | _ => ("UpWithSheaf$Thrower", "here", "I", false)
def tyX5 : Nat → FieldType := fun k => match k with
  | 0 => .int
  | 1 => .int
  | 2 => .int
  | 3 => .int
  | 4 => .int
  | 5 => .int
  | 6 => .int
  | 7 => .int
  | _ => .int
abbrev wsX50 : List Cond := u_ws RX5 TX5 9
theorem nmX5 : ∀ a, a < 9 → ∀ b, b < 9 → a ≠ b → (TX5 a).2.1 ≠ (TX5 b).2.1 := by decide +kernel
theorem tyX5_ok : ∀ k, k < 9 → parseFieldDescriptor (TX5 k).2.2.1 = some (tyX5 k) := by decide +kernel
abbrev cX5_init : ByteArray := prog_7_method_1_code
def yX5_init : MethodName := ⟨RX5, "<init>", "()V"⟩
abbrev cX5_start : ByteArray := prog_7_method_2_code
def yX5_start : MethodName := ⟨RX5, "start", "(II)V"⟩
abbrev cX5_copyFrom : ByteArray := prog_7_method_3_code
def yX5_copyFrom : MethodName := ⟨RX5, "copyFrom", "(LUpWithSheaf$Thrower;)V"⟩
abbrev cX5_isOut : ByteArray := prog_7_method_4_code
def yX5_isOut : MethodName := ⟨RX5, "isOut", "()Z"⟩
abbrev cX5_mayTry : ByteArray := prog_7_method_5_code
def yX5_mayTry : MethodName := ⟨RX5, "mayTry", "()Z"⟩
abbrev cX5_attempt : ByteArray := prog_7_method_6_code
def yX5_attempt : MethodName := ⟨RX5, "attempt", "(ZI)V"⟩
abbrev cX5_rest : ByteArray := prog_7_method_7_code
def yX5_rest : MethodName := ⟨RX5, "rest", "()V"⟩
abbrev cX5_startHeight : ByteArray := prog_7_method_8_code
def yX5_startHeight : MethodName := ⟨RX5, "startHeight", "()V"⟩
abbrev cX5_oddsAt : ByteArray := prog_7_method_9_code
def yX5_oddsAt : MethodName := ⟨RX5, "oddsAt", "(II)I"⟩
abbrev cX5_isBetterThan : ByteArray := prog_7_method_10_code
def yX5_isBetterThan : MethodName := ⟨RX5, "isBetterThan", "(LUpWithSheaf$Thrower;)Z"⟩
abbrev cX5_told : ByteArray := prog_7_method_11_code
def yX5_told : MethodName := ⟨RX5, "told", "(I)I"⟩
def RX6 : String := "UpWithSheaf"
def TX6 : u_T := fun k => match k with
  | 0 => ("UpWithSheaf", "text", "LUpWithSheaf$Text;", true)
  | 1 => ("UpWithSheaf", "contest", "LUpWithSheaf$Contest;", true)
  | 2 => ("UpWithSheaf", "tried", "LUpWithSheaf$Contest;", true)
  | 3 => ("UpWithSheaf", "acts", "LUpWithSheaf$Acts;", true)
  | 4 => ("UpWithSheaf", "slots", "[LUpWithSheaf$Contest;", true)
  | 5 => ("UpWithSheaf", "isKept", "[Z", true)
  | 6 => ("UpWithSheaf", "path", "[LUpWithSheaf$Thrower;", true)
  | 7 => ("UpWithSheaf", "counter", "LUpWithSheaf$Sheets;", true)
  | _ => ("UpWithSheaf", "theSeed", "J", false)
def tyX6 : Nat → FieldType := fun k => match k with
  | 0 => .object "UpWithSheaf$Text"
  | 1 => .object "UpWithSheaf$Contest"
  | 2 => .object "UpWithSheaf$Contest"
  | 3 => .object "UpWithSheaf$Acts"
  | 4 => .array (.object "UpWithSheaf$Contest")
  | 5 => .array .boolean
  | 6 => .array (.object "UpWithSheaf$Thrower")
  | 7 => .object "UpWithSheaf$Sheets"
  | _ => .long
abbrev wsX60 : List Cond := u_ws RX6 TX6 9
theorem nmX6 : ∀ a, a < 9 → ∀ b, b < 9 → a ≠ b → (TX6 a).2.1 ≠ (TX6 b).2.1 := by decide +kernel
theorem tyX6_ok : ∀ k, k < 9 → parseFieldDescriptor (TX6 k).2.2.1 = some (tyX6 k) := by decide +kernel
abbrev cX6_init : ByteArray := prog_1_method_1_code
def yX6_init : MethodName := ⟨RX6, "<init>", "()V"⟩
abbrev cX6_write : ByteArray := prog_1_method_2_code
def yX6_write : MethodName := ⟨RX6, "write", "(IJ)I"⟩
abbrev cX6_wipe : ByteArray := prog_1_method_3_code
def yX6_wipe : MethodName := ⟨RX6, "wipe", "()I"⟩
abbrev cX6_fault : ByteArray := prog_1_method_4_code
def yX6_fault : MethodName := ⟨RX6, "fault", "()I"⟩
abbrev cX6_field : ByteArray := prog_1_method_5_code
def yX6_field : MethodName := ⟨RX6, "field", "()I"⟩
abbrev cX6_thrower : ByteArray := prog_1_method_6_code
def yX6_thrower : MethodName := ⟨RX6, "thrower", "(II)I"⟩
abbrev cX6_on : ByteArray := prog_1_method_7_code
def yX6_on : MethodName := ⟨RX6, "on", "()I"⟩
abbrev cX6_rank : ByteArray := prog_1_method_8_code
def yX6_rank : MethodName := ⟨RX6, "rank", "(I)I"⟩
abbrev cX6_odds : ByteArray := prog_1_method_9_code
def yX6_odds : MethodName := ⟨RX6, "odds", "(II)I"⟩
abbrev cX6_toss : ByteArray := prog_1_method_10_code
def yX6_toss : MethodName := ⟨RX6, "toss", "(Z)I"⟩
abbrev cX6_spare : ByteArray := prog_1_method_11_code
def yX6_spare : MethodName := ⟨RX6, "spare", "()I"⟩
abbrev cX6_act : ByteArray := prog_1_method_12_code
def yX6_act : MethodName := ⟨RX6, "act", "(I)I"⟩
abbrev cX6_undo : ByteArray := prog_1_method_13_code
def yX6_undo : MethodName := ⟨RX6, "undo", "()I"⟩
abbrev cX6_judge : ByteArray := prog_1_method_14_code
def yX6_judge : MethodName := ⟨RX6, "judge", "(II)I"⟩
abbrev cX6_figureOf : ByteArray := prog_1_method_15_code
def yX6_figureOf : MethodName := ⟨RX6, "figureOf", "(II)I"⟩
abbrev cX6_clears : ByteArray := prog_1_method_16_code
def yX6_clears : MethodName := ⟨RX6, "clears", "(IZ)I"⟩
abbrev cX6_mean : ByteArray := prog_1_method_17_code
def yX6_mean : MethodName := ⟨RX6, "mean", "(IIZ)J"⟩
abbrev cX6_wise : ByteArray := prog_1_method_18_code
def yX6_wise : MethodName := ⟨RX6, "wise", "(II)I"⟩
abbrev cX6_first : ByteArray := prog_1_method_19_code
def yX6_first : MethodName := ⟨RX6, "first", "(IIZ)J"⟩
abbrev cX6_alone : ByteArray := prog_1_method_20_code
def yX6_alone : MethodName := ⟨RX6, "alone", "(IIZ)I"⟩
abbrev cX6_refusalAhead : ByteArray := prog_1_method_21_code
def yX6_refusalAhead : MethodName := ⟨RX6, "refusalAhead", "(II)I"⟩
abbrev cX6_leastTerms : ByteArray := prog_1_method_22_code
def yX6_leastTerms : MethodName := ⟨RX6, "leastTerms", "(JJZ)J"⟩
abbrev cX6_commonDivisor : ByteArray := prog_1_method_23_code
def yX6_commonDivisor : MethodName := ⟨RX6, "commonDivisor", "(JJ)J"⟩
abbrev cX6_sheets : ByteArray := prog_1_method_24_code
def yX6_sheets : MethodName := ⟨RX6, "sheets", "(III)I"⟩
abbrev cX6_seed : ByteArray := prog_1_method_25_code
def yX6_seed : MethodName := ⟨RX6, "seed", "(J)J"⟩
abbrev cX6_fair : ByteArray := prog_1_method_26_code
def yX6_fair : MethodName := ⟨RX6, "fair", "()I"⟩
abbrev cX6_keep : ByteArray := prog_1_method_27_code
def yX6_keep : MethodName := ⟨RX6, "keep", "(I)I"⟩
abbrev cX6_again : ByteArray := prog_1_method_28_code
def yX6_again : MethodName := ⟨RX6, "again", "(I)I"⟩
abbrev cX6_count : ByteArray := prog_1_method_29_code
def yX6_count : MethodName := ⟨RX6, "count", "(I)I"⟩
def RX7 : String := "UpWithSheafModel"
def TX7 : u_T := fun k => match k with
  | 0 => ("UpWithSheafModel", "throwers", "I", false)
  | 1 => ("UpWithSheafModel", "strength", "[I", true)
  | 2 => ("UpWithSheafModel", "wind", "[I", true)
  | 3 => ("UpWithSheafModel", "text", "[I", true)
  | 4 => ("UpWithSheafModel", "length", "I", false)
  | 5 => ("UpWithSheafModel", "now", "[I", true)
  | 6 => ("UpWithSheafModel", "acts", "I", false)
  | 7 => ("UpWithSheafModel", "next", "I", false)
  | 8 => ("UpWithSheafModel", "row", "[I", true)
  | 9 => ("UpWithSheafModel", "means", "[J", true)
  | 10 => ("UpWithSheafModel", "tried", "J", false)
  | 11 => ("UpWithSheafModel", "spared", "J", false)
  | 12 => ("UpWithSheafModel", "ways", "[I", true)
  | 13 => ("UpWithSheafModel", "later", "[I", true)
  | 14 => ("UpWithSheafModel", "seed", "J", false)
  | 15 => ("UpWithSheafModel", "isKept", "[Z", true)
  | _ => ("UpWithSheafModel", "kept", "[I", true)
def tyX7 : Nat → FieldType := fun k => match k with
  | 0 => .int
  | 1 => .array .int
  | 2 => .array .int
  | 3 => .array .int
  | 4 => .int
  | 5 => .array .int
  | 6 => .int
  | 7 => .int
  | 8 => .array .int
  | 9 => .array .long
  | 10 => .long
  | 11 => .long
  | 12 => .array .int
  | 13 => .array .int
  | 14 => .long
  | 15 => .array .boolean
  | _ => .array .int
abbrev wsX70 : List Cond := u_ws RX7 TX7 17
theorem nmX7 : ∀ a, a < 17 → ∀ b, b < 17 → a ≠ b → (TX7 a).2.1 ≠ (TX7 b).2.1 := by decide +kernel
theorem tyX7_ok : ∀ k, k < 17 → parseFieldDescriptor (TX7 k).2.2.1 = some (tyX7 k) := by decide +kernel
abbrev cX7_init : ByteArray := prog_9_method_1_code
def yX7_init : MethodName := ⟨RX7, "<init>", "()V"⟩
abbrev cX7_in : ByteArray := prog_9_method_3_code
def yX7_in : MethodName := ⟨RX7, "in", "(JJJ)Z"⟩
abbrev cX7_write : ByteArray := prog_9_method_4_code
def yX7_write : MethodName := ⟨RX7, "write", "(IJ)I"⟩
abbrev cX7_wipe : ByteArray := prog_9_method_5_code
def yX7_wipe : MethodName := ⟨RX7, "wipe", "()I"⟩
abbrev cX7_fits : ByteArray := prog_9_method_6_code
def yX7_fits : MethodName := ⟨RX7, "fits", "(I)Z"⟩
abbrev cX7_fault : ByteArray := prog_9_method_7_code
def yX7_fault : MethodName := ⟨RX7, "fault", "()I"⟩
abbrev cX7_field : ByteArray := prog_9_method_8_code
def yX7_field : MethodName := ⟨RX7, "field", "()I"⟩
abbrev cX7_isThrower : ByteArray := prog_9_method_9_code
def yX7_isThrower : MethodName := ⟨RX7, "isThrower", "(I)Z"⟩
abbrev cX7_mark : ByteArray := prog_9_method_10_code
def yX7_mark : MethodName := ⟨RX7, "mark", "(III)I"⟩
abbrev cX7_set : ByteArray := prog_9_method_11_code
def yX7_set : MethodName := ⟨RX7, "set", "(IIII)V"⟩
abbrev cX7_thrower : ByteArray := prog_9_method_12_code
def yX7_thrower : MethodName := ⟨RX7, "thrower", "(II)I"⟩
abbrev cX7_on : ByteArray := prog_9_method_13_code
def yX7_on : MethodName := ⟨RX7, "on", "()I"⟩
abbrev cX7_value : ByteArray := prog_9_method_14_code
def yX7_value : MethodName := ⟨RX7, "value", "(III)I"⟩
abbrev cX7_valueOf : ByteArray := prog_9_method_15_code
def yX7_valueOf : MethodName := ⟨RX7, "valueOf", "(II)I"⟩
abbrev cX7_rankOf : ByteArray := prog_9_method_16_code
def yX7_rankOf : MethodName := ⟨RX7, "rankOf", "(II)I"⟩
abbrev cX7_rank : ByteArray := prog_9_method_17_code
def yX7_rank : MethodName := ⟨RX7, "rank", "(I)I"⟩
abbrev cX7_oddsOf : ByteArray := prog_9_method_18_code
def yX7_oddsOf : MethodName := ⟨RX7, "oddsOf", "(III)I"⟩
abbrev cX7_odds : ByteArray := prog_9_method_19_code
def yX7_odds : MethodName := ⟨RX7, "odds", "(II)I"⟩
abbrev cX7_keepAct : ByteArray := prog_9_method_20_code
def yX7_keepAct : MethodName := ⟨RX7, "keepAct", "()V"⟩
abbrev cX7_nextIn : ByteArray := prog_9_method_21_code
def yX7_nextIn : MethodName := ⟨RX7, "nextIn", "(II)I"⟩
abbrev cX7_goOn : ByteArray := prog_9_method_22_code
def yX7_goOn : MethodName := ⟨RX7, "goOn", "(I)V"⟩
abbrev cX7_make : ByteArray := prog_9_method_23_code
def yX7_make : MethodName := ⟨RX7, "make", "(II)V"⟩
abbrev cX7_act : ByteArray := prog_9_method_24_code
def yX7_act : MethodName := ⟨RX7, "act", "(I)I"⟩
abbrev cX7_toss : ByteArray := prog_9_method_25_code
def yX7_toss : MethodName := ⟨RX7, "toss", "(Z)I"⟩
abbrev cX7_spare : ByteArray := prog_9_method_26_code
def yX7_spare : MethodName := ⟨RX7, "spare", "()I"⟩
abbrev cX7_undo : ByteArray := prog_9_method_27_code
def yX7_undo : MethodName := ⟨RX7, "undo", "()I"⟩
abbrev cX7_tenTo : ByteArray := prog_9_method_28_code
def yX7_tenTo : MethodName := ⟨RX7, "tenTo", "(I)J"⟩
abbrev cX7_copyNow : ByteArray := prog_9_method_29_code
def yX7_copyNow : MethodName := ⟨RX7, "copyNow", "()V"⟩
abbrev cX7_judge : ByteArray := prog_9_method_30_code
def yX7_judge : MethodName := ⟨RX7, "judge", "(II)I"⟩
abbrev cX7_common : ByteArray := prog_9_method_31_code
def yX7_common : MethodName := ⟨RX7, "common", "(JJ)J"⟩
abbrev cX7_clearsOf : ByteArray := prog_9_method_32_code
def yX7_clearsOf : MethodName := ⟨RX7, "clearsOf", "(I)I"⟩
abbrev cX7_isOut : ByteArray := prog_9_method_33_code
def yX7_isOut : MethodName := ⟨RX7, "isOut", "(I)Z"⟩
abbrev cX7_clears : ByteArray := prog_9_method_34_code
def yX7_clears : MethodName := ⟨RX7, "clears", "(IZ)I"⟩
abbrev cX7_place : ByteArray := prog_9_method_35_code
def yX7_place : MethodName := ⟨RX7, "place", "(IIII)I"⟩
abbrev cX7_layMeans : ByteArray := prog_9_method_36_code
def yX7_layMeans : MethodName := ⟨RX7, "layMeans", "(II)V"⟩
abbrev cX7_layMean : ByteArray := prog_9_method_37_code
def yX7_layMean : MethodName := ⟨RX7, "layMean", "(IIIII)V"⟩
abbrev cX7_refused : ByteArray := prog_9_method_38_code
def yX7_refused : MethodName := ⟨RX7, "refused", "(II)I"⟩
abbrev cX7_mean : ByteArray := prog_9_method_39_code
def yX7_mean : MethodName := ⟨RX7, "mean", "(IIZ)J"⟩
abbrev cX7_wise : ByteArray := prog_9_method_40_code
def yX7_wise : MethodName := ⟨RX7, "wise", "(II)I"⟩
abbrev cX7_partsOf : ByteArray := prog_9_method_41_code
def yX7_partsOf : MethodName := ⟨RX7, "partsOf", "(III)J"⟩
abbrev cX7_first : ByteArray := prog_9_method_42_code
def yX7_first : MethodName := ⟨RX7, "first", "(IIZ)J"⟩
abbrev cX7_alone : ByteArray := prog_9_method_43_code
def yX7_alone : MethodName := ⟨RX7, "alone", "(IIZ)I"⟩
abbrev cX7_sheets : ByteArray := prog_9_method_44_code
def yX7_sheets : MethodName := ⟨RX7, "sheets", "(III)I"⟩
abbrev cX7_seed : ByteArray := prog_9_method_45_code
def yX7_seed : MethodName := ⟨RX7, "seed", "(J)J"⟩
abbrev cX7_winners : ByteArray := prog_9_method_46_code
def yX7_winners : MethodName := ⟨RX7, "winners", "(I)I"⟩
abbrev cX7_fair : ByteArray := prog_9_method_47_code
def yX7_fair : MethodName := ⟨RX7, "fair", "()I"⟩
abbrev cX7_keep : ByteArray := prog_9_method_48_code
def yX7_keep : MethodName := ⟨RX7, "keep", "(I)I"⟩
abbrev cX7_again : ByteArray := prog_9_method_49_code
def yX7_again : MethodName := ⟨RX7, "again", "(I)I"⟩
abbrev cX7_those : ByteArray := prog_9_method_50_code
def yX7_those : MethodName := ⟨RX7, "those", "(I)I"⟩
abbrev cX7_count : ByteArray := prog_9_method_51_code
def yX7_count : MethodName := ⟨RX7, "count", "(I)I"⟩
def RJ9 : String := "java/lang/Math"
def TJ9 : u_T := fun k => match k with
  | _ => ("", "", "", false)
def tyJ9 : Nat → FieldType := fun k => match k with
  | _ => .int
abbrev wsJ90 : List Cond := u_ws RJ9 TJ9 0
theorem nmJ9 : ∀ a, a < 0 → ∀ b, b < 0 → a ≠ b → (TJ9 a).2.1 ≠ (TJ9 b).2.1 := by decide +kernel
theorem tyJ9_ok : ∀ k, k < 0 → parseFieldDescriptor (TJ9 k).2.2.1 = some (tyJ9 k) := by decide +kernel
abbrev cJ9_max_7cf53 : ByteArray := prog_10_method_65_code
def yJ9_max_7cf53 : MethodName := ⟨RJ9, "max", "(II)I"⟩
abbrev cJ9_max_f86c9 : ByteArray := prog_10_method_66_code
def yJ9_max_f86c9 : MethodName := ⟨RJ9, "max", "(JJ)J"⟩
abbrev cJ9_min_7cf53 : ByteArray := prog_10_method_69_code
def yJ9_min_7cf53 : MethodName := ⟨RJ9, "min", "(II)I"⟩
def RJ10 : String := "java/lang/System"
def TJ10 : u_T := fun k => match k with
  | _ => ("", "", "", false)
def tyJ10 : Nat → FieldType := fun k => match k with
  | _ => .int
abbrev wsJ100 : List Cond := u_ws RJ10 TJ10 0
theorem nmJ10 : ∀ a, a < 0 → ∀ b, b < 0 → a ≠ b → (TJ10 a).2.1 ≠ (TJ10 b).2.1 := by decide +kernel
theorem tyJ10_ok : ∀ k, k < 0 → parseFieldDescriptor (TJ10 k).2.2.1 = some (tyJ10 k) := by decide +kernel
def RL : String := "UpWithSheafLaw"
abbrev cL_law : ByteArray := code
def yL_law : MethodName := ⟨RL, "law", "([I)Z"⟩
abbrev vwCl : List vw_C := [(RX0, TX0, 3), (RX2, TX2, 4), (RX3, TX3, 2), (RX4, TX4, 2), (RX5, TX5, 9), (RX6, TX6, 9), (RX7, TX7, 17)]
/-- the words that every method of ours takes along -/
def GW : List Cond := lw_tbl.filter goodWord
theorem GW_tbl : ∀ w ∈ GW, w ∈ lw_tbl := fun _ h => (List.mem_filter.mp h).1
theorem GW_of {w : Cond} (h : w ∈ lw_tbl) (g : goodWord w = true) : w ∈ GW := List.mem_filter.mpr ⟨h, g⟩
theorem GW_good : GoodIn GW GW := fun _ h => ⟨h, good_of_word (List.mem_filter.mp h).2⟩
theorem gt_1 {w : Cond} (i : Nat) (h : tables_1_1[i]? = some w) (g : goodWord w = true) : w ∈ GW := GW_of ((fun (h : w ∈ tables_1_1) => (List.mem_append_right _ (List.mem_append_left _ h))) (List.mem_of_getElem? h)) g
theorem gt_2 {w : Cond} (i : Nat) (h : tables_1_2[i]? = some w) (g : goodWord w = true) : w ∈ GW := GW_of ((fun (h : w ∈ tables_1_2) => (List.mem_append_right _ (List.mem_append_right _ (List.mem_append_left _ h)))) (List.mem_of_getElem? h)) g
theorem gt_3 {w : Cond} (i : Nat) (h : tables_1_3[i]? = some w) (g : goodWord w = true) : w ∈ GW := GW_of ((fun (h : w ∈ tables_1_3) => (List.mem_append_right _ (List.mem_append_right _ (List.mem_append_right _ (List.mem_append_left _ h))))) (List.mem_of_getElem? h)) g
theorem gt_4 {w : Cond} (i : Nat) (h : tables_1_4[i]? = some w) (g : goodWord w = true) : w ∈ GW := GW_of ((fun (h : w ∈ tables_1_4) => (List.mem_append_right _ (List.mem_append_right _ (List.mem_append_right _ (List.mem_append_right _ h))))) (List.mem_of_getElem? h)) g
theorem gt_s {w : Cond} (i : Nat) (h : (k2_sels lw_privs)[i]? = some w) (g : goodWord w = true) : w ∈ GW := GW_of (List.mem_append_left _ (List.mem_of_getElem? h)) g
