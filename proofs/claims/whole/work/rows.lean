section
/-- a private method of a class that the tables say can be made, by its rows of tables_1 -/
def lw_okq (q : MethodName × Nat) : Prop := (q.1.cls ≠ "java/lang/invoke/MethodHandle" ∧ q.1.cls ≠ "java/lang/invoke/VarHandle") ∧ Cond.instantiable q.1.cls q.2 ∈ tables_1 ∧ Cond.privateMethod q.1 ∈ tables_1 ∧ Cond.instanceMethod q.1 ∈ tables_1
theorem lw_p0 : lw_okq (⟨"UpWithSheaf$Text", "figureAt", "(I)I"⟩, 2) := ⟨⟨by decide +kernel, by decide +kernel⟩, List.mem_of_getElem? (i := 20) (by decide +kernel), List.mem_of_getElem? (i := 211) (by decide +kernel), List.mem_of_getElem? (i := 212) (by decide +kernel)⟩
theorem lw_p1 : lw_okq (⟨"UpWithSheaf$Contest", "nextBehind", "(I)I"⟩, 4) := ⟨⟨by decide +kernel, by decide +kernel⟩, List.mem_of_getElem? (i := 35) (by decide +kernel), List.mem_of_getElem? (i := 224) (by decide +kernel), List.mem_of_getElem? (i := 225) (by decide +kernel)⟩
theorem lw_p2 : lw_okq (⟨"UpWithSheaf", "act", "(I)I"⟩, 9) := ⟨⟨by decide +kernel, by decide +kernel⟩, List.mem_of_getElem? (i := 12) (by decide +kernel), List.mem_of_getElem? (i := 281) (by decide +kernel), List.mem_of_getElem? (i := 282) (by decide +kernel)⟩
theorem lw_p3 : lw_okq (⟨"UpWithSheaf$Contest", "raise", "()V"⟩, 4) := ⟨⟨by decide +kernel, by decide +kernel⟩, List.mem_of_getElem? (i := 35) (by decide +kernel), List.mem_of_getElem? (i := 321) (by decide +kernel), List.mem_of_getElem? (i := 322) (by decide +kernel)⟩
theorem lw_p4 : lw_okq (⟨"UpWithSheaf", "refusalAhead", "(II)I"⟩, 9) := ⟨⟨by decide +kernel, by decide +kernel⟩, List.mem_of_getElem? (i := 12) (by decide +kernel), List.mem_of_getElem? (i := 377) (by decide +kernel), List.mem_of_getElem? (i := 378) (by decide +kernel)⟩
theorem lw_p5 : lw_okq (⟨"UpWithSheaf$Sheets", "outHere", "(I)I"⟩, 2) := ⟨⟨by decide +kernel, by decide +kernel⟩, List.mem_of_getElem? (i := 125) (by decide +kernel), List.mem_of_getElem? (i := 436) (by decide +kernel), List.mem_of_getElem? (i := 437) (by decide +kernel)⟩
theorem lw_p6 : lw_okq (⟨"UpWithSheaf$Sheets", "goOn", "(ZZ)V"⟩, 2) := ⟨⟨by decide +kernel, by decide +kernel⟩, List.mem_of_getElem? (i := 125) (by decide +kernel), List.mem_of_getElem? (i := 440) (by decide +kernel), List.mem_of_getElem? (i := 441) (by decide +kernel)⟩
theorem lw_p7 : lw_okq (⟨"UpWithSheafModel", "fits", "(I)Z"⟩, 17) := ⟨⟨by decide +kernel, by decide +kernel⟩, List.mem_of_getElem? (i := 482) (by decide +kernel), List.mem_of_getElem? (i := 558) (by decide +kernel), List.mem_of_getElem? (i := 559) (by decide +kernel)⟩
theorem lw_p8 : lw_okq (⟨"UpWithSheafModel", "isThrower", "(I)Z"⟩, 17) := ⟨⟨by decide +kernel, by decide +kernel⟩, List.mem_of_getElem? (i := 482) (by decide +kernel), List.mem_of_getElem? (i := 574) (by decide +kernel), List.mem_of_getElem? (i := 575) (by decide +kernel)⟩
theorem lw_p9 : lw_okq (⟨"UpWithSheafModel", "mark", "(III)I"⟩, 17) := ⟨⟨by decide +kernel, by decide +kernel⟩, List.mem_of_getElem? (i := 482) (by decide +kernel), List.mem_of_getElem? (i := 578) (by decide +kernel), List.mem_of_getElem? (i := 579) (by decide +kernel)⟩
theorem lw_p10 : lw_okq (⟨"UpWithSheafModel", "rankOf", "(II)I"⟩, 17) := ⟨⟨by decide +kernel, by decide +kernel⟩, List.mem_of_getElem? (i := 482) (by decide +kernel), List.mem_of_getElem? (i := 590) (by decide +kernel), List.mem_of_getElem? (i := 591) (by decide +kernel)⟩
theorem lw_p11 : lw_okq (⟨"UpWithSheafModel", "valueOf", "(II)I"⟩, 17) := ⟨⟨by decide +kernel, by decide +kernel⟩, List.mem_of_getElem? (i := 482) (by decide +kernel), List.mem_of_getElem? (i := 594) (by decide +kernel), List.mem_of_getElem? (i := 595) (by decide +kernel)⟩
theorem lw_p12 : lw_okq (⟨"UpWithSheafModel", "oddsOf", "(III)I"⟩, 17) := ⟨⟨by decide +kernel, by decide +kernel⟩, List.mem_of_getElem? (i := 482) (by decide +kernel), List.mem_of_getElem? (i := 607) (by decide +kernel), List.mem_of_getElem? (i := 608) (by decide +kernel)⟩
theorem lw_p13 : lw_okq (⟨"UpWithSheafModel", "act", "(I)I"⟩, 17) := ⟨⟨by decide +kernel, by decide +kernel⟩, List.mem_of_getElem? (i := 482) (by decide +kernel), List.mem_of_getElem? (i := 615) (by decide +kernel), List.mem_of_getElem? (i := 616) (by decide +kernel)⟩
theorem lw_p14 : lw_okq (⟨"UpWithSheafModel", "keepAct", "()V"⟩, 17) := ⟨⟨by decide +kernel, by decide +kernel⟩, List.mem_of_getElem? (i := 482) (by decide +kernel), List.mem_of_getElem? (i := 619) (by decide +kernel), List.mem_of_getElem? (i := 620) (by decide +kernel)⟩
theorem lw_p15 : lw_okq (⟨"UpWithSheafModel", "make", "(II)V"⟩, 17) := ⟨⟨by decide +kernel, by decide +kernel⟩, List.mem_of_getElem? (i := 482) (by decide +kernel), List.mem_of_getElem? (i := 623) (by decide +kernel), List.mem_of_getElem? (i := 624) (by decide +kernel)⟩
def lw_privs_1 : List (MethodName × Nat) := [(⟨"UpWithSheaf$Text", "figureAt", "(I)I"⟩, 2), (⟨"UpWithSheaf$Contest", "nextBehind", "(I)I"⟩, 4), (⟨"UpWithSheaf", "act", "(I)I"⟩, 9), (⟨"UpWithSheaf$Contest", "raise", "()V"⟩, 4), (⟨"UpWithSheaf", "refusalAhead", "(II)I"⟩, 9), (⟨"UpWithSheaf$Sheets", "outHere", "(I)I"⟩, 2), (⟨"UpWithSheaf$Sheets", "goOn", "(ZZ)V"⟩, 2), (⟨"UpWithSheafModel", "fits", "(I)Z"⟩, 17), (⟨"UpWithSheafModel", "isThrower", "(I)Z"⟩, 17), (⟨"UpWithSheafModel", "mark", "(III)I"⟩, 17), (⟨"UpWithSheafModel", "rankOf", "(II)I"⟩, 17), (⟨"UpWithSheafModel", "valueOf", "(II)I"⟩, 17), (⟨"UpWithSheafModel", "oddsOf", "(III)I"⟩, 17), (⟨"UpWithSheafModel", "act", "(I)I"⟩, 17), (⟨"UpWithSheafModel", "keepAct", "()V"⟩, 17), (⟨"UpWithSheafModel", "make", "(II)V"⟩, 17)]
theorem lw_r1 : ∀ q ∈ lw_privs_1, lw_okq q := List.forall_mem_cons.mpr ⟨lw_p0, List.forall_mem_cons.mpr ⟨lw_p1, List.forall_mem_cons.mpr ⟨lw_p2, List.forall_mem_cons.mpr ⟨lw_p3, List.forall_mem_cons.mpr ⟨lw_p4, List.forall_mem_cons.mpr ⟨lw_p5, List.forall_mem_cons.mpr ⟨lw_p6, List.forall_mem_cons.mpr ⟨lw_p7, List.forall_mem_cons.mpr ⟨lw_p8, List.forall_mem_cons.mpr ⟨lw_p9, List.forall_mem_cons.mpr ⟨lw_p10, List.forall_mem_cons.mpr ⟨lw_p11, List.forall_mem_cons.mpr ⟨lw_p12, List.forall_mem_cons.mpr ⟨lw_p13, List.forall_mem_cons.mpr ⟨lw_p14, List.forall_mem_cons.mpr ⟨lw_p15, fun _ h => absurd h List.not_mem_nil⟩⟩⟩⟩⟩⟩⟩⟩⟩⟩⟩⟩⟩⟩⟩⟩
theorem lw_p16 : lw_okq (⟨"UpWithSheafModel", "set", "(IIII)V"⟩, 17) := ⟨⟨by decide +kernel, by decide +kernel⟩, List.mem_of_getElem? (i := 482) (by decide +kernel), List.mem_of_getElem? (i := 627) (by decide +kernel), List.mem_of_getElem? (i := 628) (by decide +kernel)⟩
theorem lw_p17 : lw_okq (⟨"UpWithSheafModel", "goOn", "(I)V"⟩, 17) := ⟨⟨by decide +kernel, by decide +kernel⟩, List.mem_of_getElem? (i := 482) (by decide +kernel), List.mem_of_getElem? (i := 631) (by decide +kernel), List.mem_of_getElem? (i := 632) (by decide +kernel)⟩
theorem lw_p18 : lw_okq (⟨"UpWithSheafModel", "nextIn", "(II)I"⟩, 17) := ⟨⟨by decide +kernel, by decide +kernel⟩, List.mem_of_getElem? (i := 482) (by decide +kernel), List.mem_of_getElem? (i := 635) (by decide +kernel), List.mem_of_getElem? (i := 636) (by decide +kernel)⟩
theorem lw_p19 : lw_okq (⟨"UpWithSheafModel", "copyNow", "()V"⟩, 17) := ⟨⟨by decide +kernel, by decide +kernel⟩, List.mem_of_getElem? (i := 482) (by decide +kernel), List.mem_of_getElem? (i := 655) (by decide +kernel), List.mem_of_getElem? (i := 656) (by decide +kernel)⟩
theorem lw_p20 : lw_okq (⟨"UpWithSheafModel", "isOut", "(I)Z"⟩, 17) := ⟨⟨by decide +kernel, by decide +kernel⟩, List.mem_of_getElem? (i := 482) (by decide +kernel), List.mem_of_getElem? (i := 663) (by decide +kernel), List.mem_of_getElem? (i := 664) (by decide +kernel)⟩
theorem lw_p21 : lw_okq (⟨"UpWithSheafModel", "clearsOf", "(I)I"⟩, 17) := ⟨⟨by decide +kernel, by decide +kernel⟩, List.mem_of_getElem? (i := 482) (by decide +kernel), List.mem_of_getElem? (i := 667) (by decide +kernel), List.mem_of_getElem? (i := 668) (by decide +kernel)⟩
theorem lw_p22 : lw_okq (⟨"UpWithSheafModel", "refused", "(II)I"⟩, 17) := ⟨⟨by decide +kernel, by decide +kernel⟩, List.mem_of_getElem? (i := 482) (by decide +kernel), List.mem_of_getElem? (i := 679) (by decide +kernel), List.mem_of_getElem? (i := 680) (by decide +kernel)⟩
theorem lw_p23 : lw_okq (⟨"UpWithSheafModel", "layMeans", "(II)V"⟩, 17) := ⟨⟨by decide +kernel, by decide +kernel⟩, List.mem_of_getElem? (i := 482) (by decide +kernel), List.mem_of_getElem? (i := 684) (by decide +kernel), List.mem_of_getElem? (i := 685) (by decide +kernel)⟩
theorem lw_p24 : lw_okq (⟨"UpWithSheafModel", "layMean", "(IIIII)V"⟩, 17) := ⟨⟨by decide +kernel, by decide +kernel⟩, List.mem_of_getElem? (i := 482) (by decide +kernel), List.mem_of_getElem? (i := 691) (by decide +kernel), List.mem_of_getElem? (i := 692) (by decide +kernel)⟩
theorem lw_p25 : lw_okq (⟨"UpWithSheafModel", "partsOf", "(III)J"⟩, 17) := ⟨⟨by decide +kernel, by decide +kernel⟩, List.mem_of_getElem? (i := 482) (by decide +kernel), List.mem_of_getElem? (i := 703) (by decide +kernel), List.mem_of_getElem? (i := 704) (by decide +kernel)⟩
theorem lw_p26 : lw_okq (⟨"UpWithSheafModel", "winners", "(I)I"⟩, 17) := ⟨⟨by decide +kernel, by decide +kernel⟩, List.mem_of_getElem? (i := 482) (by decide +kernel), List.mem_of_getElem? (i := 728) (by decide +kernel), List.mem_of_getElem? (i := 729) (by decide +kernel)⟩
theorem lw_p27 : lw_okq (⟨"UpWithSheafModel", "those", "(I)I"⟩, 17) := ⟨⟨by decide +kernel, by decide +kernel⟩, List.mem_of_getElem? (i := 482) (by decide +kernel), List.mem_of_getElem? (i := 744) (by decide +kernel), List.mem_of_getElem? (i := 745) (by decide +kernel)⟩
def lw_privs_2 : List (MethodName × Nat) := [(⟨"UpWithSheafModel", "set", "(IIII)V"⟩, 17), (⟨"UpWithSheafModel", "goOn", "(I)V"⟩, 17), (⟨"UpWithSheafModel", "nextIn", "(II)I"⟩, 17), (⟨"UpWithSheafModel", "copyNow", "()V"⟩, 17), (⟨"UpWithSheafModel", "isOut", "(I)Z"⟩, 17), (⟨"UpWithSheafModel", "clearsOf", "(I)I"⟩, 17), (⟨"UpWithSheafModel", "refused", "(II)I"⟩, 17), (⟨"UpWithSheafModel", "layMeans", "(II)V"⟩, 17), (⟨"UpWithSheafModel", "layMean", "(IIIII)V"⟩, 17), (⟨"UpWithSheafModel", "partsOf", "(III)J"⟩, 17), (⟨"UpWithSheafModel", "winners", "(I)I"⟩, 17), (⟨"UpWithSheafModel", "those", "(I)I"⟩, 17)]
theorem lw_r2 : ∀ q ∈ lw_privs_2, lw_okq q := List.forall_mem_cons.mpr ⟨lw_p16, List.forall_mem_cons.mpr ⟨lw_p17, List.forall_mem_cons.mpr ⟨lw_p18, List.forall_mem_cons.mpr ⟨lw_p19, List.forall_mem_cons.mpr ⟨lw_p20, List.forall_mem_cons.mpr ⟨lw_p21, List.forall_mem_cons.mpr ⟨lw_p22, List.forall_mem_cons.mpr ⟨lw_p23, List.forall_mem_cons.mpr ⟨lw_p24, List.forall_mem_cons.mpr ⟨lw_p25, List.forall_mem_cons.mpr ⟨lw_p26, List.forall_mem_cons.mpr ⟨lw_p27, fun _ h => absurd h List.not_mem_nil⟩⟩⟩⟩⟩⟩⟩⟩⟩⟩⟩⟩
def lw_privs : List (MethodName × Nat) := lw_privs_1 ++ (lw_privs_2)
def lw_tbl : List Cond := k2_sels lw_privs ++ tables_1
theorem lw_privs_ok : ∀ q ∈ lw_privs, lw_okq q := by
  show ∀ q ∈ lw_privs_1 ++ (lw_privs_2), lw_okq q
  exact List.forall_mem_append.mpr ⟨lw_r1, lw_r2⟩

def RX0 : String := "UpWithSheaf$Acts"
def TX0 : u_T := fun k => match k with
  | 0 => ("UpWithSheaf$Acts", "ahead", "[LUpWithSheaf$Contest;", true)
  | 1 => ("UpWithSheaf$Acts", "size", "I", false)
  | _ => ("UpWithSheaf$Acts", "next", "I", false)
def tyX0 : Nat → FieldType := fun k => match k with
  | 0 => .array (.object "UpWithSheaf$Contest")
  | 1 => .int
  | _ => .int
abbrev wsX00 : List Cond := u_ws RX0 TX0 3
theorem nmX0 : ∀ a, a < 3 → ∀ b, b < 3 → a ≠ b → (TX0 a).2.1 ≠ (TX0 b).2.1 := by decide +kernel
theorem tyX0_ok : ∀ k, k < 3 → parseFieldDescriptor (TX0 k).2.2.1 = some (tyX0 k) := by decide +kernel
abbrev cX0_init : ByteArray := prog_2_method_1_code
def yX0_init : MethodName := ⟨RX0, "<init>", "()V"⟩
abbrev cX0_forget : ByteArray := prog_2_method_2_code
def yX0_forget : MethodName := ⟨RX0, "forget", "()V"⟩
abbrev cX0_remember : ByteArray := prog_2_method_3_code
def yX0_remember : MethodName := ⟨RX0, "remember", "(LUpWithSheaf$Contest;)V"⟩
abbrev cX0_takeBack : ByteArray := prog_2_method_4_code
def yX0_takeBack : MethodName := ⟨RX0, "takeBack", "(LUpWithSheaf$Contest;)V"⟩
def RX1 : String := "UpWithSheaf$Ahead"
def TX1 : u_T := fun k => match k with
  | _ => ("", "", "", false)
def tyX1 : Nat → FieldType := fun k => match k with
  | _ => .int
abbrev wsX10 : List Cond := u_ws RX1 TX1 0
theorem nmX1 : ∀ a, a < 0 → ∀ b, b < 0 → a ≠ b → (TX1 a).2.1 ≠ (TX1 b).2.1 := by decide +kernel
theorem tyX1_ok : ∀ k, k < 0 → parseFieldDescriptor (TX1 k).2.2.1 = some (tyX1 k) := by decide +kernel
abbrev cX1_wholeOf : ByteArray := prog_3_method_2_code
def yX1_wholeOf : MethodName := ⟨RX1, "wholeOf", "(LUpWithSheaf$Thrower;)J"⟩
abbrev cX1_failing : ByteArray := prog_3_method_3_code
def yX1_failing : MethodName := ⟨RX1, "failing", "(LUpWithSheaf$Thrower;I)J"⟩
abbrev cX1_greatest : ByteArray := prog_3_method_4_code
def yX1_greatest : MethodName := ⟨RX1, "greatest", "(LUpWithSheaf$Thrower;IIIIII)J"⟩
abbrev cX1_byTrying : ByteArray := prog_3_method_5_code
def yX1_byTrying : MethodName := ⟨RX1, "byTrying", "(LUpWithSheaf$Thrower;IIIIII)J"⟩
abbrev cX1_bySparing : ByteArray := prog_3_method_6_code
def yX1_bySparing : MethodName := ⟨RX1, "bySparing", "(LUpWithSheaf$Thrower;IIIIII)J"⟩
abbrev cX1_unbeaten : ByteArray := prog_3_method_7_code
def yX1_unbeaten : MethodName := ⟨RX1, "unbeaten", "(LUpWithSheaf$Contest;I[LUpWithSheaf$Thrower;III)J"⟩
abbrev cX1_noOtherBeats : ByteArray := prog_3_method_8_code
def yX1_noOtherBeats : MethodName := ⟨RX1, "noOtherBeats", "(LUpWithSheaf$Contest;ILUpWithSheaf$Thrower;)Z"⟩
abbrev cX1_unitsLeft : ByteArray := prog_3_method_9_code
def yX1_unitsLeft : MethodName := ⟨RX1, "unitsLeft", "(I)J"⟩
def RX2 : String := "UpWithSheaf$Contest"
def TX2 : u_T := fun k => match k with
  | 0 => ("UpWithSheaf$Contest", "throwers", "[LUpWithSheaf$Thrower;", true)
  | 1 => ("UpWithSheaf$Contest", "size", "I", false)
  | 2 => ("UpWithSheaf$Contest", "bar", "I", false)
  | _ => ("UpWithSheaf$Contest", "turn", "I", false)
def tyX2 : Nat → FieldType := fun k => match k with
  | 0 => .array (.object "UpWithSheaf$Thrower")
  | 1 => .int
  | 2 => .int
  | _ => .int
abbrev wsX20 : List Cond := u_ws RX2 TX2 4
theorem nmX2 : ∀ a, a < 4 → ∀ b, b < 4 → a ≠ b → (TX2 a).2.1 ≠ (TX2 b).2.1 := by decide +kernel
theorem tyX2_ok : ∀ k, k < 4 → parseFieldDescriptor (TX2 k).2.2.1 = some (tyX2 k) := by decide +kernel
abbrev cX2_init : ByteArray := prog_4_method_1_code
def yX2_init : MethodName := ⟨RX2, "<init>", "()V"⟩
abbrev cX2_startFrom : ByteArray := prog_4_method_2_code
def yX2_startFrom : MethodName := ⟨RX2, "startFrom", "(LUpWithSheaf$Text;)V"⟩
abbrev cX2_copyFrom : ByteArray := prog_4_method_3_code
def yX2_copyFrom : MethodName := ⟨RX2, "copyFrom", "(LUpWithSheaf$Contest;)V"⟩
abbrev cX2_knows : ByteArray := prog_4_method_4_code
def yX2_knows : MethodName := ⟨RX2, "knows", "(I)Z"⟩
abbrev cX2_isEnded : ByteArray := prog_4_method_5_code
def yX2_isEnded : MethodName := ⟨RX2, "isEnded", "()Z"⟩
abbrev cX2_act : ByteArray := prog_4_method_6_code
def yX2_act : MethodName := ⟨RX2, "act", "(I)V"⟩
abbrev cX2_raise : ByteArray := prog_4_method_7_code
def yX2_raise : MethodName := ⟨RX2, "raise", "()V"⟩
abbrev cX2_nextBehind : ByteArray := prog_4_method_8_code
def yX2_nextBehind : MethodName := ⟨RX2, "nextBehind", "(I)I"⟩
abbrev cX2_oddsOfTurn : ByteArray := prog_4_method_9_code
def yX2_oddsOfTurn : MethodName := ⟨RX2, "oddsOfTurn", "()I"⟩
abbrev cX2_betterThan : ByteArray := prog_4_method_10_code
def yX2_betterThan : MethodName := ⟨RX2, "betterThan", "(LUpWithSheaf$Thrower;)I"⟩
abbrev cX2_leaders : ByteArray := prog_4_method_11_code
def yX2_leaders : MethodName := ⟨RX2, "leaders", "()I"⟩
abbrev cX2_who : ByteArray := prog_4_method_12_code
def yX2_who : MethodName := ⟨RX2, "who", "(I)I"⟩
abbrev cX2_notOut : ByteArray := prog_4_method_13_code
def yX2_notOut : MethodName := ⟨RX2, "notOut", "()I"⟩
def RX3 : String := "UpWithSheaf$Sheets"
def TX3 : u_T := fun k => match k with
  | 0 => ("UpWithSheaf$Sheets", "ways", "[[I", true)
  | _ => ("UpWithSheaf$Sheets", "then", "[[I", true)
def tyX3 : Nat → FieldType := fun k => match k with
  | 0 => .array (.array .int)
  | _ => .array (.array .int)
abbrev wsX30 : List Cond := u_ws RX3 TX3 2
theorem nmX3 : ∀ a, a < 2 → ∀ b, b < 2 → a ≠ b → (TX3 a).2.1 ≠ (TX3 b).2.1 := by decide +kernel
theorem tyX3_ok : ∀ k, k < 2 → parseFieldDescriptor (TX3 k).2.2.1 = some (tyX3 k) := by decide +kernel
abbrev cX3_init : ByteArray := prog_5_method_1_code
def yX3_init : MethodName := ⟨RX3, "<init>", "()V"⟩
abbrev cX3_such : ByteArray := prog_5_method_2_code
def yX3_such : MethodName := ⟨RX3, "such", "(III)I"⟩
abbrev cX3_outHere : ByteArray := prog_5_method_3_code
def yX3_outHere : MethodName := ⟨RX3, "outHere", "(I)I"⟩
abbrev cX3_goOn : ByteArray := prog_5_method_4_code
def yX3_goOn : MethodName := ⟨RX3, "goOn", "(ZZ)V"⟩
abbrev cX3_empty : ByteArray := prog_5_method_5_code
def yX3_empty : MethodName := ⟨RX3, "empty", "([[I)V"⟩
def RX4 : String := "UpWithSheaf$Text"
def TX4 : u_T := fun k => match k with
  | 0 => ("UpWithSheaf$Text", "bytes", "[I", true)
  | _ => ("UpWithSheaf$Text", "length", "I", false)
def tyX4 : Nat → FieldType := fun k => match k with
  | 0 => .array .int
  | _ => .int
abbrev wsX40 : List Cond := u_ws RX4 TX4 2
theorem nmX4 : ∀ a, a < 2 → ∀ b, b < 2 → a ≠ b → (TX4 a).2.1 ≠ (TX4 b).2.1 := by decide +kernel
theorem tyX4_ok : ∀ k, k < 2 → parseFieldDescriptor (TX4 k).2.2.1 = some (tyX4 k) := by decide +kernel
abbrev cX4_init : ByteArray := prog_6_method_1_code
def yX4_init : MethodName := ⟨RX4, "<init>", "()V"⟩
abbrev cX4_append : ByteArray := prog_6_method_2_code
def yX4_append : MethodName := ⟨RX4, "append", "(IJ)V"⟩
abbrev cX4_firstFault : ByteArray := prog_6_method_3_code
def yX4_firstFault : MethodName := ⟨RX4, "firstFault", "()I"⟩
abbrev cX4_canStand : ByteArray := prog_6_method_4_code
def yX4_canStand : MethodName := ⟨RX4, "canStand", "(II)Z"⟩
abbrev cX4_throwersTold : ByteArray := prog_6_method_5_code
def yX4_throwersTold : MethodName := ⟨RX4, "throwersTold", "()I"⟩
abbrev cX4_barTold : ByteArray := prog_6_method_6_code
def yX4_barTold : MethodName := ⟨RX4, "barTold", "()I"⟩
abbrev cX4_strengthTold : ByteArray := prog_6_method_7_code
def yX4_strengthTold : MethodName := ⟨RX4, "strengthTold", "(I)I"⟩
abbrev cX4_windTold : ByteArray := prog_6_method_8_code
def yX4_windTold : MethodName := ⟨RX4, "windTold", "(I)I"⟩
abbrev cX4_figureAt : ByteArray := prog_6_method_9_code
def yX4_figureAt : MethodName := ⟨RX4, "figureAt", "(I)I"⟩
def RX5 : String := "UpWithSheaf$Thrower"
def TX5 : u_T := fun k => match k with
  | 0 => ("UpWithSheaf$Thrower", "strength", "I", false)
  | 1 => ("UpWithSheaf$Thrower", "wind", "I", false)
  | 2 => ("UpWithSheaf$Thrower", "tries", "I", false)
  | 3 => ("UpWithSheaf$Thrower", "running", "I", false)
  | 4 => ("UpWithSheaf$Thrower", "best", "I", false)
  | 5 => ("UpWithSheaf$Thrower", "there", "I", false)
  | 6 => ("UpWithSheaf$Thrower", "misses", "I", false)
  | 7 => ("UpWithSheaf$Thrower", "how", "I", false)
  | _ => ("UpWithSheaf$Thrower", "here", "I", false)
def tyX5 : Nat → FieldType := fun k => match k with
  | 0 => .int
  | 1 => .int
  | 2 => .int
  | 3 => .int
  | 4 => .int
  | 5 => .int
  | 6 => .int
  | 7 => .int
  | _ => .int
abbrev wsX50 : List Cond := u_ws RX5 TX5 9
theorem nmX5 : ∀ a, a < 9 → ∀ b, b < 9 → a ≠ b → (TX5 a).2.1 ≠ (TX5 b).2.1 := by decide +kernel
theorem tyX5_ok : ∀ k, k < 9 → parseFieldDescriptor (TX5 k).2.2.1 = some (tyX5 k) := by decide +kernel
abbrev cX5_init : ByteArray := prog_7_method_1_code
def yX5_init : MethodName := ⟨RX5, "<init>", "()V"⟩
abbrev cX5_start : ByteArray := prog_7_method_2_code
def yX5_start : MethodName := ⟨RX5, "start", "(II)V"⟩
abbrev cX5_copyFrom : ByteArray := prog_7_method_3_code
def yX5_copyFrom : MethodName := ⟨RX5, "copyFrom", "(LUpWithSheaf$Thrower;)V"⟩
abbrev cX5_isOut : ByteArray := prog_7_method_4_code
def yX5_isOut : MethodName := ⟨RX5, "isOut", "()Z"⟩
abbrev cX5_mayTry : ByteArray := prog_7_method_5_code
def yX5_mayTry : MethodName := ⟨RX5, "mayTry", "()Z"⟩
abbrev cX5_attempt : ByteArray := prog_7_method_6_code
def yX5_attempt : MethodName := ⟨RX5, "attempt", "(ZI)V"⟩
abbrev cX5_rest : ByteArray := prog_7_method_7_code
def yX5_rest : MethodName := ⟨RX5, "rest", "()V"⟩
abbrev cX5_startHeight : ByteArray := prog_7_method_8_code
def yX5_startHeight : MethodName := ⟨RX5, "startHeight", "()V"⟩
abbrev cX5_oddsAt : ByteArray := prog_7_method_9_code
def yX5_oddsAt : MethodName := ⟨RX5, "oddsAt", "(II)I"⟩
abbrev cX5_isBetterThan : ByteArray := prog_7_method_10_code
def yX5_isBetterThan : MethodName := ⟨RX5, "isBetterThan", "(LUpWithSheaf$Thrower;)Z"⟩
abbrev cX5_told : ByteArray := prog_7_method_11_code
def yX5_told : MethodName := ⟨RX5, "told", "(I)I"⟩
def RX6 : String := "UpWithSheaf"
def TX6 : u_T := fun k => match k with
  | 0 => ("UpWithSheaf", "text", "LUpWithSheaf$Text;", true)
  | 1 => ("UpWithSheaf", "contest", "LUpWithSheaf$Contest;", true)
  | 2 => ("UpWithSheaf", "tried", "LUpWithSheaf$Contest;", true)
  | 3 => ("UpWithSheaf", "acts", "LUpWithSheaf$Acts;", true)
  | 4 => ("UpWithSheaf", "slots", "[LUpWithSheaf$Contest;", true)
  | 5 => ("UpWithSheaf", "isKept", "[Z", true)
  | 6 => ("UpWithSheaf", "path", "[LUpWithSheaf$Thrower;", true)
  | 7 => ("UpWithSheaf", "counter", "LUpWithSheaf$Sheets;", true)
  | _ => ("UpWithSheaf", "theSeed", "J", false)
def tyX6 : Nat → FieldType := fun k => match k with
  | 0 => .object "UpWithSheaf$Text"
  | 1 => .object "UpWithSheaf$Contest"
  | 2 => .object "UpWithSheaf$Contest"
  | 3 => .object "UpWithSheaf$Acts"
  | 4 => .array (.object "UpWithSheaf$Contest")
  | 5 => .array .boolean
  | 6 => .array (.object "UpWithSheaf$Thrower")
  | 7 => .object "UpWithSheaf$Sheets"
  | _ => .long
abbrev wsX60 : List Cond := u_ws RX6 TX6 9
theorem nmX6 : ∀ a, a < 9 → ∀ b, b < 9 → a ≠ b → (TX6 a).2.1 ≠ (TX6 b).2.1 := by decide +kernel
theorem tyX6_ok : ∀ k, k < 9 → parseFieldDescriptor (TX6 k).2.2.1 = some (tyX6 k) := by decide +kernel
abbrev cX6_init : ByteArray := prog_1_method_1_code
def yX6_init : MethodName := ⟨RX6, "<init>", "()V"⟩
abbrev cX6_write : ByteArray := prog_1_method_2_code
def yX6_write : MethodName := ⟨RX6, "write", "(IJ)I"⟩
abbrev cX6_wipe : ByteArray := prog_1_method_3_code
def yX6_wipe : MethodName := ⟨RX6, "wipe", "()I"⟩
abbrev cX6_fault : ByteArray := prog_1_method_4_code
def yX6_fault : MethodName := ⟨RX6, "fault", "()I"⟩
abbrev cX6_field : ByteArray := prog_1_method_5_code
def yX6_field : MethodName := ⟨RX6, "field", "()I"⟩
abbrev cX6_thrower : ByteArray := prog_1_method_6_code
def yX6_thrower : MethodName := ⟨RX6, "thrower", "(II)I"⟩
abbrev cX6_on : ByteArray := prog_1_method_7_code
def yX6_on : MethodName := ⟨RX6, "on", "()I"⟩
abbrev cX6_rank : ByteArray := prog_1_method_8_code
def yX6_rank : MethodName := ⟨RX6, "rank", "(I)I"⟩
abbrev cX6_odds : ByteArray := prog_1_method_9_code
def yX6_odds : MethodName := ⟨RX6, "odds", "(II)I"⟩
abbrev cX6_toss : ByteArray := prog_1_method_10_code
def yX6_toss : MethodName := ⟨RX6, "toss", "(Z)I"⟩
abbrev cX6_spare : ByteArray := prog_1_method_11_code
def yX6_spare : MethodName := ⟨RX6, "spare", "()I"⟩
abbrev cX6_act : ByteArray := prog_1_method_12_code
def yX6_act : MethodName := ⟨RX6, "act", "(I)I"⟩
abbrev cX6_undo : ByteArray := prog_1_method_13_code
def yX6_undo : MethodName := ⟨RX6, "undo", "()I"⟩
abbrev cX6_judge : ByteArray := prog_1_method_14_code
def yX6_judge : MethodName := ⟨RX6, "judge", "(II)I"⟩
abbrev cX6_figureOf : ByteArray := prog_1_method_15_code
def yX6_figureOf : MethodName := ⟨RX6, "figureOf", "(II)I"⟩
abbrev cX6_clears : ByteArray := prog_1_method_16_code
def yX6_clears : MethodName := ⟨RX6, "clears", "(IZ)I"⟩
abbrev cX6_mean : ByteArray := prog_1_method_17_code
def yX6_mean : MethodName := ⟨RX6, "mean", "(IIZ)J"⟩
abbrev cX6_wise : ByteArray := prog_1_method_18_code
def yX6_wise : MethodName := ⟨RX6, "wise", "(II)I"⟩
abbrev cX6_first : ByteArray := prog_1_method_19_code
def yX6_first : MethodName := ⟨RX6, "first", "(IIZ)J"⟩
abbrev cX6_alone : ByteArray := prog_1_method_20_code
def yX6_alone : MethodName := ⟨RX6, "alone", "(IIZ)I"⟩
abbrev cX6_refusalAhead : ByteArray := prog_1_method_21_code
def yX6_refusalAhead : MethodName := ⟨RX6, "refusalAhead", "(II)I"⟩
abbrev cX6_leastTerms : ByteArray := prog_1_method_22_code
def yX6_leastTerms : MethodName := ⟨RX6, "leastTerms", "(JJZ)J"⟩
abbrev cX6_commonDivisor : ByteArray := prog_1_method_23_code
def yX6_commonDivisor : MethodName := ⟨RX6, "commonDivisor", "(JJ)J"⟩
abbrev cX6_sheets : ByteArray := prog_1_method_24_code
def yX6_sheets : MethodName := ⟨RX6, "sheets", "(III)I"⟩
abbrev cX6_seed : ByteArray := prog_1_method_25_code
def yX6_seed : MethodName := ⟨RX6, "seed", "(J)J"⟩
abbrev cX6_fair : ByteArray := prog_1_method_26_code
def yX6_fair : MethodName := ⟨RX6, "fair", "()I"⟩
abbrev cX6_keep : ByteArray := prog_1_method_27_code
def yX6_keep : MethodName := ⟨RX6, "keep", "(I)I"⟩
abbrev cX6_again : ByteArray := prog_1_method_28_code
def yX6_again : MethodName := ⟨RX6, "again", "(I)I"⟩
abbrev cX6_count : ByteArray := prog_1_method_29_code
def yX6_count : MethodName := ⟨RX6, "count", "(I)I"⟩
def RX7 : String := "UpWithSheafModel"
def TX7 : u_T := fun k => match k with
  | 0 => ("UpWithSheafModel", "throwers", "I", false)
  | 1 => ("UpWithSheafModel", "strength", "[I", true)
  | 2 => ("UpWithSheafModel", "wind", "[I", true)
  | 3 => ("UpWithSheafModel", "text", "[I", true)
  | 4 => ("UpWithSheafModel", "length", "I", false)
  | 5 => ("UpWithSheafModel", "now", "[I", true)
  | 6 => ("UpWithSheafModel", "acts", "I", false)
  | 7 => ("UpWithSheafModel", "next", "I", false)
  | 8 => ("UpWithSheafModel", "row", "[I", true)
  | 9 => ("UpWithSheafModel", "means", "[J", true)
  | 10 => ("UpWithSheafModel", "tried", "J", false)
  | 11 => ("UpWithSheafModel", "spared", "J", false)
  | 12 => ("UpWithSheafModel", "ways", "[I", true)
  | 13 => ("UpWithSheafModel", "later", "[I", true)
  | 14 => ("UpWithSheafModel", "seed", "J", false)
  | 15 => ("UpWithSheafModel", "isKept", "[Z", true)
  | _ => ("UpWithSheafModel", "kept", "[I", true)
def tyX7 : Nat → FieldType := fun k => match k with
  | 0 => .int
  | 1 => .array .int
  | 2 => .array .int
  | 3 => .array .int
  | 4 => .int
  | 5 => .array .int
  | 6 => .int
  | 7 => .int
  | 8 => .array .int
  | 9 => .array .long
  | 10 => .long
  | 11 => .long
  | 12 => .array .int
  | 13 => .array .int
  | 14 => .long
  | 15 => .array .boolean
  | _ => .array .int
abbrev wsX70 : List Cond := u_ws RX7 TX7 17
theorem nmX7 : ∀ a, a < 17 → ∀ b, b < 17 → a ≠ b → (TX7 a).2.1 ≠ (TX7 b).2.1 := by decide +kernel
theorem tyX7_ok : ∀ k, k < 17 → parseFieldDescriptor (TX7 k).2.2.1 = some (tyX7 k) := by decide +kernel
abbrev cX7_init : ByteArray := prog_9_method_1_code
def yX7_init : MethodName := ⟨RX7, "<init>", "()V"⟩
abbrev cX7_in : ByteArray := prog_9_method_3_code
def yX7_in : MethodName := ⟨RX7, "in", "(JJJ)Z"⟩
abbrev cX7_write : ByteArray := prog_9_method_4_code
def yX7_write : MethodName := ⟨RX7, "write", "(IJ)I"⟩
abbrev cX7_wipe : ByteArray := prog_9_method_5_code
def yX7_wipe : MethodName := ⟨RX7, "wipe", "()I"⟩
abbrev cX7_fits : ByteArray := prog_9_method_6_code
def yX7_fits : MethodName := ⟨RX7, "fits", "(I)Z"⟩
abbrev cX7_fault : ByteArray := prog_9_method_7_code
def yX7_fault : MethodName := ⟨RX7, "fault", "()I"⟩
abbrev cX7_field : ByteArray := prog_9_method_8_code
def yX7_field : MethodName := ⟨RX7, "field", "()I"⟩
abbrev cX7_isThrower : ByteArray := prog_9_method_9_code
def yX7_isThrower : MethodName := ⟨RX7, "isThrower", "(I)Z"⟩
abbrev cX7_mark : ByteArray := prog_9_method_10_code
def yX7_mark : MethodName := ⟨RX7, "mark", "(III)I"⟩
abbrev cX7_set : ByteArray := prog_9_method_11_code
def yX7_set : MethodName := ⟨RX7, "set", "(IIII)V"⟩
abbrev cX7_thrower : ByteArray := prog_9_method_12_code
def yX7_thrower : MethodName := ⟨RX7, "thrower", "(II)I"⟩
abbrev cX7_on : ByteArray := prog_9_method_13_code
def yX7_on : MethodName := ⟨RX7, "on", "()I"⟩
abbrev cX7_value : ByteArray := prog_9_method_14_code
def yX7_value : MethodName := ⟨RX7, "value", "(III)I"⟩
abbrev cX7_valueOf : ByteArray := prog_9_method_15_code
def yX7_valueOf : MethodName := ⟨RX7, "valueOf", "(II)I"⟩
abbrev cX7_rankOf : ByteArray := prog_9_method_16_code
def yX7_rankOf : MethodName := ⟨RX7, "rankOf", "(II)I"⟩
abbrev cX7_rank : ByteArray := prog_9_method_17_code
def yX7_rank : MethodName := ⟨RX7, "rank", "(I)I"⟩
abbrev cX7_oddsOf : ByteArray := prog_9_method_18_code
def yX7_oddsOf : MethodName := ⟨RX7, "oddsOf", "(III)I"⟩
abbrev cX7_odds : ByteArray := prog_9_method_19_code
def yX7_odds : MethodName := ⟨RX7, "odds", "(II)I"⟩
abbrev cX7_keepAct : ByteArray := prog_9_method_20_code
def yX7_keepAct : MethodName := ⟨RX7, "keepAct", "()V"⟩
abbrev cX7_nextIn : ByteArray := prog_9_method_21_code
def yX7_nextIn : MethodName := ⟨RX7, "nextIn", "(II)I"⟩
abbrev cX7_goOn : ByteArray := prog_9_method_22_code
def yX7_goOn : MethodName := ⟨RX7, "goOn", "(I)V"⟩
abbrev cX7_make : ByteArray := prog_9_method_23_code
def yX7_make : MethodName := ⟨RX7, "make", "(II)V"⟩
abbrev cX7_act : ByteArray := prog_9_method_24_code
def yX7_act : MethodName := ⟨RX7, "act", "(I)I"⟩
abbrev cX7_toss : ByteArray := prog_9_method_25_code
def yX7_toss : MethodName := ⟨RX7, "toss", "(Z)I"⟩
abbrev cX7_spare : ByteArray := prog_9_method_26_code
def yX7_spare : MethodName := ⟨RX7, "spare", "()I"⟩
abbrev cX7_undo : ByteArray := prog_9_method_27_code
def yX7_undo : MethodName := ⟨RX7, "undo", "()I"⟩
abbrev cX7_tenTo : ByteArray := prog_9_method_28_code
def yX7_tenTo : MethodName := ⟨RX7, "tenTo", "(I)J"⟩
abbrev cX7_copyNow : ByteArray := prog_9_method_29_code
def yX7_copyNow : MethodName := ⟨RX7, "copyNow", "()V"⟩
abbrev cX7_judge : ByteArray := prog_9_method_30_code
def yX7_judge : MethodName := ⟨RX7, "judge", "(II)I"⟩
abbrev cX7_common : ByteArray := prog_9_method_31_code
def yX7_common : MethodName := ⟨RX7, "common", "(JJ)J"⟩
abbrev cX7_clearsOf : ByteArray := prog_9_method_32_code
def yX7_clearsOf : MethodName := ⟨RX7, "clearsOf", "(I)I"⟩
abbrev cX7_isOut : ByteArray := prog_9_method_33_code
def yX7_isOut : MethodName := ⟨RX7, "isOut", "(I)Z"⟩
abbrev cX7_clears : ByteArray := prog_9_method_34_code
def yX7_clears : MethodName := ⟨RX7, "clears", "(IZ)I"⟩
abbrev cX7_place : ByteArray := prog_9_method_35_code
def yX7_place : MethodName := ⟨RX7, "place", "(IIII)I"⟩
abbrev cX7_layMeans : ByteArray := prog_9_method_36_code
def yX7_layMeans : MethodName := ⟨RX7, "layMeans", "(II)V"⟩
abbrev cX7_layMean : ByteArray := prog_9_method_37_code
def yX7_layMean : MethodName := ⟨RX7, "layMean", "(IIIII)V"⟩
abbrev cX7_refused : ByteArray := prog_9_method_38_code
def yX7_refused : MethodName := ⟨RX7, "refused", "(II)I"⟩
abbrev cX7_mean : ByteArray := prog_9_method_39_code
def yX7_mean : MethodName := ⟨RX7, "mean", "(IIZ)J"⟩
abbrev cX7_wise : ByteArray := prog_9_method_40_code
def yX7_wise : MethodName := ⟨RX7, "wise", "(II)I"⟩
abbrev cX7_partsOf : ByteArray := prog_9_method_41_code
def yX7_partsOf : MethodName := ⟨RX7, "partsOf", "(III)J"⟩
abbrev cX7_first : ByteArray := prog_9_method_42_code
def yX7_first : MethodName := ⟨RX7, "first", "(IIZ)J"⟩
abbrev cX7_alone : ByteArray := prog_9_method_43_code
def yX7_alone : MethodName := ⟨RX7, "alone", "(IIZ)I"⟩
abbrev cX7_sheets : ByteArray := prog_9_method_44_code
def yX7_sheets : MethodName := ⟨RX7, "sheets", "(III)I"⟩
abbrev cX7_seed : ByteArray := prog_9_method_45_code
def yX7_seed : MethodName := ⟨RX7, "seed", "(J)J"⟩
abbrev cX7_winners : ByteArray := prog_9_method_46_code
def yX7_winners : MethodName := ⟨RX7, "winners", "(I)I"⟩
abbrev cX7_fair : ByteArray := prog_9_method_47_code
def yX7_fair : MethodName := ⟨RX7, "fair", "()I"⟩
abbrev cX7_keep : ByteArray := prog_9_method_48_code
def yX7_keep : MethodName := ⟨RX7, "keep", "(I)I"⟩
abbrev cX7_again : ByteArray := prog_9_method_49_code
def yX7_again : MethodName := ⟨RX7, "again", "(I)I"⟩
abbrev cX7_those : ByteArray := prog_9_method_50_code
def yX7_those : MethodName := ⟨RX7, "those", "(I)I"⟩
abbrev cX7_count : ByteArray := prog_9_method_51_code
def yX7_count : MethodName := ⟨RX7, "count", "(I)I"⟩
def RJ9 : String := "java/lang/Math"
def TJ9 : u_T := fun k => match k with
  | _ => ("", "", "", false)
def tyJ9 : Nat → FieldType := fun k => match k with
  | _ => .int
abbrev wsJ90 : List Cond := u_ws RJ9 TJ9 0
theorem nmJ9 : ∀ a, a < 0 → ∀ b, b < 0 → a ≠ b → (TJ9 a).2.1 ≠ (TJ9 b).2.1 := by decide +kernel
theorem tyJ9_ok : ∀ k, k < 0 → parseFieldDescriptor (TJ9 k).2.2.1 = some (tyJ9 k) := by decide +kernel
abbrev cJ9_max_7cf53 : ByteArray := prog_10_method_65_code
def yJ9_max_7cf53 : MethodName := ⟨RJ9, "max", "(II)I"⟩
abbrev cJ9_max_f86c9 : ByteArray := prog_10_method_66_code
def yJ9_max_f86c9 : MethodName := ⟨RJ9, "max", "(JJ)J"⟩
abbrev cJ9_min_7cf53 : ByteArray := prog_10_method_69_code
def yJ9_min_7cf53 : MethodName := ⟨RJ9, "min", "(II)I"⟩
def RJ10 : String := "java/lang/System"
def TJ10 : u_T := fun k => match k with
  | _ => ("", "", "", false)
def tyJ10 : Nat → FieldType := fun k => match k with
  | _ => .int
abbrev wsJ100 : List Cond := u_ws RJ10 TJ10 0
theorem nmJ10 : ∀ a, a < 0 → ∀ b, b < 0 → a ≠ b → (TJ10 a).2.1 ≠ (TJ10 b).2.1 := by decide +kernel
theorem tyJ10_ok : ∀ k, k < 0 → parseFieldDescriptor (TJ10 k).2.2.1 = some (tyJ10 k) := by decide +kernel
def RL : String := "UpWithSheafLaw"
abbrev cL_law : ByteArray := code
def yL_law : MethodName := ⟨RL, "law", "([I)Z"⟩
abbrev vwCl : List vw_C := [(RX0, TX0, 3), (RX2, TX2, 4), (RX3, TX3, 2), (RX4, TX4, 2), (RX5, TX5, 9), (RX6, TX6, 9), (RX7, TX7, 17)]
/-- the words that every method of ours takes along -/
def GW : List Cond := lw_tbl.filter goodWord
theorem GW_tbl : ∀ w ∈ GW, w ∈ lw_tbl := fun _ h => (List.mem_filter.mp h).1
theorem GW_of {w : Cond} (h : w ∈ lw_tbl) (g : goodWord w = true) : w ∈ GW := List.mem_filter.mpr ⟨h, g⟩
theorem GW_good : GoodIn GW GW := fun _ h => ⟨h, good_of_word (List.mem_filter.mp h).2⟩
theorem gt_1 {w : Cond} (i : Nat) (h : tables_1_1[i]? = some w) (g : goodWord w = true) : w ∈ GW := GW_of ((fun (h : w ∈ tables_1_1) => (List.mem_append_right _ (List.mem_append_left _ h))) (List.mem_of_getElem? h)) g
theorem gt_2 {w : Cond} (i : Nat) (h : tables_1_2[i]? = some w) (g : goodWord w = true) : w ∈ GW := GW_of ((fun (h : w ∈ tables_1_2) => (List.mem_append_right _ (List.mem_append_right _ (List.mem_append_left _ h)))) (List.mem_of_getElem? h)) g
theorem gt_3 {w : Cond} (i : Nat) (h : tables_1_3[i]? = some w) (g : goodWord w = true) : w ∈ GW := GW_of ((fun (h : w ∈ tables_1_3) => (List.mem_append_right _ (List.mem_append_right _ (List.mem_append_right _ (List.mem_append_left _ h))))) (List.mem_of_getElem? h)) g
theorem gt_4 {w : Cond} (i : Nat) (h : tables_1_4[i]? = some w) (g : goodWord w = true) : w ∈ GW := GW_of ((fun (h : w ∈ tables_1_4) => (List.mem_append_right _ (List.mem_append_right _ (List.mem_append_right _ (List.mem_append_right _ h))))) (List.mem_of_getElem? h)) g
theorem gt_s {w : Cond} (i : Nat) (h : (k2_sels lw_privs)[i]? = some w) (g : goodWord w = true) : w ∈ GW := GW_of (List.mem_append_left _ (List.mem_of_getElem? h)) g
end
section
/-! the abstract heap: address 0 the script, 1 the table TENS, from 2 on what is made; R: the machine at an instruction, in its words; Cal: a method's contract -/
abbrev eE : Type := Nat × Nat × Nat × (Nat → ClassId) × (Nat → Nat → Nat)
def ad (E : eE) (a : Nat) : Nat := if a = 0 then E.1 else if a = 1 then E.2.1 else E.2.2.1 + (a - 2)
def sh (E : eE) (v : Value) : Value := match v with
  | .ref a => .ref (ad E a)
  | v => v
def aD (E : eE) : va_G := (E.2.2.2.1, E.2.2.2.2)
abbrev aC : Type := (FieldType × Nat × (Nat → Value)) ⊕ (Nat × List Value)
abbrev Hp : Type := Nat → Option aC
def hset (h : Hp) (a : Nat) (e : aC) : Hp := fun b => if b = a then some e else h b
theorem hset_eq (h : Hp) (a : Nat) (e : aC) : hset h a e a = some e := if_pos rfl
theorem hset_ne (h : Hp) {a b : Nat} (e : aC) (n : b ≠ a) : hset h a e b = h b := if_neg n
theorem hset_hset (h : Hp) (a : Nat) (e e' : aC) : hset (hset h a e) a e' = hset h a e' := by
  funext b
  unfold hset
  by_cases hb : b = a
  · rw [if_pos hb, if_pos hb]
  · rw [if_neg hb, if_neg hb, if_neg hb]
theorem hset_self {h : Hp} {a : Nat} {e : aC} (hh : h a = some e) : hset h a e = h := by
  funext b
  unfold hset
  by_cases hb : b = a
  · rw [if_pos hb, hb, hh]
  · rw [if_neg hb]
theorem sh_cat (E : eE) (v : Value) : (sh E v).category = v.category := by cases v <;> rfl
def arAt (E : eE) (s : State) (a : Nat) (ty : FieldType) (n : Nat) (f : Nat → Value) (H : Heap) : Prop := ∃ cell : Cell, H[ad E a]? = some cell ∧ s.isArrayOf cell ty ∧ cell.vm ≠ .unknown ∧ n ≤ cell.slots.size ∧ cell.slots.size.toInt32 = Int32.ofNat n ∧ (∀ j, j < n → cell.slots[j]? = some (sh E (f j))) ∧ (2 ≤ a → ∃ cA, cell = arrV cA n (fun j => sh E (f j)) ∧ ArrOfT s cA ty ∧ va_RA s cA ty)
def cAt (E : eE) (s : State) (a : Nat) (e : aC) (H : Heap) : Prop := match e with
  | .inl x => arAt E s a x.1 x.2.1 x.2.2 H
  | .inr o => 2 ≤ a ∧ va_at (aD E) vwCl (ad E a, .inr (o.1, o.2.map (sh E))) H
def hR (E : eE) (s : State) (h : Hp) (z : Nat) (H : Heap) : Prop := 2 ≤ z ∧ E.1 < E.2.2.1 ∧ E.2.1 < E.2.2.1 ∧ H.size = E.2.2.1 + (z - 2) ∧ ∀ a e, h a = some e → a < z ∧ cAt E s a e H
theorem cAt.moved {E : eE} {u U : State} (hvm : u.vm.Alike U.vm) {a : Nat} {e : aC} {H : Heap} (h : cAt E u a e H) : cAt E U a e H := by
  cases e with
  | inl x =>
    obtain ⟨cell, h1, h2, h3, h4, h5, h6, h7⟩ := h
    exact ⟨cell, h1, State.isArrayOf_alike hvm h2, h3, h4, h5, h6, fun g => by obtain ⟨cA, e1, e2, e3⟩ := h7 g; exact ⟨cA, e1, arrOfT_moved hvm e2, e3.moved hvm⟩⟩
  | inr o => exact h
theorem hR.moved {E : eE} {u U : State} (hvm : u.vm.Alike U.vm) {h : Hp} {z : Nat} {H : Heap} (g : hR E u h z H) : hR E U h z H := ⟨g.1, g.2.1, g.2.2.1, g.2.2.2.1, fun a e he => ⟨(g.2.2.2.2 a e he).1, (g.2.2.2.2 a e he).2.moved hvm⟩⟩
theorem cAt.kept {E : eE} {u : State} {a : Nat} {e : aC} {H H1 : Heap} (h : cAt E u a e H) (hq : H1[ad E a]? = H[ad E a]?) : cAt E u a e H1 := by
  cases e with
  | inl x =>
    obtain ⟨cell, h1, h2⟩ := h
    exact ⟨cell, by rw [hq]; exact h1, h2⟩
  | inr o => exact ⟨h.1, h.2.kept hq⟩
theorem ad_ge {E : eE} {a : Nat} (h : 2 ≤ a) : ad E a = E.2.2.1 + (a - 2) := by
  unfold ad
  rw [if_neg (by omega), if_neg (by omega)]
theorem ad_lt {E : eE} {s : State} {h : Hp} {z : Nat} {H : Heap} (g : hR E s h z H) {a : Nat} (ha : a < 2) : ad E a < E.2.2.1 := by
  obtain ⟨-, g1, g2, -⟩ := g
  unfold ad
  by_cases h0 : a = 0
  · rw [if_pos h0]; exact g1
  · rw [if_neg h0, if_pos (by omega)]; exact g2
theorem ad_ne {E : eE} {s : State} {h : Hp} {z : Nat} {H : Heap} (g : hR E s h z H) {a b : Nat} (ha : 2 ≤ a) (n : b ≠ a) : ad E b ≠ ad E a := by
  rw [ad_ge ha]
  by_cases hb : 2 ≤ b
  · rw [ad_ge hb]; omega
  · have := ad_lt g (show b < 2 by omega)
    omega
/-- one cell is written -/
theorem hR.set {E : eE} {s : State} {h : Hp} {z : Nat} {H H1 : Heap} (g : hR E s h z H) {a : Nat} {e0 e : aC} (ha : 2 ≤ a) (he0 : h a = some e0) (he : cAt E s a e H1) (hz : H1.size = H.size) (ho : ∀ q : Nat, q ≠ ad E a → H1[q]? = H[q]?) : hR E s (hset h a e) z H1 := by
  refine ⟨g.1, g.2.1, g.2.2.1, by rw [hz]; exact g.2.2.2.1, fun b x hx => ?_⟩
  by_cases hb : b = a
  · subst hb
    rw [hset_eq] at hx
    cases hx
    exact ⟨(g.2.2.2.2 b e0 he0).1, he⟩
  · rw [hset_ne h e hb] at hx
    obtain ⟨g1, g2⟩ := g.2.2.2.2 b x hx
    exact ⟨g1, g2.kept (ho _ (ad_ne g ha hb))⟩
/-- one cell is made -/
theorem hR.push {E : eE} {s : State} {h : Hp} {z : Nat} {H H1 : Heap} (g : hR E s h z H) {e : aC} (he : cAt E s z e H1) (hz : H1.size = H.size + 1) (ho : ∀ q : Nat, q < H.size → H1[q]? = H[q]?) : hR E s (hset h z e) (z + 1) H1 := by
  obtain ⟨g0, g1, g2, g3, g4⟩ := g
  refine ⟨by omega, g1, g2, by omega, fun b x hx => ?_⟩
  by_cases hb : b = z
  · subst hb
    rw [hset_eq] at hx
    cases hx
    exact ⟨by omega, he⟩
  · rw [hset_ne h e hb] at hx
    obtain ⟨k1, k2⟩ := g4 b x hx
    refine ⟨by omega, k2.kept (ho _ ?_)⟩
    by_cases hb2 : 2 ≤ b
    · rw [ad_ge hb2]; omega
    · have := ad_lt (E := E) (s := s) (h := h) (z := z) (H := H) ⟨g0, g1, g2, g3, g4⟩ (show b < 2 by omega)
      omega
theorem hR.top {E : eE} {s : State} {h : Hp} {z : Nat} {H : Heap} (g : hR E s h z H) : ad E z = H.size := by rw [ad_ge g.1, g.2.2.2.1]
/-- the locals: a list; null: nothing is said -/
def tol (E : eE) : Nat → List Value → List (Nat × Value)
  | _, [] => []
  | i, .null :: r => tol E (i + 1) r
  | i, v :: r => (i, sh E v) :: tol E (i + 1) r
theorem tol_mem {E : eE} {q : Nat × Value} : ∀ (L : List Value) (i : Nat), q ∈ tol E i L ↔ ∃ (j : Nat) (v : Value), q.1 = i + j ∧ L[j]? = some v ∧ v ≠ .null ∧ q.2 = sh E v := by
  intro L
  induction L with
  | nil => intro i; simp [tol]
  | cons w r ih =>
    intro i
    have key : (∃ (j : Nat) (v : Value), q.1 = i + j ∧ (w :: r)[j]? = some v ∧ v ≠ .null ∧ q.2 = sh E v) ↔ (q.1 = i ∧ w ≠ .null ∧ q.2 = sh E w) ∨ (∃ (j : Nat) (v : Value), q.1 = i + 1 + j ∧ r[j]? = some v ∧ v ≠ .null ∧ q.2 = sh E v) := by
      constructor
      · rintro ⟨j, v, h1, h2, h3, h4⟩
        cases j with
        | zero =>
          rw [List.getElem?_cons_zero] at h2
          cases h2
          exact Or.inl ⟨by omega, h3, h4⟩
        | succ j =>
          rw [List.getElem?_cons_succ] at h2
          exact Or.inr ⟨j, v, by omega, h2, h3, h4⟩
      · rintro (⟨h1, h2, h3⟩ | ⟨j, v, h1, h2, h3, h4⟩)
        · exact ⟨0, w, by omega, List.getElem?_cons_zero, h2, h3⟩
        · exact ⟨j + 1, v, by omega, by rw [List.getElem?_cons_succ]; exact h2, h3, h4⟩
    rw [key, ← ih (i + 1)]
    cases w <;> simp [tol, Prod.ext_iff]
def lR (E : eE) (ls : Array Slot) (nL : Nat) (L : List Value) : Prop := lv_has ls nL (tol E 0 L)
theorem lR.at {E : eE} {ls : Array Slot} {nL : Nat} {L : List Value} (h : lR E ls nL L) {i : Nat} {v : Value} (hL : L[i]? = some v) (hv : v ≠ .null) : ls[i]? = some (.val (sh E v)) := h.2.2 (i, sh E v) ((tol_mem L 0).mpr ⟨i, v, by simp, hL, hv, rfl⟩)
def clr (v : Value) : Value := match v with
  | .long _ => .null
  | .double _ => .null
  | v => v
/-- storing a value of one word, of two -/
def stL1 : Nat → Value → List Value → List Value
  | 0, v, _ :: r => v :: r
  | 1, v, a :: _ :: r => clr a :: v :: r
  | i + 2, v, a :: r => a :: stL1 (i + 1) v r
  | _, _, _ => []
def stL2 : Nat → Value → List Value → List Value
  | 0, v, _ :: _ :: r => v :: .null :: r
  | 1, v, a :: _ :: _ :: r => clr a :: v :: .null :: r
  | i + 2, v, a :: r => a :: stL2 (i + 1) v r
  | _, _, _ => []
theorem clr_some {a w : Value} (h : clr a = w) (hw : w ≠ .null) : a = w ∧ ¬ w.category = 2 := by
  cases a <;> simp_all [clr] <;> subst h <;> simp [Value.category]
theorem stL1_get (v w : Value) : ∀ (i : Nat) (L : List Value) (j : Nat), (stL1 i v L)[j]? = some w → w ≠ .null → (j = i ∧ w = v) ∨ (j ≠ i ∧ L[j]? = some w ∧ ¬ (j + 1 = i ∧ w.category = 2))
  | 0, [], j, h, _ => by simp [stL1] at h
  | 0, a :: r, j, h, hw => by
    cases j with
    | zero => simp [stL1] at h; exact Or.inl ⟨rfl, h.symm⟩
    | succ j => simp [stL1] at h; exact Or.inr ⟨by omega, by simpa using h, by omega⟩
  | 1, [], j, h, _ => by simp [stL1] at h
  | 1, [a], j, h, _ => by simp [stL1] at h
  | 1, a :: b :: r, j, h, hw => by
    match j with
    | 0 =>
      simp [stL1] at h
      obtain ⟨e1, e2⟩ := clr_some h hw
      exact Or.inr ⟨by omega, by simp [e1], fun q => e2 q.2⟩
    | 1 => simp [stL1] at h; exact Or.inl ⟨rfl, h.symm⟩
    | j + 2 => simp [stL1] at h; exact Or.inr ⟨by omega, by simpa using h, by omega⟩
  | i + 2, [], j, h, _ => by simp [stL1] at h
  | i + 2, a :: r, j, h, hw => by
    cases j with
    | zero => simp [stL1] at h; exact Or.inr ⟨by omega, by simpa using h, by omega⟩
    | succ j =>
      simp only [stL1, List.getElem?_cons_succ] at h
      rcases stL1_get v w (i + 1) r j h hw with ⟨e1, e2⟩ | ⟨e1, e2, e3⟩
      · exact Or.inl ⟨by omega, e2⟩
      · exact Or.inr ⟨by omega, by simpa using e2, fun q => e3 ⟨by omega, q.2⟩⟩
theorem stL2_get (v w : Value) : ∀ (i : Nat) (L : List Value) (j : Nat), (stL2 i v L)[j]? = some w → w ≠ .null → (j = i ∧ w = v) ∨ (j ≠ i ∧ j ≠ i + 1 ∧ L[j]? = some w ∧ ¬ (j + 1 = i ∧ w.category = 2))
  | 0, [], j, h, _ => by simp [stL2] at h
  | 0, [a], j, h, _ => by simp [stL2] at h
  | 0, a :: b :: r, j, h, hw => by
    match j with
    | 0 => simp [stL2] at h; exact Or.inl ⟨rfl, h.symm⟩
    | 1 => simp [stL2] at h; exact absurd h.symm hw
    | j + 2 => simp [stL2] at h; exact Or.inr ⟨by omega, by omega, by simpa using h, by omega⟩
  | 1, [], j, h, _ => by simp [stL2] at h
  | 1, [a], j, h, _ => by simp [stL2] at h
  | 1, [a, b], j, h, _ => by simp [stL2] at h
  | 1, a :: b :: c :: r, j, h, hw => by
    match j with
    | 0 =>
      simp [stL2] at h
      obtain ⟨e1, e2⟩ := clr_some h hw
      exact Or.inr ⟨by omega, by omega, by simp [e1], fun q => e2 q.2⟩
    | 1 => simp [stL2] at h; exact Or.inl ⟨rfl, h.symm⟩
    | 2 => simp [stL2] at h; exact absurd h.symm hw
    | j + 3 => simp [stL2] at h; exact Or.inr ⟨by omega, by omega, by simpa using h, by omega⟩
  | i + 2, [], j, h, _ => by simp [stL2] at h
  | i + 2, a :: r, j, h, hw => by
    cases j with
    | zero => simp [stL2] at h; exact Or.inr ⟨by omega, by omega, by simpa using h, by omega⟩
    | succ j =>
      simp only [stL2, List.getElem?_cons_succ] at h
      rcases stL2_get v w (i + 1) r j h hw with ⟨e1, e2⟩ | ⟨e1, e1', e2, e3⟩
      · exact Or.inl ⟨by omega, e2⟩
      · exact Or.inr ⟨by omega, by omega, by simpa using e2, fun q => e3 ⟨by omega, q.2⟩⟩
theorem lR.st1 {E : eE} {ls' : Array Slot} {nL i : Nat} {v : Value} {L : List Value} (h : lv_has ls' nL ((i, sh E v) :: (tol E 0 L).filter (fun q => !(q.1 == i) && !(q.1 + 1 == i && q.2.category == 2)))) : lR E ls' nL (stL1 i v L) := by
  refine ⟨h.1, h.2.1, fun q hq => h.2.2 q ?_⟩
  obtain ⟨j, w, h1, h2, h3, h4⟩ := (tol_mem _ 0).mp hq
  obtain ⟨q1, q2⟩ := q
  simp only [Nat.zero_add] at h1
  dsimp only at h1 h4
  subst h1; subst h4
  rcases stL1_get v w i L q1 h2 h3 with ⟨e1, e2⟩ | ⟨e1, e2, e3⟩
  · subst e1; subst e2
    exact List.mem_cons_self
  · refine List.mem_cons_of_mem _ (List.mem_filter.mpr ⟨(tol_mem _ 0).mpr ⟨q1, w, by simp, e2, h3, rfl⟩, ?_⟩)
    simp only [sh_cat]
    simp only [Bool.and_eq_true, Bool.not_eq_true', beq_eq_false_iff_ne, ne_eq, Bool.and_eq_false_iff]
    refine ⟨e1, ?_⟩
    by_cases g : q1 + 1 = i
    · exact Or.inr fun k => e3 ⟨g, k⟩
    · exact Or.inl g
theorem lR.st2 {E : eE} {ls' : Array Slot} {nL i : Nat} {v : Value} {L : List Value} (h : lv_has ls' nL ((i, sh E v) :: (tol E 0 L).filter (fun q => !(q.1 == i) && (!(q.1 == i + 1) && !(q.1 + 1 == i && q.2.category == 2))))) : lR E ls' nL (stL2 i v L) := by
  refine ⟨h.1, h.2.1, fun q hq => h.2.2 q ?_⟩
  obtain ⟨j, w, h1, h2, h3, h4⟩ := (tol_mem _ 0).mp hq
  obtain ⟨q1, q2⟩ := q
  simp only [Nat.zero_add] at h1
  dsimp only at h1 h4
  subst h1; subst h4
  rcases stL2_get v w i L q1 h2 h3 with ⟨e1, e2⟩ | ⟨e1, e1', e2, e3⟩
  · subst e1; subst e2
    exact List.mem_cons_self
  · refine List.mem_cons_of_mem _ (List.mem_filter.mpr ⟨(tol_mem _ 0).mpr ⟨q1, w, by simp, e2, h3, rfl⟩, ?_⟩)
    simp only [sh_cat]
    simp only [Bool.and_eq_true, Bool.not_eq_true', beq_eq_false_iff_ne, ne_eq, Bool.and_eq_false_iff]
    refine ⟨e1, e1', ?_⟩
    by_cases g : q1 + 1 = i
    · exact Or.inr fun k => e3 ⟨g, k⟩
    · exact Or.inl g
/-- the arguments, as locals -/
def lay : Nat → List Value → List Value
  | n, [] => List.replicate n .null
  | n, .long x :: r => .long x :: .null :: lay (n - 2) r
  | n, .double x :: r => .double x :: .null :: lay (n - 2) r
  | n, v :: r => v :: lay (n - 1) r
def layN : List Value → Nat
  | [] => 0
  | .long _ :: r => layN r + 2
  | .double _ :: r => layN r + 2
  | _ :: r => layN r + 1
theorem layN_eq (E : eE) (A : List Value) : (lg_sl (A.map (sh E))).length = layN A := by
  induction A with
  | nil => rfl
  | cons v r ih =>
    have e : lg_sl ((v :: r).map (sh E)) = (if (sh E v).category = 2 then [.val (sh E v), .second] else [.val (sh E v)]) ++ lg_sl (r.map (sh E)) := by
      simp [lg_sl]
    rw [e, List.length_append, ih, sh_cat]
    cases v <;> simp [Value.category, layN] <;> omega
theorem tol_null (E : eE) : ∀ (n i : Nat), tol E i (List.replicate n .null) = []
  | 0, _ => rfl
  | n + 1, i => by rw [List.replicate_succ]; exact tol_null E n (i + 1)
theorem tol_lay (E : eE) : ∀ (A : List Value) (n i : Nat), ∀ q ∈ tol E i (lay n A), q ∈ lv_args i (A.map (sh E)) := by
  intro A
  induction A with
  | nil =>
    intro n i q hq
    rw [show lay n [] = List.replicate n .null from rfl, tol_null] at hq
    exact absurd hq List.not_mem_nil
  | cons v r ih =>
    intro n i q hq
    show q ∈ (i, sh E v) :: lv_args (if (sh E v).category = 2 then i + 2 else i + 1) (r.map (sh E))
    rw [sh_cat]
    cases v <;> simp only [lay, tol, Value.category] at hq ⊢ <;> first
      | (rcases List.mem_cons.mp hq with h | h
         · exact h ▸ List.mem_cons_self
         · exact List.mem_cons_of_mem _ (by simpa using ih _ _ q h))
      | exact List.mem_cons_of_mem _ (by simpa using ih _ _ q hq)
theorem lR_entry (E : eE) (A : List Value) {n : Nat} (h : layN A ≤ n) : lR E ((lg_sl (A.map (sh E)) ++ List.replicate (n - (lg_sl (A.map (sh E))).length) Slot.unset).toArray) n (lay n A) := by
  have g := lv_entry (A.map (sh E)) (n := n) (by rw [layN_eq]; exact h)
  exact ⟨g.1, g.2.1, fun q hq => g.2.2 q (tol_lay E A n 0 q hq)⟩
end
section
abbrev MD : Type := MethodName × ByteArray × Nat × Option FieldType
def Ins (M : MD) (pc : Nat) (i : Instr) (len pc' : Nat) : Prop := decode M.2.1 pc = .ok (i, len) ∧ pc + len = pc'
def NMl : List (String × Nat × MethodName × String) := [("UpWithSheaf", 11, ⟨"UpWithSheaf$Text", "<init>", "()V"⟩, "UpWithSheaf"), ("UpWithSheaf", 50, ⟨"UpWithSheaf$Sheets", "<init>", "()V"⟩, "UpWithSheaf"), ("UpWithSheaf", 157, ⟨"UpWithSheaf$Ahead", "greatest", "(LUpWithSheaf$Thrower;IIIIII)J"⟩, "UpWithSheaf"), ("UpWithSheaf", 161, ⟨"UpWithSheaf$Ahead", "byTrying", "(LUpWithSheaf$Thrower;IIIIII)J"⟩, "UpWithSheaf"), ("UpWithSheaf", 164, ⟨"UpWithSheaf$Ahead", "bySparing", "(LUpWithSheaf$Thrower;IIIIII)J"⟩, "UpWithSheaf"), ("UpWithSheaf", 170, ⟨"UpWithSheaf$Ahead", "unbeaten", "(LUpWithSheaf$Contest;I[LUpWithSheaf$Thrower;III)J"⟩, "UpWithSheaf")]
def va_AA (U : State) : Prop := (Cond.arrayOver (.array .int)).before #[] U = true
def XT (s : State) : Prop := (∀ q ∈ NMl, va_Nw (.methodLinkNest q.1 q.2.1 q.2.2.1 q.2.2.2) s) ∧ va_Nw (.fieldLinkNest "UpWithSheaf$Ahead" 82 "UpWithSheaf" "TENS" "[J" "UpWithSheaf") s ∧ va_AO "UpWithSheaf$Thrower" s ∧ va_AO "UpWithSheaf$Contest" s ∧ va_AA s
theorem va_AA.moved {u U : State} (hvm : u.vm.Alike U.vm) (h : va_AA u) : va_AA U := over_moved hvm h
theorem XT.warm {s U : State} (hW : s.WarmedH U.vm) (h : XT s) : XT U := ⟨fun q hq => (h.1 q hq).warmM hW, h.2.1.warmF hW, h.2.2.1.moved hW.alike, h.2.2.2.1.moved hW.alike, h.2.2.2.2.moved hW.alike⟩
theorem XT.same {s U : State} (hv : s.vm = U.vm) (h : XT s) : XT U := ⟨fun q hq => (h.1 q hq).same rfl hv, h.2.1.same rfl hv, h.2.2.1.moved (by rw [hv]; exact Vm.Alike.refl _), h.2.2.2.1.moved (by rw [hv]; exact Vm.Alike.refl _), h.2.2.2.2.moved (by rw [hv]; exact Vm.Alike.refl _)⟩
def wld (E : eE) (h : Hp) (z : Nat) (U : State) : Prop := hR E U h z U.heap ∧ va_K (aD E) vwCl [] U ∧ va_Z "UpWithSheaf" "TENS" "[J" (.ref E.2.1) (fun q => E.2.2.1 ≤ q) U U.heap ∧ XT U
def RetOK (ret : Option FieldType) (v : Option Value) (i : Instr) : Prop := match v with
  | none => ret = none ∧ i = .return_
  | some (.int x) => i = .ireturn ∧ (ret = some .int ∨ (ret = some .boolean ∧ (x = 0 ∨ x = 1)))
  | some (.long _) => i = .lreturn ∧ ret = some .long
  | _ => False
def RC (M : MD) (mc ms : Nat) (Q : Option Value → Hp → Nat → Prop) (p : Program) (l : Launch) (e : Env) (Rm : Room) (s : State) (m : MethodId) (args : Array Value) (below : List Frame) (meth : Method) (c : Code) (E : eE) (Qf : State → Prop) : Prop :=
  ∀ (v : Option Value) (h : Hp) (z k n pc : Nat) (H : Heap) (locs : List Loc) (ls : Array Slot) (i : Instr), Q v h z → RetOK M.2.2.2 v i → decode M.2.1 pc = .ok (i, 1) → hR E s h z H → va_S (fun q => E.2.2.1 ≤ q) s.heap H locs → k ≤ mc → n ≤ ms → W p l e Rm s m args below meth c H locs k n Qf (F0 m pc ls (v.toList.map (sh E)))
def Ox (M : MD) (d mc ms : Nat) (Q : Option Value → Hp → Nat → Prop) (p : Program) (l : Launch) (e : Env) (Rm : Room) (s : State) (m : MethodId) (args : Array Value) (below : List Frame) (meth : Method) (c : Code) (E : eE) (Qf : State → Prop) : Prop :=
  p.tables.exec = Jvm.exec ∧ c.code = M.2.1 ∧ c.maxLocals = M.2.2.1 ∧ s.vm.findClass M.1.cls = some m.cls ∧ (∀ w ∈ GW, w.before args s = true) ∧ (d ≤ Rm.frames ∧ 48 * d ≤ Rm.locals ∧ mc ≤ Rm.cells ∧ ms ≤ Rm.slots) ∧ (M.1.name = "<init>" → meth.name = "<init>") ∧ va_K (aD E) vwCl [] s ∧ va_Z "UpWithSheaf" "TENS" "[J" (.ref E.2.1) (fun q => E.2.2.1 ≤ q) s s.heap ∧ XT s ∧ E.2.2.1 ≤ s.heap.size ∧ RC M mc ms Q p l e Rm s m args below meth c E Qf
/-- the machine stands in method M at pc, with these locals, this stack, this heap (next cell z), k cells of n slots made; it comes to an end that Q says -/
def R (M : MD) (d mc ms : Nat) (Q : Option Value → Hp → Nat → Prop) (pc : Nat) (L S : List Value) (h : Hp) (z k n : Nat) : Prop :=
  ∀ (p : Program) (l : Launch) (e : Env) (Rm : Room) (s : State) (m : MethodId) (args : Array Value) (below : List Frame) (meth : Method) (c : Code) (E : eE) (Qf : State → Prop), Ox M d mc ms Q p l e Rm s m args below meth c E Qf → ∀ (H : Heap) (locs : List Loc) (ls : Array Slot), hR E s h z H → va_S (fun q => E.2.2.1 ≤ q) s.heap H locs → lR E ls M.2.2.1 L → k ≤ mc → n ≤ ms → W p l e Rm s m args below meth c H locs k n Qf (F0 m pc ls (S.map (sh E)))
def wM (M : MD) : List Cond := Cond.code M.1 M.2.1 M.2.2.1 M.2.2.2 :: GW
def rmd (d mc ms : Nat) : Room := { frames := d, cells := mc, slots := ms, locals := 48 * d }
def cPc (E : eE) (A : List Value) (h : Hp) (z : Nat) : Array Value → State → Prop := fun v U => v = (A.map (sh E)).toArray ∧ wld E h z U
def cQc (E : eE) (Q : Option Value → Hp → Nat → Prop) : Array Value → State → Outcome → State → Prop := fun _ st o t => ∃ (v : Option Value) (h : Hp) (z : Nat), o = .returned (v.map (sh E)) ∧ Q v h z ∧ hR E t h z t.heap ∧ va_F (fun q => E.2.2.1 ≤ q) st t
/-- a method's contract: with these arguments on this heap it returns, and Q says what -/
def Cal (M : MD) (d mc ms : Nat) (A : List Value) (h : Hp) (z : Nat) (Q : Option Value → Hp → Nat → Prop) : Prop := ∀ (l : Launch) (E : eE), Met l M.1 (wM M) (rmd d mc ms) (cPc E A h z) (cQc E Q) mc ms (fun q => E.2.2.1 ≤ q)
theorem R_mono {M : MD} {d mc ms pc : Nat} {Q Q' : Option Value → Hp → Nat → Prop} {L S : List Value} {h : Hp} {z k n : Nat} (hQ : ∀ v h z, Q v h z → Q' v h z) (K : R M d mc ms Q pc L S h z k n) : R M d mc ms Q' pc L S h z k n := by
  intro p l e Rm s m args below meth c E Qf O
  obtain ⟨hx, hb, hml, hown, hts, hrm, hin, hK, hZ, hX, hB, hRC⟩ := O
  exact K p l e Rm s m args below meth c E Qf ⟨hx, hb, hml, hown, hts, hrm, hin, hK, hZ, hX, hB, fun v h z k n pc H locs ls i q => hRC v h z k n pc H locs ls i (hQ _ _ _ q)⟩
theorem Cal_mono {M : MD} {d mc ms : Nat} {A : List Value} {h : Hp} {z : Nat} {Q Q' : Option Value → Hp → Nat → Prop} (hQ : ∀ v h z, Q v h z → Q' v h z) (K : Cal M d mc ms A h z Q) : Cal M d mc ms A h z Q' := by
  intro l E p e ha hc hk s m args below hf happ hpre hfree
  obtain ⟨t, o, h1, h2, h3, ⟨v, h', z', q1, q2, q3⟩, h5⟩ := K l E p e ha hc hk s m args below hf happ hpre hfree
  exact ⟨t, o, h1, h2, h3, ⟨v, h', z', q1, hQ _ _ _ q2, q3⟩, h5⟩
set_option maxHeartbeats 2000000 in
theorem Cal_of_R {M : MD} {d mc ms : Nat} {A L : List Value} {h : Hp} {z : Nat} {Q : Option Value → Hp → Nat → Prop} (hpl : plainName M.1.cls = true) (hL : lay M.2.2.1 A = L) (hn : layN A ≤ M.2.2.1) (K : R M d mc ms Q 0 L [] h z 0 0) : Cal M d mc ms A h z Q := by
  intro l E
  refine Met.ofW (cc := M.2.1) (maxL := M.2.2.1) (ret := M.2.2.2) hpl rfl ?_
  intro p e s m args below meth c s₁ B hml hv
  obtain ⟨rfl, hH, hK, hZ, hX⟩ := hv
  have hx := B.exec
  have hb := B.bytes
  have hr := B.returns
  have hts := atoms_spec (ws := wM M) B.pre
  have hown : s.vm.findClass M.1.cls = some m.cls := findClass_of_methodNamed B.named
  have hlocks := B.notSynchronized
  have hin : M.1.name = "<init>" → meth.name = "<init>" := fun q => by rw [(name_of_methodNamed B.named B.method).1]; exact q
  rw [lg_entry_eq]
  subst hL
  have hB : E.2.2.1 ≤ s.heap.size := by rw [hH.2.2.2.1]; omega
  refine K p l e _ s m _ below meth c E _ ⟨hx, hb, hml, hown, fun w hw => hts w (List.mem_cons_of_mem _ hw), ⟨Nat.le_refl _, Nat.le_refl _, Nat.le_refl _, Nat.le_refl _⟩, hin, hK, hZ, hX, hB, ?_⟩ s.heap [] _ hH va_S.rf (lR_entry E A hn) (Nat.zero_le _) (Nat.zero_le _)
  intro v h' z' k n pc H locs ls i hQ hR1 hdg hH1 hS hk hn
  refine W.widen hk hn ?_
  have hq : ∀ t : State, t.heap = H → s.WarmedH t.vm → cQc E Q (A.map (sh E)).toArray s (.returned (v.map (sh E))) t := fun t ht hW => ⟨v, h', z', rfl, hQ, by rw [ht]; exact hH1.moved hW.alike, hS.F ht⟩
  match v, hR1 with
  | none, hR1 =>
    obtain ⟨e1, rfl⟩ := hR1
    exact W.vret hx hb (by rw [hr]; exact e1) hq hS.2.2 hdg
  | some (.int x), hR1 =>
    obtain ⟨rfl, e1 | ⟨e1, e2⟩⟩ := hR1
    · exact W.iret hx hb (by rw [hr]; exact e1) hq hS.2.2 hdg
    · exact W.zret hx hb (by rw [hr]; exact e1) (by rcases e2 with rfl | rfl <;> rfl) hq hS.2.2 hdg
  | some (.long x), hR1 =>
    obtain ⟨rfl, e1⟩ := hR1
    exact W.lret hx hb (by rw [hr]; exact e1) hq hS.2.2 hdg
theorem r_iadd {M : MD} {d mc ms pc pc' z k n : Nat} {Q : Option Value → Hp → Nat → Prop} {L S : List Value} {h : Hp} {x y : Int32} (hi : Ins M pc .iadd 1 pc')  (K : R M d mc ms Q pc' L (.int (x + y) :: S) h z k n) : R M d mc ms Q pc L (.int y :: .int x :: S) h z k n := by
  intro p l e Rm s m args below meth c E Qf O H locs ls hH hS hL hk hn
  obtain ⟨hx, hb, hml, hown, hts, hrm, hin, hK, hZ, hX, hB, hRC⟩ := id O
  obtain ⟨hd, rfl⟩ := hi
  exact lv_iadd hx hb hd  (K p l e Rm s m args below meth c E Qf O H locs ls hH hS hL hk hn)
theorem r_isub {M : MD} {d mc ms pc pc' z k n : Nat} {Q : Option Value → Hp → Nat → Prop} {L S : List Value} {h : Hp} {x y : Int32} (hi : Ins M pc .isub 1 pc')  (K : R M d mc ms Q pc' L (.int (x - y) :: S) h z k n) : R M d mc ms Q pc L (.int y :: .int x :: S) h z k n := by
  intro p l e Rm s m args below meth c E Qf O H locs ls hH hS hL hk hn
  obtain ⟨hx, hb, hml, hown, hts, hrm, hin, hK, hZ, hX, hB, hRC⟩ := id O
  obtain ⟨hd, rfl⟩ := hi
  exact lv_isub hx hb hd  (K p l e Rm s m args below meth c E Qf O H locs ls hH hS hL hk hn)
theorem r_imul {M : MD} {d mc ms pc pc' z k n : Nat} {Q : Option Value → Hp → Nat → Prop} {L S : List Value} {h : Hp} {x y : Int32} (hi : Ins M pc .imul 1 pc')  (K : R M d mc ms Q pc' L (.int (x * y) :: S) h z k n) : R M d mc ms Q pc L (.int y :: .int x :: S) h z k n := by
  intro p l e Rm s m args below meth c E Qf O H locs ls hH hS hL hk hn
  obtain ⟨hx, hb, hml, hown, hts, hrm, hin, hK, hZ, hX, hB, hRC⟩ := id O
  obtain ⟨hd, rfl⟩ := hi
  exact lv_imul hx hb hd  (K p l e Rm s m args below meth c E Qf O H locs ls hH hS hL hk hn)
theorem r_iand {M : MD} {d mc ms pc pc' z k n : Nat} {Q : Option Value → Hp → Nat → Prop} {L S : List Value} {h : Hp} {x y : Int32} (hi : Ins M pc .iand 1 pc')  (K : R M d mc ms Q pc' L (.int (x &&& y) :: S) h z k n) : R M d mc ms Q pc L (.int y :: .int x :: S) h z k n := by
  intro p l e Rm s m args below meth c E Qf O H locs ls hH hS hL hk hn
  obtain ⟨hx, hb, hml, hown, hts, hrm, hin, hK, hZ, hX, hB, hRC⟩ := id O
  obtain ⟨hd, rfl⟩ := hi
  exact lv_iand hx hb hd  (K p l e Rm s m args below meth c E Qf O H locs ls hH hS hL hk hn)
theorem r_ior {M : MD} {d mc ms pc pc' z k n : Nat} {Q : Option Value → Hp → Nat → Prop} {L S : List Value} {h : Hp} {x y : Int32} (hi : Ins M pc .ior 1 pc')  (K : R M d mc ms Q pc' L (.int (x ||| y) :: S) h z k n) : R M d mc ms Q pc L (.int y :: .int x :: S) h z k n := by
  intro p l e Rm s m args below meth c E Qf O H locs ls hH hS hL hk hn
  obtain ⟨hx, hb, hml, hown, hts, hrm, hin, hK, hZ, hX, hB, hRC⟩ := id O
  obtain ⟨hd, rfl⟩ := hi
  exact lv_ior hx hb hd  (K p l e Rm s m args below meth c E Qf O H locs ls hH hS hL hk hn)
theorem r_ixor {M : MD} {d mc ms pc pc' z k n : Nat} {Q : Option Value → Hp → Nat → Prop} {L S : List Value} {h : Hp} {x y : Int32} (hi : Ins M pc .ixor 1 pc')  (K : R M d mc ms Q pc' L (.int (x ^^^ y) :: S) h z k n) : R M d mc ms Q pc L (.int y :: .int x :: S) h z k n := by
  intro p l e Rm s m args below meth c E Qf O H locs ls hH hS hL hk hn
  obtain ⟨hx, hb, hml, hown, hts, hrm, hin, hK, hZ, hX, hB, hRC⟩ := id O
  obtain ⟨hd, rfl⟩ := hi
  exact lv_ixor hx hb hd  (K p l e Rm s m args below meth c E Qf O H locs ls hH hS hL hk hn)
theorem r_ishl {M : MD} {d mc ms pc pc' z k n : Nat} {Q : Option Value → Hp → Nat → Prop} {L S : List Value} {h : Hp} {x y : Int32} (hi : Ins M pc .ishl 1 pc')  (K : R M d mc ms Q pc' L (.int (x <<< (y &&& 31)) :: S) h z k n) : R M d mc ms Q pc L (.int y :: .int x :: S) h z k n := by
  intro p l e Rm s m args below meth c E Qf O H locs ls hH hS hL hk hn
  obtain ⟨hx, hb, hml, hown, hts, hrm, hin, hK, hZ, hX, hB, hRC⟩ := id O
  obtain ⟨hd, rfl⟩ := hi
  exact lv_ishl hx hb hd  (K p l e Rm s m args below meth c E Qf O H locs ls hH hS hL hk hn)
theorem r_ishr {M : MD} {d mc ms pc pc' z k n : Nat} {Q : Option Value → Hp → Nat → Prop} {L S : List Value} {h : Hp} {x y : Int32} (hi : Ins M pc .ishr 1 pc')  (K : R M d mc ms Q pc' L (.int (x >>> (y &&& 31)) :: S) h z k n) : R M d mc ms Q pc L (.int y :: .int x :: S) h z k n := by
  intro p l e Rm s m args below meth c E Qf O H locs ls hH hS hL hk hn
  obtain ⟨hx, hb, hml, hown, hts, hrm, hin, hK, hZ, hX, hB, hRC⟩ := id O
  obtain ⟨hd, rfl⟩ := hi
  exact lv_ishr hx hb hd  (K p l e Rm s m args below meth c E Qf O H locs ls hH hS hL hk hn)
theorem r_idiv {M : MD} {d mc ms pc pc' z k n : Nat} {Q : Option Value → Hp → Nat → Prop} {L S : List Value} {h : Hp} {x y : Int32} (hi : Ins M pc .idiv 1 pc') (hne : ¬ y = 0) (K : R M d mc ms Q pc' L (.int (x / y) :: S) h z k n) : R M d mc ms Q pc L (.int y :: .int x :: S) h z k n := by
  intro p l e Rm s m args below meth c E Qf O H locs ls hH hS hL hk hn
  obtain ⟨hx, hb, hml, hown, hts, hrm, hin, hK, hZ, hX, hB, hRC⟩ := id O
  obtain ⟨hd, rfl⟩ := hi
  exact lv_idiv hx hb hd hne (K p l e Rm s m args below meth c E Qf O H locs ls hH hS hL hk hn)
theorem r_irem {M : MD} {d mc ms pc pc' z k n : Nat} {Q : Option Value → Hp → Nat → Prop} {L S : List Value} {h : Hp} {x y : Int32} (hi : Ins M pc .irem 1 pc') (hne : ¬ y = 0) (K : R M d mc ms Q pc' L (.int (x - x / y * y) :: S) h z k n) : R M d mc ms Q pc L (.int y :: .int x :: S) h z k n := by
  intro p l e Rm s m args below meth c E Qf O H locs ls hH hS hL hk hn
  obtain ⟨hx, hb, hml, hown, hts, hrm, hin, hK, hZ, hX, hB, hRC⟩ := id O
  obtain ⟨hd, rfl⟩ := hi
  exact lv_irem hx hb hd hne (K p l e Rm s m args below meth c E Qf O H locs ls hH hS hL hk hn)
theorem r_ladd {M : MD} {d mc ms pc pc' z k n : Nat} {Q : Option Value → Hp → Nat → Prop} {L S : List Value} {h : Hp} {x y : Int64} (hi : Ins M pc .ladd 1 pc')  (K : R M d mc ms Q pc' L (.long (x + y) :: S) h z k n) : R M d mc ms Q pc L (.long y :: .long x :: S) h z k n := by
  intro p l e Rm s m args below meth c E Qf O H locs ls hH hS hL hk hn
  obtain ⟨hx, hb, hml, hown, hts, hrm, hin, hK, hZ, hX, hB, hRC⟩ := id O
  obtain ⟨hd, rfl⟩ := hi
  exact lv_ladd hx hb hd  (K p l e Rm s m args below meth c E Qf O H locs ls hH hS hL hk hn)
theorem r_lsub {M : MD} {d mc ms pc pc' z k n : Nat} {Q : Option Value → Hp → Nat → Prop} {L S : List Value} {h : Hp} {x y : Int64} (hi : Ins M pc .lsub 1 pc')  (K : R M d mc ms Q pc' L (.long (x - y) :: S) h z k n) : R M d mc ms Q pc L (.long y :: .long x :: S) h z k n := by
  intro p l e Rm s m args below meth c E Qf O H locs ls hH hS hL hk hn
  obtain ⟨hx, hb, hml, hown, hts, hrm, hin, hK, hZ, hX, hB, hRC⟩ := id O
  obtain ⟨hd, rfl⟩ := hi
  exact lv_lsub hx hb hd  (K p l e Rm s m args below meth c E Qf O H locs ls hH hS hL hk hn)
theorem r_lmul {M : MD} {d mc ms pc pc' z k n : Nat} {Q : Option Value → Hp → Nat → Prop} {L S : List Value} {h : Hp} {x y : Int64} (hi : Ins M pc .lmul 1 pc')  (K : R M d mc ms Q pc' L (.long (x * y) :: S) h z k n) : R M d mc ms Q pc L (.long y :: .long x :: S) h z k n := by
  intro p l e Rm s m args below meth c E Qf O H locs ls hH hS hL hk hn
  obtain ⟨hx, hb, hml, hown, hts, hrm, hin, hK, hZ, hX, hB, hRC⟩ := id O
  obtain ⟨hd, rfl⟩ := hi
  exact lv_lmul hx hb hd  (K p l e Rm s m args below meth c E Qf O H locs ls hH hS hL hk hn)
theorem r_land {M : MD} {d mc ms pc pc' z k n : Nat} {Q : Option Value → Hp → Nat → Prop} {L S : List Value} {h : Hp} {x y : Int64} (hi : Ins M pc .land 1 pc')  (K : R M d mc ms Q pc' L (.long (x &&& y) :: S) h z k n) : R M d mc ms Q pc L (.long y :: .long x :: S) h z k n := by
  intro p l e Rm s m args below meth c E Qf O H locs ls hH hS hL hk hn
  obtain ⟨hx, hb, hml, hown, hts, hrm, hin, hK, hZ, hX, hB, hRC⟩ := id O
  obtain ⟨hd, rfl⟩ := hi
  exact lv_land hx hb hd  (K p l e Rm s m args below meth c E Qf O H locs ls hH hS hL hk hn)
theorem r_lor {M : MD} {d mc ms pc pc' z k n : Nat} {Q : Option Value → Hp → Nat → Prop} {L S : List Value} {h : Hp} {x y : Int64} (hi : Ins M pc .lor 1 pc')  (K : R M d mc ms Q pc' L (.long (x ||| y) :: S) h z k n) : R M d mc ms Q pc L (.long y :: .long x :: S) h z k n := by
  intro p l e Rm s m args below meth c E Qf O H locs ls hH hS hL hk hn
  obtain ⟨hx, hb, hml, hown, hts, hrm, hin, hK, hZ, hX, hB, hRC⟩ := id O
  obtain ⟨hd, rfl⟩ := hi
  exact lv_lor hx hb hd  (K p l e Rm s m args below meth c E Qf O H locs ls hH hS hL hk hn)
theorem r_lxor {M : MD} {d mc ms pc pc' z k n : Nat} {Q : Option Value → Hp → Nat → Prop} {L S : List Value} {h : Hp} {x y : Int64} (hi : Ins M pc .lxor 1 pc')  (K : R M d mc ms Q pc' L (.long (x ^^^ y) :: S) h z k n) : R M d mc ms Q pc L (.long y :: .long x :: S) h z k n := by
  intro p l e Rm s m args below meth c E Qf O H locs ls hH hS hL hk hn
  obtain ⟨hx, hb, hml, hown, hts, hrm, hin, hK, hZ, hX, hB, hRC⟩ := id O
  obtain ⟨hd, rfl⟩ := hi
  exact lv_lxor hx hb hd  (K p l e Rm s m args below meth c E Qf O H locs ls hH hS hL hk hn)
theorem r_ldiv {M : MD} {d mc ms pc pc' z k n : Nat} {Q : Option Value → Hp → Nat → Prop} {L S : List Value} {h : Hp} {x y : Int64} (hi : Ins M pc .ldiv 1 pc') (hne : ¬ y = 0) (K : R M d mc ms Q pc' L (.long (x / y) :: S) h z k n) : R M d mc ms Q pc L (.long y :: .long x :: S) h z k n := by
  intro p l e Rm s m args below meth c E Qf O H locs ls hH hS hL hk hn
  obtain ⟨hx, hb, hml, hown, hts, hrm, hin, hK, hZ, hX, hB, hRC⟩ := id O
  obtain ⟨hd, rfl⟩ := hi
  exact lv_ldiv hx hb hd hne (K p l e Rm s m args below meth c E Qf O H locs ls hH hS hL hk hn)
theorem r_lrem {M : MD} {d mc ms pc pc' z k n : Nat} {Q : Option Value → Hp → Nat → Prop} {L S : List Value} {h : Hp} {x y : Int64} (hi : Ins M pc .lrem 1 pc') (hne : ¬ y = 0) (K : R M d mc ms Q pc' L (.long (x - x / y * y) :: S) h z k n) : R M d mc ms Q pc L (.long y :: .long x :: S) h z k n := by
  intro p l e Rm s m args below meth c E Qf O H locs ls hH hS hL hk hn
  obtain ⟨hx, hb, hml, hown, hts, hrm, hin, hK, hZ, hX, hB, hRC⟩ := id O
  obtain ⟨hd, rfl⟩ := hi
  exact lv_lrem hx hb hd hne (K p l e Rm s m args below meth c E Qf O H locs ls hH hS hL hk hn)
theorem r_lcmp {M : MD} {d mc ms pc pc' z k n : Nat} {Q : Option Value → Hp → Nat → Prop} {L S : List Value} {h : Hp} {x y : Int64} (hi : Ins M pc .lcmp 1 pc')  (K : R M d mc ms Q pc' L (.int (lg_cmp x y) :: S) h z k n) : R M d mc ms Q pc L (.long y :: .long x :: S) h z k n := by
  intro p l e Rm s m args below meth c E Qf O H locs ls hH hS hL hk hn
  obtain ⟨hx, hb, hml, hown, hts, hrm, hin, hK, hZ, hX, hB, hRC⟩ := id O
  obtain ⟨hd, rfl⟩ := hi
  exact W.lcmp hx hb hd  (K p l e Rm s m args below meth c E Qf O H locs ls hH hS hL hk hn)
theorem r_i2l {M : MD} {d mc ms pc pc' z k n : Nat} {Q : Option Value → Hp → Nat → Prop} {L S : List Value} {h : Hp} {x : Int32} (hi : Ins M pc .i2l 1 pc')  (K : R M d mc ms Q pc' L (.long x.toInt64 :: S) h z k n) : R M d mc ms Q pc L (.int x :: S) h z k n := by
  intro p l e Rm s m args below meth c E Qf O H locs ls hH hS hL hk hn
  obtain ⟨hx, hb, hml, hown, hts, hrm, hin, hK, hZ, hX, hB, hRC⟩ := id O
  obtain ⟨hd, rfl⟩ := hi
  exact lv_i2l hx hb hd rfl (K p l e Rm s m args below meth c E Qf O H locs ls hH hS hL hk hn)
theorem r_l2i {M : MD} {d mc ms pc pc' z k n : Nat} {Q : Option Value → Hp → Nat → Prop} {L S : List Value} {h : Hp} {x : Int64} (hi : Ins M pc .l2i 1 pc')  (K : R M d mc ms Q pc' L (.int x.toInt32 :: S) h z k n) : R M d mc ms Q pc L (.long x :: S) h z k n := by
  intro p l e Rm s m args below meth c E Qf O H locs ls hH hS hL hk hn
  obtain ⟨hx, hb, hml, hown, hts, hrm, hin, hK, hZ, hX, hB, hRC⟩ := id O
  obtain ⟨hd, rfl⟩ := hi
  exact lv_l2i hx hb hd rfl (K p l e Rm s m args below meth c E Qf O H locs ls hH hS hL hk hn)
theorem r_ineg {M : MD} {d mc ms pc pc' z k n : Nat} {Q : Option Value → Hp → Nat → Prop} {L S : List Value} {h : Hp} {x : Int32} (hi : Ins M pc .ineg 1 pc')  (K : R M d mc ms Q pc' L (.int (-x) :: S) h z k n) : R M d mc ms Q pc L (.int x :: S) h z k n := by
  intro p l e Rm s m args below meth c E Qf O H locs ls hH hS hL hk hn
  obtain ⟨hx, hb, hml, hown, hts, hrm, hin, hK, hZ, hX, hB, hRC⟩ := id O
  obtain ⟨hd, rfl⟩ := hi
  exact lv_ineg hx hb hd  (K p l e Rm s m args below meth c E Qf O H locs ls hH hS hL hk hn)
theorem r_lushr {M : MD} {d mc ms pc pc' z k n : Nat} {Q : Option Value → Hp → Nat → Prop} {L S : List Value} {h : Hp} {x : Int64} {y : Int32} (hi : Ins M pc .lushr 1 pc')  (K : R M d mc ms Q pc' L (.long ((x.toUInt64 >>> (y.toInt64.toUInt64 &&& Int64.toUInt64 63)).toInt64) :: S) h z k n) : R M d mc ms Q pc L (.int y :: .long x :: S) h z k n := by
  intro p l e Rm s m args below meth c E Qf O H locs ls hH hS hL hk hn
  obtain ⟨hx, hb, hml, hown, hts, hrm, hin, hK, hZ, hX, hB, hRC⟩ := id O
  obtain ⟨hd, rfl⟩ := hi
  exact lv_lushr hx hb hd rfl (K p l e Rm s m args below meth c E Qf O H locs ls hH hS hL hk hn)
theorem r_lshl {M : MD} {d mc ms pc pc' z k n : Nat} {Q : Option Value → Hp → Nat → Prop} {L S : List Value} {h : Hp} {x : Int64} {y : Int32} (hi : Ins M pc .lshl 1 pc')  (K : R M d mc ms Q pc' L (.long (x <<< (y.toInt64 &&& 63)) :: S) h z k n) : R M d mc ms Q pc L (.int y :: .long x :: S) h z k n := by
  intro p l e Rm s m args below meth c E Qf O H locs ls hH hS hL hk hn
  obtain ⟨hx, hb, hml, hown, hts, hrm, hin, hK, hZ, hX, hB, hRC⟩ := id O
  obtain ⟨hd, rfl⟩ := hi
  exact lv_lshl hx hb hd rfl (K p l e Rm s m args below meth c E Qf O H locs ls hH hS hL hk hn)
theorem r_lshr {M : MD} {d mc ms pc pc' z k n : Nat} {Q : Option Value → Hp → Nat → Prop} {L S : List Value} {h : Hp} {x : Int64} {y : Int32} (hi : Ins M pc .lshr 1 pc')  (K : R M d mc ms Q pc' L (.long (x >>> (y.toInt64 &&& 63)) :: S) h z k n) : R M d mc ms Q pc L (.int y :: .long x :: S) h z k n := by
  intro p l e Rm s m args below meth c E Qf O H locs ls hH hS hL hk hn
  obtain ⟨hx, hb, hml, hown, hts, hrm, hin, hK, hZ, hX, hB, hRC⟩ := id O
  obtain ⟨hd, rfl⟩ := hi
  exact lv_lshr hx hb hd rfl (K p l e Rm s m args below meth c E Qf O H locs ls hH hS hL hk hn)
theorem r_iconst {M : MD} {d mc ms pc pc' z k n : Nat} {Q : Option Value → Hp → Nat → Prop} {L S : List Value} {h : Hp} {w : Int} {v : Int32} (hi : Ins M pc (.iconst w) 1 pc') (hv : Int32.ofInt w = v) (K : R M d mc ms Q pc' L (.int v :: S) h z k n) : R M d mc ms Q pc L S h z k n := by
  intro p l e Rm s m args below meth c E Qf O H locs ls hH hS hL hk hn
  obtain ⟨hx, hb, hml, hown, hts, hrm, hin, hK, hZ, hX, hB, hRC⟩ := id O
  obtain ⟨hd, rfl⟩ := hi
  exact lv_iconst hx hb hd hv (K p l e Rm s m args below meth c E Qf O H locs ls hH hS hL hk hn)
theorem r_bipush {M : MD} {d mc ms pc pc' z k n : Nat} {Q : Option Value → Hp → Nat → Prop} {L S : List Value} {h : Hp} {w : Int} {v : Int32} (hi : Ins M pc (.bipush w) 2 pc') (hv : (Int8.ofInt w).toInt32 = v) (K : R M d mc ms Q pc' L (.int v :: S) h z k n) : R M d mc ms Q pc L S h z k n := by
  intro p l e Rm s m args below meth c E Qf O H locs ls hH hS hL hk hn
  obtain ⟨hx, hb, hml, hown, hts, hrm, hin, hK, hZ, hX, hB, hRC⟩ := id O
  obtain ⟨hd, rfl⟩ := hi
  exact lv_bipush hx hb hd hv (K p l e Rm s m args below meth c E Qf O H locs ls hH hS hL hk hn)
theorem r_sipush {M : MD} {d mc ms pc pc' z k n : Nat} {Q : Option Value → Hp → Nat → Prop} {L S : List Value} {h : Hp} {w : Int} {v : Int32} (hi : Ins M pc (.sipush w) 3 pc') (hv : (Int16.ofInt w).toInt32 = v) (K : R M d mc ms Q pc' L (.int v :: S) h z k n) : R M d mc ms Q pc L S h z k n := by
  intro p l e Rm s m args below meth c E Qf O H locs ls hH hS hL hk hn
  obtain ⟨hx, hb, hml, hown, hts, hrm, hin, hK, hZ, hX, hB, hRC⟩ := id O
  obtain ⟨hd, rfl⟩ := hi
  exact lv_sipush hx hb hd hv (K p l e Rm s m args below meth c E Qf O H locs ls hH hS hL hk hn)
theorem r_lconst {M : MD} {d mc ms pc pc' z k n : Nat} {Q : Option Value → Hp → Nat → Prop} {L S : List Value} {h : Hp} {w : Fin 2} {v : Int64} (hi : Ins M pc (.lconst w) 1 pc') (hv : Int64.ofNat (w : Nat) = v) (K : R M d mc ms Q pc' L (.long v :: S) h z k n) : R M d mc ms Q pc L S h z k n := by
  intro p l e Rm s m args below meth c E Qf O H locs ls hH hS hL hk hn
  obtain ⟨hx, hb, hml, hown, hts, hrm, hin, hK, hZ, hX, hB, hRC⟩ := id O
  obtain ⟨hd, rfl⟩ := hi
  exact lv_lconst hx hb hd hv (K p l e Rm s m args below meth c E Qf O H locs ls hH hS hL hk hn)
theorem r_dup {M : MD} {d mc ms pc pc' z k n : Nat} {Q : Option Value → Hp → Nat → Prop} {L S : List Value} {h : Hp} {a : Value} (hi : Ins M pc .dup 1 pc') (hc : a.category = 1) (K : R M d mc ms Q pc' L (a :: a :: S) h z k n) : R M d mc ms Q pc L (a :: S) h z k n := by
  intro p l e Rm s m args below meth c E Qf O H locs ls hH hS hL hk hn
  obtain ⟨hx, hb, hml, hown, hts, hrm, hin, hK, hZ, hX, hB, hRC⟩ := id O
  obtain ⟨hd, rfl⟩ := hi
  exact lv_dup hx hb hd (by rw [sh_cat]; exact hc) (K p l e Rm s m args below meth c E Qf O H locs ls hH hS hL hk hn)
theorem r_dup2 {M : MD} {d mc ms pc pc' z k n : Nat} {Q : Option Value → Hp → Nat → Prop} {L S : List Value} {h : Hp} {a b : Value} (hi : Ins M pc .dup2 1 pc') (hc : a.category = 1) (hc2 : b.category = 1) (K : R M d mc ms Q pc' L (a :: b :: a :: b :: S) h z k n) : R M d mc ms Q pc L (a :: b :: S) h z k n := by
  intro p l e Rm s m args below meth c E Qf O H locs ls hH hS hL hk hn
  obtain ⟨hx, hb, hml, hown, hts, hrm, hin, hK, hZ, hX, hB, hRC⟩ := id O
  obtain ⟨hd, rfl⟩ := hi
  exact lv_dup2_11 hx hb hd (by rw [sh_cat]; exact hc) (by rw [sh_cat]; exact hc2) (K p l e Rm s m args below meth c E Qf O H locs ls hH hS hL hk hn)
theorem r_pop {M : MD} {d mc ms pc pc' z k n : Nat} {Q : Option Value → Hp → Nat → Prop} {L S : List Value} {h : Hp} {a : Value} (hi : Ins M pc .pop 1 pc') (hc : a.category = 1) (K : R M d mc ms Q pc' L S h z k n) : R M d mc ms Q pc L (a :: S) h z k n := by
  intro p l e Rm s m args below meth c E Qf O H locs ls hH hS hL hk hn
  obtain ⟨hx, hb, hml, hown, hts, hrm, hin, hK, hZ, hX, hB, hRC⟩ := id O
  obtain ⟨hd, rfl⟩ := hi
  exact lv_pop hx hb hd (by rw [sh_cat]; exact hc) (K p l e Rm s m args below meth c E Qf O H locs ls hH hS hL hk hn)
theorem r_ldc {M : MD} {d mc ms pc pc' z k n : Nat} {Q : Option Value → Hp → Nat → Prop} {L S : List Value} {h : Hp} {idx : Nat} {v : Int32} (hi : Ins M pc (.ldc idx) 2 pc') (hw : Cond.constant M.1.cls idx v ∈ GW) (K : R M d mc ms Q pc' L (.int v :: S) h z k n) : R M d mc ms Q pc L S h z k n := by
  intro p l e Rm s m args below meth c E Qf O H locs ls hH hS hL hk hn
  obtain ⟨hx, hb, hml, hown, hts, hrm, hin, hK, hZ, hX, hB, hRC⟩ := id O
  obtain ⟨hd, rfl⟩ := hi
  exact lv_ldc hx hb hown (hts _ hw) hd (K p l e Rm s m args below meth c E Qf O H locs ls hH hS hL hk hn)
theorem r_ldc2 {M : MD} {d mc ms pc pc' z k n : Nat} {Q : Option Value → Hp → Nat → Prop} {L S : List Value} {h : Hp} {idx : Nat} {v : Int64} (hi : Ins M pc (.ldc2_w idx) 3 pc') (hw : Cond.constantLong M.1.cls idx v ∈ GW) (K : R M d mc ms Q pc' L (.long v :: S) h z k n) : R M d mc ms Q pc L S h z k n := by
  intro p l e Rm s m args below meth c E Qf O H locs ls hH hS hL hk hn
  obtain ⟨hx, hb, hml, hown, hts, hrm, hin, hK, hZ, hX, hB, hRC⟩ := id O
  obtain ⟨hd, rfl⟩ := hi
  exact lv_ldc2 hx hb hown (hts _ hw) hd (K p l e Rm s m args below meth c E Qf O H locs ls hH hS hL hk hn)
def LdI (M : MD) (pc i pc' : Nat) : Prop := Ins M pc (.iload i) 2 pc' ∨ ∃ k : Fin 4, (k : Nat) = i ∧ Ins M pc (.iload_n k) 1 pc'
theorem r_iload {M : MD} {d mc ms pc pc' z k n : Nat} {Q : Option Value → Hp → Nat → Prop} {L S : List Value} {h : Hp} {i : Nat} {x : Int32} (hi : LdI M pc i pc') (hl : L[i]? = some (.int x)) (K : R M d mc ms Q pc' L (.int x :: S) h z k n) : R M d mc ms Q pc L S h z k n := by
  intro p l e Rm s m args below meth c E Qf O H locs ls hH hS hL hk hn
  obtain ⟨hx, hb, hml, hown, hts, hrm, hin, hK, hZ, hX, hB, hRC⟩ := id O
  have g := hL.at hl (fun q => by cases q)
  rcases hi with ⟨hd, rfl⟩ | ⟨w, hw, hd, rfl⟩
  · exact lv_iload hx hb hd g (K p l e Rm s m args below meth c E Qf O H locs ls hH hS hL hk hn)
  · exact lv_iload_n hx hb hd hw g (K p l e Rm s m args below meth c E Qf O H locs ls hH hS hL hk hn)
def LdL (M : MD) (pc i pc' : Nat) : Prop := Ins M pc (.lload i) 2 pc' ∨ ∃ k : Fin 4, (k : Nat) = i ∧ Ins M pc (.lload_n k) 1 pc'
theorem r_lload {M : MD} {d mc ms pc pc' z k n : Nat} {Q : Option Value → Hp → Nat → Prop} {L S : List Value} {h : Hp} {i : Nat} {x : Int64} (hi : LdL M pc i pc') (hl : L[i]? = some (.long x)) (K : R M d mc ms Q pc' L (.long x :: S) h z k n) : R M d mc ms Q pc L S h z k n := by
  intro p l e Rm s m args below meth c E Qf O H locs ls hH hS hL hk hn
  obtain ⟨hx, hb, hml, hown, hts, hrm, hin, hK, hZ, hX, hB, hRC⟩ := id O
  have g := hL.at hl (fun q => by cases q)
  rcases hi with ⟨hd, rfl⟩ | ⟨w, hw, hd, rfl⟩
  · exact lv_lload hx hb hd g (K p l e Rm s m args below meth c E Qf O H locs ls hH hS hL hk hn)
  · exact lv_lload_n hx hb hd hw g (K p l e Rm s m args below meth c E Qf O H locs ls hH hS hL hk hn)
def LdA (M : MD) (pc i pc' : Nat) : Prop := Ins M pc (.aload i) 2 pc' ∨ ∃ k : Fin 4, (k : Nat) = i ∧ Ins M pc (.aload_n k) 1 pc'
theorem r_aload {M : MD} {d mc ms pc pc' z k n : Nat} {Q : Option Value → Hp → Nat → Prop} {L S : List Value} {h : Hp} {i : Nat} {x : Nat} (hi : LdA M pc i pc') (hl : L[i]? = some (.ref x)) (K : R M d mc ms Q pc' L (.ref x :: S) h z k n) : R M d mc ms Q pc L S h z k n := by
  intro p l e Rm s m args below meth c E Qf O H locs ls hH hS hL hk hn
  obtain ⟨hx, hb, hml, hown, hts, hrm, hin, hK, hZ, hX, hB, hRC⟩ := id O
  have g := hL.at hl (fun q => by cases q)
  rcases hi with ⟨hd, rfl⟩ | ⟨w, hw, hd, rfl⟩
  · exact lv_aload hx hb hd g (K p l e Rm s m args below meth c E Qf O H locs ls hH hS hL hk hn)
  · exact lv_aload_n hx hb hd hw g (K p l e Rm s m args below meth c E Qf O H locs ls hH hS hL hk hn)
def StI (M : MD) (pc i pc' : Nat) : Prop := (Ins M pc (.istore i) 2 pc' ∨ ∃ k : Fin 4, (k : Nat) = i ∧ Ins M pc (.istore_n k) 1 pc') ∧ i + 1 ≤ M.2.2.1
theorem r_istoreG {M : MD} {d mc ms pc pc' z k n : Nat} {Q : Option Value → Hp → Nat → Prop} {L S : List Value} {h : Hp} {i : Nat} {x : Int32} {L' : List Value} (hi : StI M pc i pc') (hl : stL1 i (.int x) L = L') (K : R M d mc ms Q pc' L' S h z k n) : R M d mc ms Q pc L (.int x :: S) h z k n := by
  intro p l e Rm s m args below meth c E Qf O H locs ls hH hS hL hk hn
  obtain ⟨hx, hb, hml, hown, hts, hrm, hin, hK, hZ, hX, hB, hRC⟩ := id O
  subst hl
  obtain ⟨hi, hn2⟩ := hi
  rcases hi with ⟨hd, rfl⟩ | ⟨w, hw, hd, rfl⟩
  · exact lv_istore hx hb hd hL (by omega) rfl (fun ls' hL' => K p l e Rm s m args below meth c E Qf O H locs ls' hH hS (lR.st1 hL') hk hn)
  · exact lv_istore_n hx hb hd hw hL (by omega) rfl (fun ls' hL' => K p l e Rm s m args below meth c E Qf O H locs ls' hH hS (lR.st1 hL') hk hn)
def StL (M : MD) (pc i pc' : Nat) : Prop := (Ins M pc (.lstore i) 2 pc' ∨ ∃ k : Fin 4, (k : Nat) = i ∧ Ins M pc (.lstore_n k) 1 pc') ∧ i + 2 ≤ M.2.2.1
theorem r_lstoreG {M : MD} {d mc ms pc pc' z k n : Nat} {Q : Option Value → Hp → Nat → Prop} {L S : List Value} {h : Hp} {i : Nat} {x : Int64} {L' : List Value} (hi : StL M pc i pc') (hl : stL2 i (.long x) L = L') (K : R M d mc ms Q pc' L' S h z k n) : R M d mc ms Q pc L (.long x :: S) h z k n := by
  intro p l e Rm s m args below meth c E Qf O H locs ls hH hS hL hk hn
  obtain ⟨hx, hb, hml, hown, hts, hrm, hin, hK, hZ, hX, hB, hRC⟩ := id O
  subst hl
  obtain ⟨hi, hn2⟩ := hi
  rcases hi with ⟨hd, rfl⟩ | ⟨w, hw, hd, rfl⟩
  · exact lv_lstore hx hb hd hL (by omega) rfl (fun ls' hL' => K p l e Rm s m args below meth c E Qf O H locs ls' hH hS (lR.st2 hL') hk hn)
  · exact lv_lstore_n hx hb hd hw hL (by omega) rfl (fun ls' hL' => K p l e Rm s m args below meth c E Qf O H locs ls' hH hS (lR.st2 hL') hk hn)
def StA (M : MD) (pc i pc' : Nat) : Prop := (Ins M pc (.astore i) 2 pc' ∨ ∃ k : Fin 4, (k : Nat) = i ∧ Ins M pc (.astore_n k) 1 pc') ∧ i + 1 ≤ M.2.2.1
theorem r_astoreG {M : MD} {d mc ms pc pc' z k n : Nat} {Q : Option Value → Hp → Nat → Prop} {L S : List Value} {h : Hp} {i : Nat} {x : Nat} {L' : List Value} (hi : StA M pc i pc') (hl : stL1 i (.ref x) L = L') (K : R M d mc ms Q pc' L' S h z k n) : R M d mc ms Q pc L (.ref x :: S) h z k n := by
  intro p l e Rm s m args below meth c E Qf O H locs ls hH hS hL hk hn
  obtain ⟨hx, hb, hml, hown, hts, hrm, hin, hK, hZ, hX, hB, hRC⟩ := id O
  subst hl
  obtain ⟨hi, hn2⟩ := hi
  rcases hi with ⟨hd, rfl⟩ | ⟨w, hw, hd, rfl⟩
  · exact lv_astore hx hb hd hL (by omega) rfl (fun ls' hL' => K p l e Rm s m args below meth c E Qf O H locs ls' hH hS (lR.st1 hL') hk hn)
  · exact lv_astore_n hx hb hd hw hL (by omega) rfl (fun ls' hL' => K p l e Rm s m args below meth c E Qf O H locs ls' hH hS (lR.st1 hL') hk hn)
def Inc (M : MD) (pc i : Nat) (w : Int) (pc' : Nat) : Prop := Ins M pc (.iinc i w) 3 pc' ∧ i + 1 ≤ M.2.2.1
theorem r_iincG {M : MD} {d mc ms pc pc' z k n : Nat} {Q : Option Value → Hp → Nat → Prop} {L S : List Value} {h : Hp} {i : Nat} {w : Int} {x v : Int32} {L' : List Value} (hi : Inc M pc i w pc') (hl0 : L[i]? = some (.int x)) (hv : x + Int32.ofInt w = v) (hl : stL1 i (.int v) L = L') (K : R M d mc ms Q pc' L' S h z k n) : R M d mc ms Q pc L S h z k n := by
  intro p l e Rm s m args below meth c E Qf O H locs ls hH hS hL hk hn
  obtain ⟨hx, hb, hml, hown, hts, hrm, hin, hK, hZ, hX, hB, hRC⟩ := id O
  subst hl
  obtain ⟨⟨hd, rfl⟩, hn2⟩ := hi
  obtain ⟨kk, hkk⟩ := List.getElem?_of_mem ((tol_mem (E := E) (q := (i, .int x)) L 0).mpr ⟨i, .int x, by simp, hl0, (fun q => by cases q), rfl⟩)
  exact lv_iinc hx hb hd hL hkk hv (by omega) rfl (fun ls' hL' => K p l e Rm s m args below meth c E Qf O H locs ls' hH hS (lR.st1 (v := .int v) hL') hk hn)
theorem r_istore_0 {M : MD} {d mc ms pc pc' z k n : Nat} {Q : Option Value → Hp → Nat → Prop} {S : List Value} {h : Hp} {a0 : Value} {r : List Value} {x : Int32} (hi : StI M pc 0 pc') (K : R M d mc ms Q pc' (.int x :: r) S h z k n) : R M d mc ms Q pc (a0 :: r) (.int x :: S) h z k n := r_istoreG hi (by rfl) K
theorem r_astore_0 {M : MD} {d mc ms pc pc' z k n : Nat} {Q : Option Value → Hp → Nat → Prop} {S : List Value} {h : Hp} {a0 : Value} {r : List Value} {x : Nat} (hi : StA M pc 0 pc') (K : R M d mc ms Q pc' (.ref x :: r) S h z k n) : R M d mc ms Q pc (a0 :: r) (.ref x :: S) h z k n := r_astoreG hi (by rfl) K
theorem r_iinc_0 {M : MD} {d mc ms pc pc' z k n : Nat} {Q : Option Value → Hp → Nat → Prop} {S : List Value} {h : Hp} {r : List Value} {w : Int} {x v : Int32} (hi : Inc M pc 0 w pc') (hv : x + Int32.ofInt w = v) (K : R M d mc ms Q pc' (.int v :: r) S h z k n) : R M d mc ms Q pc (.int x :: r) S h z k n := r_iincG hi rfl hv (by rfl) K
theorem r_lstore_0 {M : MD} {d mc ms pc pc' z k n : Nat} {Q : Option Value → Hp → Nat → Prop} {S : List Value} {h : Hp} { b c : Value} {r : List Value} {x : Int64} (hi : StL M pc 0 pc') (K : R M d mc ms Q pc' (.long x :: .null :: r) S h z k n) : R M d mc ms Q pc (b :: c :: r) (.long x :: S) h z k n := r_lstoreG hi (by rfl) K
theorem r_istore_1 {M : MD} {d mc ms pc pc' z k n : Nat} {Q : Option Value → Hp → Nat → Prop} {S : List Value} {h : Hp} {a0 a1 : Value} {r : List Value} {x : Int32} (hi : StI M pc 1 pc') (hc : clr a0 = a0) (K : R M d mc ms Q pc' (a0 :: .int x :: r) S h z k n) : R M d mc ms Q pc (a0 :: a1 :: r) (.int x :: S) h z k n := r_istoreG hi (by simp only [stL1, hc]) K
theorem r_astore_1 {M : MD} {d mc ms pc pc' z k n : Nat} {Q : Option Value → Hp → Nat → Prop} {S : List Value} {h : Hp} {a0 a1 : Value} {r : List Value} {x : Nat} (hi : StA M pc 1 pc') (hc : clr a0 = a0) (K : R M d mc ms Q pc' (a0 :: .ref x :: r) S h z k n) : R M d mc ms Q pc (a0 :: a1 :: r) (.ref x :: S) h z k n := r_astoreG hi (by simp only [stL1, hc]) K
theorem r_iinc_1 {M : MD} {d mc ms pc pc' z k n : Nat} {Q : Option Value → Hp → Nat → Prop} {S : List Value} {h : Hp} {a0 : Value} {r : List Value} {w : Int} {x v : Int32} (hi : Inc M pc 1 w pc') (hv : x + Int32.ofInt w = v) (hc : clr a0 = a0) (K : R M d mc ms Q pc' (a0 :: .int v :: r) S h z k n) : R M d mc ms Q pc (a0 :: .int x :: r) S h z k n := r_iincG hi rfl hv (by simp only [stL1, hc]) K
theorem r_lstore_1 {M : MD} {d mc ms pc pc' z k n : Nat} {Q : Option Value → Hp → Nat → Prop} {S : List Value} {h : Hp} {a0 b c : Value} {r : List Value} {x : Int64} (hi : StL M pc 1 pc') (hc : clr a0 = a0) (K : R M d mc ms Q pc' (a0 :: .long x :: .null :: r) S h z k n) : R M d mc ms Q pc (a0 :: b :: c :: r) (.long x :: S) h z k n := r_lstoreG hi (by simp only [stL2, hc]) K
theorem r_istore_2 {M : MD} {d mc ms pc pc' z k n : Nat} {Q : Option Value → Hp → Nat → Prop} {S : List Value} {h : Hp} {a0 a1 a2 : Value} {r : List Value} {x : Int32} (hi : StI M pc 2 pc') (hc : clr a1 = a1) (K : R M d mc ms Q pc' (a0 :: a1 :: .int x :: r) S h z k n) : R M d mc ms Q pc (a0 :: a1 :: a2 :: r) (.int x :: S) h z k n := r_istoreG hi (by simp only [stL1, hc]) K
theorem r_astore_2 {M : MD} {d mc ms pc pc' z k n : Nat} {Q : Option Value → Hp → Nat → Prop} {S : List Value} {h : Hp} {a0 a1 a2 : Value} {r : List Value} {x : Nat} (hi : StA M pc 2 pc') (hc : clr a1 = a1) (K : R M d mc ms Q pc' (a0 :: a1 :: .ref x :: r) S h z k n) : R M d mc ms Q pc (a0 :: a1 :: a2 :: r) (.ref x :: S) h z k n := r_astoreG hi (by simp only [stL1, hc]) K
theorem r_iinc_2 {M : MD} {d mc ms pc pc' z k n : Nat} {Q : Option Value → Hp → Nat → Prop} {S : List Value} {h : Hp} {a0 a1 : Value} {r : List Value} {w : Int} {x v : Int32} (hi : Inc M pc 2 w pc') (hv : x + Int32.ofInt w = v) (hc : clr a1 = a1) (K : R M d mc ms Q pc' (a0 :: a1 :: .int v :: r) S h z k n) : R M d mc ms Q pc (a0 :: a1 :: .int x :: r) S h z k n := r_iincG hi rfl hv (by simp only [stL1, hc]) K
theorem r_lstore_2 {M : MD} {d mc ms pc pc' z k n : Nat} {Q : Option Value → Hp → Nat → Prop} {S : List Value} {h : Hp} {a0 a1 b c : Value} {r : List Value} {x : Int64} (hi : StL M pc 2 pc') (hc : clr a1 = a1) (K : R M d mc ms Q pc' (a0 :: a1 :: .long x :: .null :: r) S h z k n) : R M d mc ms Q pc (a0 :: a1 :: b :: c :: r) (.long x :: S) h z k n := r_lstoreG hi (by simp only [stL2, hc]) K
theorem r_istore_3 {M : MD} {d mc ms pc pc' z k n : Nat} {Q : Option Value → Hp → Nat → Prop} {S : List Value} {h : Hp} {a0 a1 a2 a3 : Value} {r : List Value} {x : Int32} (hi : StI M pc 3 pc') (hc : clr a2 = a2) (K : R M d mc ms Q pc' (a0 :: a1 :: a2 :: .int x :: r) S h z k n) : R M d mc ms Q pc (a0 :: a1 :: a2 :: a3 :: r) (.int x :: S) h z k n := r_istoreG hi (by simp only [stL1, hc]) K
theorem r_astore_3 {M : MD} {d mc ms pc pc' z k n : Nat} {Q : Option Value → Hp → Nat → Prop} {S : List Value} {h : Hp} {a0 a1 a2 a3 : Value} {r : List Value} {x : Nat} (hi : StA M pc 3 pc') (hc : clr a2 = a2) (K : R M d mc ms Q pc' (a0 :: a1 :: a2 :: .ref x :: r) S h z k n) : R M d mc ms Q pc (a0 :: a1 :: a2 :: a3 :: r) (.ref x :: S) h z k n := r_astoreG hi (by simp only [stL1, hc]) K
theorem r_iinc_3 {M : MD} {d mc ms pc pc' z k n : Nat} {Q : Option Value → Hp → Nat → Prop} {S : List Value} {h : Hp} {a0 a1 a2 : Value} {r : List Value} {w : Int} {x v : Int32} (hi : Inc M pc 3 w pc') (hv : x + Int32.ofInt w = v) (hc : clr a2 = a2) (K : R M d mc ms Q pc' (a0 :: a1 :: a2 :: .int v :: r) S h z k n) : R M d mc ms Q pc (a0 :: a1 :: a2 :: .int x :: r) S h z k n := r_iincG hi rfl hv (by simp only [stL1, hc]) K
theorem r_lstore_3 {M : MD} {d mc ms pc pc' z k n : Nat} {Q : Option Value → Hp → Nat → Prop} {S : List Value} {h : Hp} {a0 a1 a2 b c : Value} {r : List Value} {x : Int64} (hi : StL M pc 3 pc') (hc : clr a2 = a2) (K : R M d mc ms Q pc' (a0 :: a1 :: a2 :: .long x :: .null :: r) S h z k n) : R M d mc ms Q pc (a0 :: a1 :: a2 :: b :: c :: r) (.long x :: S) h z k n := r_lstoreG hi (by simp only [stL2, hc]) K
theorem r_istore_4 {M : MD} {d mc ms pc pc' z k n : Nat} {Q : Option Value → Hp → Nat → Prop} {S : List Value} {h : Hp} {a0 a1 a2 a3 a4 : Value} {r : List Value} {x : Int32} (hi : StI M pc 4 pc') (hc : clr a3 = a3) (K : R M d mc ms Q pc' (a0 :: a1 :: a2 :: a3 :: .int x :: r) S h z k n) : R M d mc ms Q pc (a0 :: a1 :: a2 :: a3 :: a4 :: r) (.int x :: S) h z k n := r_istoreG hi (by simp only [stL1, hc]) K
theorem r_astore_4 {M : MD} {d mc ms pc pc' z k n : Nat} {Q : Option Value → Hp → Nat → Prop} {S : List Value} {h : Hp} {a0 a1 a2 a3 a4 : Value} {r : List Value} {x : Nat} (hi : StA M pc 4 pc') (hc : clr a3 = a3) (K : R M d mc ms Q pc' (a0 :: a1 :: a2 :: a3 :: .ref x :: r) S h z k n) : R M d mc ms Q pc (a0 :: a1 :: a2 :: a3 :: a4 :: r) (.ref x :: S) h z k n := r_astoreG hi (by simp only [stL1, hc]) K
theorem r_iinc_4 {M : MD} {d mc ms pc pc' z k n : Nat} {Q : Option Value → Hp → Nat → Prop} {S : List Value} {h : Hp} {a0 a1 a2 a3 : Value} {r : List Value} {w : Int} {x v : Int32} (hi : Inc M pc 4 w pc') (hv : x + Int32.ofInt w = v) (hc : clr a3 = a3) (K : R M d mc ms Q pc' (a0 :: a1 :: a2 :: a3 :: .int v :: r) S h z k n) : R M d mc ms Q pc (a0 :: a1 :: a2 :: a3 :: .int x :: r) S h z k n := r_iincG hi rfl hv (by simp only [stL1, hc]) K
theorem r_lstore_4 {M : MD} {d mc ms pc pc' z k n : Nat} {Q : Option Value → Hp → Nat → Prop} {S : List Value} {h : Hp} {a0 a1 a2 a3 b c : Value} {r : List Value} {x : Int64} (hi : StL M pc 4 pc') (hc : clr a3 = a3) (K : R M d mc ms Q pc' (a0 :: a1 :: a2 :: a3 :: .long x :: .null :: r) S h z k n) : R M d mc ms Q pc (a0 :: a1 :: a2 :: a3 :: b :: c :: r) (.long x :: S) h z k n := r_lstoreG hi (by simp only [stL2, hc]) K
theorem r_istore_5 {M : MD} {d mc ms pc pc' z k n : Nat} {Q : Option Value → Hp → Nat → Prop} {S : List Value} {h : Hp} {a0 a1 a2 a3 a4 a5 : Value} {r : List Value} {x : Int32} (hi : StI M pc 5 pc') (hc : clr a4 = a4) (K : R M d mc ms Q pc' (a0 :: a1 :: a2 :: a3 :: a4 :: .int x :: r) S h z k n) : R M d mc ms Q pc (a0 :: a1 :: a2 :: a3 :: a4 :: a5 :: r) (.int x :: S) h z k n := r_istoreG hi (by simp only [stL1, hc]) K
theorem r_astore_5 {M : MD} {d mc ms pc pc' z k n : Nat} {Q : Option Value → Hp → Nat → Prop} {S : List Value} {h : Hp} {a0 a1 a2 a3 a4 a5 : Value} {r : List Value} {x : Nat} (hi : StA M pc 5 pc') (hc : clr a4 = a4) (K : R M d mc ms Q pc' (a0 :: a1 :: a2 :: a3 :: a4 :: .ref x :: r) S h z k n) : R M d mc ms Q pc (a0 :: a1 :: a2 :: a3 :: a4 :: a5 :: r) (.ref x :: S) h z k n := r_astoreG hi (by simp only [stL1, hc]) K
theorem r_iinc_5 {M : MD} {d mc ms pc pc' z k n : Nat} {Q : Option Value → Hp → Nat → Prop} {S : List Value} {h : Hp} {a0 a1 a2 a3 a4 : Value} {r : List Value} {w : Int} {x v : Int32} (hi : Inc M pc 5 w pc') (hv : x + Int32.ofInt w = v) (hc : clr a4 = a4) (K : R M d mc ms Q pc' (a0 :: a1 :: a2 :: a3 :: a4 :: .int v :: r) S h z k n) : R M d mc ms Q pc (a0 :: a1 :: a2 :: a3 :: a4 :: .int x :: r) S h z k n := r_iincG hi rfl hv (by simp only [stL1, hc]) K
theorem r_lstore_5 {M : MD} {d mc ms pc pc' z k n : Nat} {Q : Option Value → Hp → Nat → Prop} {S : List Value} {h : Hp} {a0 a1 a2 a3 a4 b c : Value} {r : List Value} {x : Int64} (hi : StL M pc 5 pc') (hc : clr a4 = a4) (K : R M d mc ms Q pc' (a0 :: a1 :: a2 :: a3 :: a4 :: .long x :: .null :: r) S h z k n) : R M d mc ms Q pc (a0 :: a1 :: a2 :: a3 :: a4 :: b :: c :: r) (.long x :: S) h z k n := r_lstoreG hi (by simp only [stL2, hc]) K
theorem r_istore_6 {M : MD} {d mc ms pc pc' z k n : Nat} {Q : Option Value → Hp → Nat → Prop} {S : List Value} {h : Hp} {a0 a1 a2 a3 a4 a5 a6 : Value} {r : List Value} {x : Int32} (hi : StI M pc 6 pc') (hc : clr a5 = a5) (K : R M d mc ms Q pc' (a0 :: a1 :: a2 :: a3 :: a4 :: a5 :: .int x :: r) S h z k n) : R M d mc ms Q pc (a0 :: a1 :: a2 :: a3 :: a4 :: a5 :: a6 :: r) (.int x :: S) h z k n := r_istoreG hi (by simp only [stL1, hc]) K
theorem r_astore_6 {M : MD} {d mc ms pc pc' z k n : Nat} {Q : Option Value → Hp → Nat → Prop} {S : List Value} {h : Hp} {a0 a1 a2 a3 a4 a5 a6 : Value} {r : List Value} {x : Nat} (hi : StA M pc 6 pc') (hc : clr a5 = a5) (K : R M d mc ms Q pc' (a0 :: a1 :: a2 :: a3 :: a4 :: a5 :: .ref x :: r) S h z k n) : R M d mc ms Q pc (a0 :: a1 :: a2 :: a3 :: a4 :: a5 :: a6 :: r) (.ref x :: S) h z k n := r_astoreG hi (by simp only [stL1, hc]) K
theorem r_iinc_6 {M : MD} {d mc ms pc pc' z k n : Nat} {Q : Option Value → Hp → Nat → Prop} {S : List Value} {h : Hp} {a0 a1 a2 a3 a4 a5 : Value} {r : List Value} {w : Int} {x v : Int32} (hi : Inc M pc 6 w pc') (hv : x + Int32.ofInt w = v) (hc : clr a5 = a5) (K : R M d mc ms Q pc' (a0 :: a1 :: a2 :: a3 :: a4 :: a5 :: .int v :: r) S h z k n) : R M d mc ms Q pc (a0 :: a1 :: a2 :: a3 :: a4 :: a5 :: .int x :: r) S h z k n := r_iincG hi rfl hv (by simp only [stL1, hc]) K
theorem r_lstore_6 {M : MD} {d mc ms pc pc' z k n : Nat} {Q : Option Value → Hp → Nat → Prop} {S : List Value} {h : Hp} {a0 a1 a2 a3 a4 a5 b c : Value} {r : List Value} {x : Int64} (hi : StL M pc 6 pc') (hc : clr a5 = a5) (K : R M d mc ms Q pc' (a0 :: a1 :: a2 :: a3 :: a4 :: a5 :: .long x :: .null :: r) S h z k n) : R M d mc ms Q pc (a0 :: a1 :: a2 :: a3 :: a4 :: a5 :: b :: c :: r) (.long x :: S) h z k n := r_lstoreG hi (by simp only [stL2, hc]) K
theorem r_istore_7 {M : MD} {d mc ms pc pc' z k n : Nat} {Q : Option Value → Hp → Nat → Prop} {S : List Value} {h : Hp} {a0 a1 a2 a3 a4 a5 a6 a7 : Value} {r : List Value} {x : Int32} (hi : StI M pc 7 pc') (hc : clr a6 = a6) (K : R M d mc ms Q pc' (a0 :: a1 :: a2 :: a3 :: a4 :: a5 :: a6 :: .int x :: r) S h z k n) : R M d mc ms Q pc (a0 :: a1 :: a2 :: a3 :: a4 :: a5 :: a6 :: a7 :: r) (.int x :: S) h z k n := r_istoreG hi (by simp only [stL1, hc]) K
theorem r_astore_7 {M : MD} {d mc ms pc pc' z k n : Nat} {Q : Option Value → Hp → Nat → Prop} {S : List Value} {h : Hp} {a0 a1 a2 a3 a4 a5 a6 a7 : Value} {r : List Value} {x : Nat} (hi : StA M pc 7 pc') (hc : clr a6 = a6) (K : R M d mc ms Q pc' (a0 :: a1 :: a2 :: a3 :: a4 :: a5 :: a6 :: .ref x :: r) S h z k n) : R M d mc ms Q pc (a0 :: a1 :: a2 :: a3 :: a4 :: a5 :: a6 :: a7 :: r) (.ref x :: S) h z k n := r_astoreG hi (by simp only [stL1, hc]) K
theorem r_iinc_7 {M : MD} {d mc ms pc pc' z k n : Nat} {Q : Option Value → Hp → Nat → Prop} {S : List Value} {h : Hp} {a0 a1 a2 a3 a4 a5 a6 : Value} {r : List Value} {w : Int} {x v : Int32} (hi : Inc M pc 7 w pc') (hv : x + Int32.ofInt w = v) (hc : clr a6 = a6) (K : R M d mc ms Q pc' (a0 :: a1 :: a2 :: a3 :: a4 :: a5 :: a6 :: .int v :: r) S h z k n) : R M d mc ms Q pc (a0 :: a1 :: a2 :: a3 :: a4 :: a5 :: a6 :: .int x :: r) S h z k n := r_iincG hi rfl hv (by simp only [stL1, hc]) K
theorem r_lstore_7 {M : MD} {d mc ms pc pc' z k n : Nat} {Q : Option Value → Hp → Nat → Prop} {S : List Value} {h : Hp} {a0 a1 a2 a3 a4 a5 a6 b c : Value} {r : List Value} {x : Int64} (hi : StL M pc 7 pc') (hc : clr a6 = a6) (K : R M d mc ms Q pc' (a0 :: a1 :: a2 :: a3 :: a4 :: a5 :: a6 :: .long x :: .null :: r) S h z k n) : R M d mc ms Q pc (a0 :: a1 :: a2 :: a3 :: a4 :: a5 :: a6 :: b :: c :: r) (.long x :: S) h z k n := r_lstoreG hi (by simp only [stL2, hc]) K
theorem r_istore_8 {M : MD} {d mc ms pc pc' z k n : Nat} {Q : Option Value → Hp → Nat → Prop} {S : List Value} {h : Hp} {a0 a1 a2 a3 a4 a5 a6 a7 a8 : Value} {r : List Value} {x : Int32} (hi : StI M pc 8 pc') (hc : clr a7 = a7) (K : R M d mc ms Q pc' (a0 :: a1 :: a2 :: a3 :: a4 :: a5 :: a6 :: a7 :: .int x :: r) S h z k n) : R M d mc ms Q pc (a0 :: a1 :: a2 :: a3 :: a4 :: a5 :: a6 :: a7 :: a8 :: r) (.int x :: S) h z k n := r_istoreG hi (by simp only [stL1, hc]) K
theorem r_astore_8 {M : MD} {d mc ms pc pc' z k n : Nat} {Q : Option Value → Hp → Nat → Prop} {S : List Value} {h : Hp} {a0 a1 a2 a3 a4 a5 a6 a7 a8 : Value} {r : List Value} {x : Nat} (hi : StA M pc 8 pc') (hc : clr a7 = a7) (K : R M d mc ms Q pc' (a0 :: a1 :: a2 :: a3 :: a4 :: a5 :: a6 :: a7 :: .ref x :: r) S h z k n) : R M d mc ms Q pc (a0 :: a1 :: a2 :: a3 :: a4 :: a5 :: a6 :: a7 :: a8 :: r) (.ref x :: S) h z k n := r_astoreG hi (by simp only [stL1, hc]) K
theorem r_iinc_8 {M : MD} {d mc ms pc pc' z k n : Nat} {Q : Option Value → Hp → Nat → Prop} {S : List Value} {h : Hp} {a0 a1 a2 a3 a4 a5 a6 a7 : Value} {r : List Value} {w : Int} {x v : Int32} (hi : Inc M pc 8 w pc') (hv : x + Int32.ofInt w = v) (hc : clr a7 = a7) (K : R M d mc ms Q pc' (a0 :: a1 :: a2 :: a3 :: a4 :: a5 :: a6 :: a7 :: .int v :: r) S h z k n) : R M d mc ms Q pc (a0 :: a1 :: a2 :: a3 :: a4 :: a5 :: a6 :: a7 :: .int x :: r) S h z k n := r_iincG hi rfl hv (by simp only [stL1, hc]) K
theorem r_lstore_8 {M : MD} {d mc ms pc pc' z k n : Nat} {Q : Option Value → Hp → Nat → Prop} {S : List Value} {h : Hp} {a0 a1 a2 a3 a4 a5 a6 a7 b c : Value} {r : List Value} {x : Int64} (hi : StL M pc 8 pc') (hc : clr a7 = a7) (K : R M d mc ms Q pc' (a0 :: a1 :: a2 :: a3 :: a4 :: a5 :: a6 :: a7 :: .long x :: .null :: r) S h z k n) : R M d mc ms Q pc (a0 :: a1 :: a2 :: a3 :: a4 :: a5 :: a6 :: a7 :: b :: c :: r) (.long x :: S) h z k n := r_lstoreG hi (by simp only [stL2, hc]) K
theorem r_istore_9 {M : MD} {d mc ms pc pc' z k n : Nat} {Q : Option Value → Hp → Nat → Prop} {S : List Value} {h : Hp} {a0 a1 a2 a3 a4 a5 a6 a7 a8 a9 : Value} {r : List Value} {x : Int32} (hi : StI M pc 9 pc') (hc : clr a8 = a8) (K : R M d mc ms Q pc' (a0 :: a1 :: a2 :: a3 :: a4 :: a5 :: a6 :: a7 :: a8 :: .int x :: r) S h z k n) : R M d mc ms Q pc (a0 :: a1 :: a2 :: a3 :: a4 :: a5 :: a6 :: a7 :: a8 :: a9 :: r) (.int x :: S) h z k n := r_istoreG hi (by simp only [stL1, hc]) K
theorem r_astore_9 {M : MD} {d mc ms pc pc' z k n : Nat} {Q : Option Value → Hp → Nat → Prop} {S : List Value} {h : Hp} {a0 a1 a2 a3 a4 a5 a6 a7 a8 a9 : Value} {r : List Value} {x : Nat} (hi : StA M pc 9 pc') (hc : clr a8 = a8) (K : R M d mc ms Q pc' (a0 :: a1 :: a2 :: a3 :: a4 :: a5 :: a6 :: a7 :: a8 :: .ref x :: r) S h z k n) : R M d mc ms Q pc (a0 :: a1 :: a2 :: a3 :: a4 :: a5 :: a6 :: a7 :: a8 :: a9 :: r) (.ref x :: S) h z k n := r_astoreG hi (by simp only [stL1, hc]) K
theorem r_iinc_9 {M : MD} {d mc ms pc pc' z k n : Nat} {Q : Option Value → Hp → Nat → Prop} {S : List Value} {h : Hp} {a0 a1 a2 a3 a4 a5 a6 a7 a8 : Value} {r : List Value} {w : Int} {x v : Int32} (hi : Inc M pc 9 w pc') (hv : x + Int32.ofInt w = v) (hc : clr a8 = a8) (K : R M d mc ms Q pc' (a0 :: a1 :: a2 :: a3 :: a4 :: a5 :: a6 :: a7 :: a8 :: .int v :: r) S h z k n) : R M d mc ms Q pc (a0 :: a1 :: a2 :: a3 :: a4 :: a5 :: a6 :: a7 :: a8 :: .int x :: r) S h z k n := r_iincG hi rfl hv (by simp only [stL1, hc]) K
theorem r_lstore_9 {M : MD} {d mc ms pc pc' z k n : Nat} {Q : Option Value → Hp → Nat → Prop} {S : List Value} {h : Hp} {a0 a1 a2 a3 a4 a5 a6 a7 a8 b c : Value} {r : List Value} {x : Int64} (hi : StL M pc 9 pc') (hc : clr a8 = a8) (K : R M d mc ms Q pc' (a0 :: a1 :: a2 :: a3 :: a4 :: a5 :: a6 :: a7 :: a8 :: .long x :: .null :: r) S h z k n) : R M d mc ms Q pc (a0 :: a1 :: a2 :: a3 :: a4 :: a5 :: a6 :: a7 :: a8 :: b :: c :: r) (.long x :: S) h z k n := r_lstoreG hi (by simp only [stL2, hc]) K
theorem r_istore_10 {M : MD} {d mc ms pc pc' z k n : Nat} {Q : Option Value → Hp → Nat → Prop} {S : List Value} {h : Hp} {a0 a1 a2 a3 a4 a5 a6 a7 a8 a9 a10 : Value} {r : List Value} {x : Int32} (hi : StI M pc 10 pc') (hc : clr a9 = a9) (K : R M d mc ms Q pc' (a0 :: a1 :: a2 :: a3 :: a4 :: a5 :: a6 :: a7 :: a8 :: a9 :: .int x :: r) S h z k n) : R M d mc ms Q pc (a0 :: a1 :: a2 :: a3 :: a4 :: a5 :: a6 :: a7 :: a8 :: a9 :: a10 :: r) (.int x :: S) h z k n := r_istoreG hi (by simp only [stL1, hc]) K
theorem r_astore_10 {M : MD} {d mc ms pc pc' z k n : Nat} {Q : Option Value → Hp → Nat → Prop} {S : List Value} {h : Hp} {a0 a1 a2 a3 a4 a5 a6 a7 a8 a9 a10 : Value} {r : List Value} {x : Nat} (hi : StA M pc 10 pc') (hc : clr a9 = a9) (K : R M d mc ms Q pc' (a0 :: a1 :: a2 :: a3 :: a4 :: a5 :: a6 :: a7 :: a8 :: a9 :: .ref x :: r) S h z k n) : R M d mc ms Q pc (a0 :: a1 :: a2 :: a3 :: a4 :: a5 :: a6 :: a7 :: a8 :: a9 :: a10 :: r) (.ref x :: S) h z k n := r_astoreG hi (by simp only [stL1, hc]) K
theorem r_iinc_10 {M : MD} {d mc ms pc pc' z k n : Nat} {Q : Option Value → Hp → Nat → Prop} {S : List Value} {h : Hp} {a0 a1 a2 a3 a4 a5 a6 a7 a8 a9 : Value} {r : List Value} {w : Int} {x v : Int32} (hi : Inc M pc 10 w pc') (hv : x + Int32.ofInt w = v) (hc : clr a9 = a9) (K : R M d mc ms Q pc' (a0 :: a1 :: a2 :: a3 :: a4 :: a5 :: a6 :: a7 :: a8 :: a9 :: .int v :: r) S h z k n) : R M d mc ms Q pc (a0 :: a1 :: a2 :: a3 :: a4 :: a5 :: a6 :: a7 :: a8 :: a9 :: .int x :: r) S h z k n := r_iincG hi rfl hv (by simp only [stL1, hc]) K
theorem r_lstore_10 {M : MD} {d mc ms pc pc' z k n : Nat} {Q : Option Value → Hp → Nat → Prop} {S : List Value} {h : Hp} {a0 a1 a2 a3 a4 a5 a6 a7 a8 a9 b c : Value} {r : List Value} {x : Int64} (hi : StL M pc 10 pc') (hc : clr a9 = a9) (K : R M d mc ms Q pc' (a0 :: a1 :: a2 :: a3 :: a4 :: a5 :: a6 :: a7 :: a8 :: a9 :: .long x :: .null :: r) S h z k n) : R M d mc ms Q pc (a0 :: a1 :: a2 :: a3 :: a4 :: a5 :: a6 :: a7 :: a8 :: a9 :: b :: c :: r) (.long x :: S) h z k n := r_lstoreG hi (by simp only [stL2, hc]) K
theorem r_istore_11 {M : MD} {d mc ms pc pc' z k n : Nat} {Q : Option Value → Hp → Nat → Prop} {S : List Value} {h : Hp} {a0 a1 a2 a3 a4 a5 a6 a7 a8 a9 a10 a11 : Value} {r : List Value} {x : Int32} (hi : StI M pc 11 pc') (hc : clr a10 = a10) (K : R M d mc ms Q pc' (a0 :: a1 :: a2 :: a3 :: a4 :: a5 :: a6 :: a7 :: a8 :: a9 :: a10 :: .int x :: r) S h z k n) : R M d mc ms Q pc (a0 :: a1 :: a2 :: a3 :: a4 :: a5 :: a6 :: a7 :: a8 :: a9 :: a10 :: a11 :: r) (.int x :: S) h z k n := r_istoreG hi (by simp only [stL1, hc]) K
theorem r_astore_11 {M : MD} {d mc ms pc pc' z k n : Nat} {Q : Option Value → Hp → Nat → Prop} {S : List Value} {h : Hp} {a0 a1 a2 a3 a4 a5 a6 a7 a8 a9 a10 a11 : Value} {r : List Value} {x : Nat} (hi : StA M pc 11 pc') (hc : clr a10 = a10) (K : R M d mc ms Q pc' (a0 :: a1 :: a2 :: a3 :: a4 :: a5 :: a6 :: a7 :: a8 :: a9 :: a10 :: .ref x :: r) S h z k n) : R M d mc ms Q pc (a0 :: a1 :: a2 :: a3 :: a4 :: a5 :: a6 :: a7 :: a8 :: a9 :: a10 :: a11 :: r) (.ref x :: S) h z k n := r_astoreG hi (by simp only [stL1, hc]) K
theorem r_iinc_11 {M : MD} {d mc ms pc pc' z k n : Nat} {Q : Option Value → Hp → Nat → Prop} {S : List Value} {h : Hp} {a0 a1 a2 a3 a4 a5 a6 a7 a8 a9 a10 : Value} {r : List Value} {w : Int} {x v : Int32} (hi : Inc M pc 11 w pc') (hv : x + Int32.ofInt w = v) (hc : clr a10 = a10) (K : R M d mc ms Q pc' (a0 :: a1 :: a2 :: a3 :: a4 :: a5 :: a6 :: a7 :: a8 :: a9 :: a10 :: .int v :: r) S h z k n) : R M d mc ms Q pc (a0 :: a1 :: a2 :: a3 :: a4 :: a5 :: a6 :: a7 :: a8 :: a9 :: a10 :: .int x :: r) S h z k n := r_iincG hi rfl hv (by simp only [stL1, hc]) K
theorem r_lstore_11 {M : MD} {d mc ms pc pc' z k n : Nat} {Q : Option Value → Hp → Nat → Prop} {S : List Value} {h : Hp} {a0 a1 a2 a3 a4 a5 a6 a7 a8 a9 a10 b c : Value} {r : List Value} {x : Int64} (hi : StL M pc 11 pc') (hc : clr a10 = a10) (K : R M d mc ms Q pc' (a0 :: a1 :: a2 :: a3 :: a4 :: a5 :: a6 :: a7 :: a8 :: a9 :: a10 :: .long x :: .null :: r) S h z k n) : R M d mc ms Q pc (a0 :: a1 :: a2 :: a3 :: a4 :: a5 :: a6 :: a7 :: a8 :: a9 :: a10 :: b :: c :: r) (.long x :: S) h z k n := r_lstoreG hi (by simp only [stL2, hc]) K
theorem r_istore_12 {M : MD} {d mc ms pc pc' z k n : Nat} {Q : Option Value → Hp → Nat → Prop} {S : List Value} {h : Hp} {a0 a1 a2 a3 a4 a5 a6 a7 a8 a9 a10 a11 a12 : Value} {r : List Value} {x : Int32} (hi : StI M pc 12 pc') (hc : clr a11 = a11) (K : R M d mc ms Q pc' (a0 :: a1 :: a2 :: a3 :: a4 :: a5 :: a6 :: a7 :: a8 :: a9 :: a10 :: a11 :: .int x :: r) S h z k n) : R M d mc ms Q pc (a0 :: a1 :: a2 :: a3 :: a4 :: a5 :: a6 :: a7 :: a8 :: a9 :: a10 :: a11 :: a12 :: r) (.int x :: S) h z k n := r_istoreG hi (by simp only [stL1, hc]) K
theorem r_astore_12 {M : MD} {d mc ms pc pc' z k n : Nat} {Q : Option Value → Hp → Nat → Prop} {S : List Value} {h : Hp} {a0 a1 a2 a3 a4 a5 a6 a7 a8 a9 a10 a11 a12 : Value} {r : List Value} {x : Nat} (hi : StA M pc 12 pc') (hc : clr a11 = a11) (K : R M d mc ms Q pc' (a0 :: a1 :: a2 :: a3 :: a4 :: a5 :: a6 :: a7 :: a8 :: a9 :: a10 :: a11 :: .ref x :: r) S h z k n) : R M d mc ms Q pc (a0 :: a1 :: a2 :: a3 :: a4 :: a5 :: a6 :: a7 :: a8 :: a9 :: a10 :: a11 :: a12 :: r) (.ref x :: S) h z k n := r_astoreG hi (by simp only [stL1, hc]) K
theorem r_iinc_12 {M : MD} {d mc ms pc pc' z k n : Nat} {Q : Option Value → Hp → Nat → Prop} {S : List Value} {h : Hp} {a0 a1 a2 a3 a4 a5 a6 a7 a8 a9 a10 a11 : Value} {r : List Value} {w : Int} {x v : Int32} (hi : Inc M pc 12 w pc') (hv : x + Int32.ofInt w = v) (hc : clr a11 = a11) (K : R M d mc ms Q pc' (a0 :: a1 :: a2 :: a3 :: a4 :: a5 :: a6 :: a7 :: a8 :: a9 :: a10 :: a11 :: .int v :: r) S h z k n) : R M d mc ms Q pc (a0 :: a1 :: a2 :: a3 :: a4 :: a5 :: a6 :: a7 :: a8 :: a9 :: a10 :: a11 :: .int x :: r) S h z k n := r_iincG hi rfl hv (by simp only [stL1, hc]) K
theorem r_lstore_12 {M : MD} {d mc ms pc pc' z k n : Nat} {Q : Option Value → Hp → Nat → Prop} {S : List Value} {h : Hp} {a0 a1 a2 a3 a4 a5 a6 a7 a8 a9 a10 a11 b c : Value} {r : List Value} {x : Int64} (hi : StL M pc 12 pc') (hc : clr a11 = a11) (K : R M d mc ms Q pc' (a0 :: a1 :: a2 :: a3 :: a4 :: a5 :: a6 :: a7 :: a8 :: a9 :: a10 :: a11 :: .long x :: .null :: r) S h z k n) : R M d mc ms Q pc (a0 :: a1 :: a2 :: a3 :: a4 :: a5 :: a6 :: a7 :: a8 :: a9 :: a10 :: a11 :: b :: c :: r) (.long x :: S) h z k n := r_lstoreG hi (by simp only [stL2, hc]) K
theorem r_istore_13 {M : MD} {d mc ms pc pc' z k n : Nat} {Q : Option Value → Hp → Nat → Prop} {S : List Value} {h : Hp} {a0 a1 a2 a3 a4 a5 a6 a7 a8 a9 a10 a11 a12 a13 : Value} {r : List Value} {x : Int32} (hi : StI M pc 13 pc') (hc : clr a12 = a12) (K : R M d mc ms Q pc' (a0 :: a1 :: a2 :: a3 :: a4 :: a5 :: a6 :: a7 :: a8 :: a9 :: a10 :: a11 :: a12 :: .int x :: r) S h z k n) : R M d mc ms Q pc (a0 :: a1 :: a2 :: a3 :: a4 :: a5 :: a6 :: a7 :: a8 :: a9 :: a10 :: a11 :: a12 :: a13 :: r) (.int x :: S) h z k n := r_istoreG hi (by simp only [stL1, hc]) K
theorem r_astore_13 {M : MD} {d mc ms pc pc' z k n : Nat} {Q : Option Value → Hp → Nat → Prop} {S : List Value} {h : Hp} {a0 a1 a2 a3 a4 a5 a6 a7 a8 a9 a10 a11 a12 a13 : Value} {r : List Value} {x : Nat} (hi : StA M pc 13 pc') (hc : clr a12 = a12) (K : R M d mc ms Q pc' (a0 :: a1 :: a2 :: a3 :: a4 :: a5 :: a6 :: a7 :: a8 :: a9 :: a10 :: a11 :: a12 :: .ref x :: r) S h z k n) : R M d mc ms Q pc (a0 :: a1 :: a2 :: a3 :: a4 :: a5 :: a6 :: a7 :: a8 :: a9 :: a10 :: a11 :: a12 :: a13 :: r) (.ref x :: S) h z k n := r_astoreG hi (by simp only [stL1, hc]) K
theorem r_iinc_13 {M : MD} {d mc ms pc pc' z k n : Nat} {Q : Option Value → Hp → Nat → Prop} {S : List Value} {h : Hp} {a0 a1 a2 a3 a4 a5 a6 a7 a8 a9 a10 a11 a12 : Value} {r : List Value} {w : Int} {x v : Int32} (hi : Inc M pc 13 w pc') (hv : x + Int32.ofInt w = v) (hc : clr a12 = a12) (K : R M d mc ms Q pc' (a0 :: a1 :: a2 :: a3 :: a4 :: a5 :: a6 :: a7 :: a8 :: a9 :: a10 :: a11 :: a12 :: .int v :: r) S h z k n) : R M d mc ms Q pc (a0 :: a1 :: a2 :: a3 :: a4 :: a5 :: a6 :: a7 :: a8 :: a9 :: a10 :: a11 :: a12 :: .int x :: r) S h z k n := r_iincG hi rfl hv (by simp only [stL1, hc]) K
theorem r_lstore_13 {M : MD} {d mc ms pc pc' z k n : Nat} {Q : Option Value → Hp → Nat → Prop} {S : List Value} {h : Hp} {a0 a1 a2 a3 a4 a5 a6 a7 a8 a9 a10 a11 a12 b c : Value} {r : List Value} {x : Int64} (hi : StL M pc 13 pc') (hc : clr a12 = a12) (K : R M d mc ms Q pc' (a0 :: a1 :: a2 :: a3 :: a4 :: a5 :: a6 :: a7 :: a8 :: a9 :: a10 :: a11 :: a12 :: .long x :: .null :: r) S h z k n) : R M d mc ms Q pc (a0 :: a1 :: a2 :: a3 :: a4 :: a5 :: a6 :: a7 :: a8 :: a9 :: a10 :: a11 :: a12 :: b :: c :: r) (.long x :: S) h z k n := r_lstoreG hi (by simp only [stL2, hc]) K
theorem r_istore_14 {M : MD} {d mc ms pc pc' z k n : Nat} {Q : Option Value → Hp → Nat → Prop} {S : List Value} {h : Hp} {a0 a1 a2 a3 a4 a5 a6 a7 a8 a9 a10 a11 a12 a13 a14 : Value} {r : List Value} {x : Int32} (hi : StI M pc 14 pc') (hc : clr a13 = a13) (K : R M d mc ms Q pc' (a0 :: a1 :: a2 :: a3 :: a4 :: a5 :: a6 :: a7 :: a8 :: a9 :: a10 :: a11 :: a12 :: a13 :: .int x :: r) S h z k n) : R M d mc ms Q pc (a0 :: a1 :: a2 :: a3 :: a4 :: a5 :: a6 :: a7 :: a8 :: a9 :: a10 :: a11 :: a12 :: a13 :: a14 :: r) (.int x :: S) h z k n := r_istoreG hi (by simp only [stL1, hc]) K
theorem r_astore_14 {M : MD} {d mc ms pc pc' z k n : Nat} {Q : Option Value → Hp → Nat → Prop} {S : List Value} {h : Hp} {a0 a1 a2 a3 a4 a5 a6 a7 a8 a9 a10 a11 a12 a13 a14 : Value} {r : List Value} {x : Nat} (hi : StA M pc 14 pc') (hc : clr a13 = a13) (K : R M d mc ms Q pc' (a0 :: a1 :: a2 :: a3 :: a4 :: a5 :: a6 :: a7 :: a8 :: a9 :: a10 :: a11 :: a12 :: a13 :: .ref x :: r) S h z k n) : R M d mc ms Q pc (a0 :: a1 :: a2 :: a3 :: a4 :: a5 :: a6 :: a7 :: a8 :: a9 :: a10 :: a11 :: a12 :: a13 :: a14 :: r) (.ref x :: S) h z k n := r_astoreG hi (by simp only [stL1, hc]) K
theorem r_iinc_14 {M : MD} {d mc ms pc pc' z k n : Nat} {Q : Option Value → Hp → Nat → Prop} {S : List Value} {h : Hp} {a0 a1 a2 a3 a4 a5 a6 a7 a8 a9 a10 a11 a12 a13 : Value} {r : List Value} {w : Int} {x v : Int32} (hi : Inc M pc 14 w pc') (hv : x + Int32.ofInt w = v) (hc : clr a13 = a13) (K : R M d mc ms Q pc' (a0 :: a1 :: a2 :: a3 :: a4 :: a5 :: a6 :: a7 :: a8 :: a9 :: a10 :: a11 :: a12 :: a13 :: .int v :: r) S h z k n) : R M d mc ms Q pc (a0 :: a1 :: a2 :: a3 :: a4 :: a5 :: a6 :: a7 :: a8 :: a9 :: a10 :: a11 :: a12 :: a13 :: .int x :: r) S h z k n := r_iincG hi rfl hv (by simp only [stL1, hc]) K
theorem r_lstore_14 {M : MD} {d mc ms pc pc' z k n : Nat} {Q : Option Value → Hp → Nat → Prop} {S : List Value} {h : Hp} {a0 a1 a2 a3 a4 a5 a6 a7 a8 a9 a10 a11 a12 a13 b c : Value} {r : List Value} {x : Int64} (hi : StL M pc 14 pc') (hc : clr a13 = a13) (K : R M d mc ms Q pc' (a0 :: a1 :: a2 :: a3 :: a4 :: a5 :: a6 :: a7 :: a8 :: a9 :: a10 :: a11 :: a12 :: a13 :: .long x :: .null :: r) S h z k n) : R M d mc ms Q pc (a0 :: a1 :: a2 :: a3 :: a4 :: a5 :: a6 :: a7 :: a8 :: a9 :: a10 :: a11 :: a12 :: a13 :: b :: c :: r) (.long x :: S) h z k n := r_lstoreG hi (by simp only [stL2, hc]) K
theorem r_istore_15 {M : MD} {d mc ms pc pc' z k n : Nat} {Q : Option Value → Hp → Nat → Prop} {S : List Value} {h : Hp} {a0 a1 a2 a3 a4 a5 a6 a7 a8 a9 a10 a11 a12 a13 a14 a15 : Value} {r : List Value} {x : Int32} (hi : StI M pc 15 pc') (hc : clr a14 = a14) (K : R M d mc ms Q pc' (a0 :: a1 :: a2 :: a3 :: a4 :: a5 :: a6 :: a7 :: a8 :: a9 :: a10 :: a11 :: a12 :: a13 :: a14 :: .int x :: r) S h z k n) : R M d mc ms Q pc (a0 :: a1 :: a2 :: a3 :: a4 :: a5 :: a6 :: a7 :: a8 :: a9 :: a10 :: a11 :: a12 :: a13 :: a14 :: a15 :: r) (.int x :: S) h z k n := r_istoreG hi (by simp only [stL1, hc]) K
theorem r_astore_15 {M : MD} {d mc ms pc pc' z k n : Nat} {Q : Option Value → Hp → Nat → Prop} {S : List Value} {h : Hp} {a0 a1 a2 a3 a4 a5 a6 a7 a8 a9 a10 a11 a12 a13 a14 a15 : Value} {r : List Value} {x : Nat} (hi : StA M pc 15 pc') (hc : clr a14 = a14) (K : R M d mc ms Q pc' (a0 :: a1 :: a2 :: a3 :: a4 :: a5 :: a6 :: a7 :: a8 :: a9 :: a10 :: a11 :: a12 :: a13 :: a14 :: .ref x :: r) S h z k n) : R M d mc ms Q pc (a0 :: a1 :: a2 :: a3 :: a4 :: a5 :: a6 :: a7 :: a8 :: a9 :: a10 :: a11 :: a12 :: a13 :: a14 :: a15 :: r) (.ref x :: S) h z k n := r_astoreG hi (by simp only [stL1, hc]) K
theorem r_iinc_15 {M : MD} {d mc ms pc pc' z k n : Nat} {Q : Option Value → Hp → Nat → Prop} {S : List Value} {h : Hp} {a0 a1 a2 a3 a4 a5 a6 a7 a8 a9 a10 a11 a12 a13 a14 : Value} {r : List Value} {w : Int} {x v : Int32} (hi : Inc M pc 15 w pc') (hv : x + Int32.ofInt w = v) (hc : clr a14 = a14) (K : R M d mc ms Q pc' (a0 :: a1 :: a2 :: a3 :: a4 :: a5 :: a6 :: a7 :: a8 :: a9 :: a10 :: a11 :: a12 :: a13 :: a14 :: .int v :: r) S h z k n) : R M d mc ms Q pc (a0 :: a1 :: a2 :: a3 :: a4 :: a5 :: a6 :: a7 :: a8 :: a9 :: a10 :: a11 :: a12 :: a13 :: a14 :: .int x :: r) S h z k n := r_iincG hi rfl hv (by simp only [stL1, hc]) K
theorem r_lstore_15 {M : MD} {d mc ms pc pc' z k n : Nat} {Q : Option Value → Hp → Nat → Prop} {S : List Value} {h : Hp} {a0 a1 a2 a3 a4 a5 a6 a7 a8 a9 a10 a11 a12 a13 a14 b c : Value} {r : List Value} {x : Int64} (hi : StL M pc 15 pc') (hc : clr a14 = a14) (K : R M d mc ms Q pc' (a0 :: a1 :: a2 :: a3 :: a4 :: a5 :: a6 :: a7 :: a8 :: a9 :: a10 :: a11 :: a12 :: a13 :: a14 :: .long x :: .null :: r) S h z k n) : R M d mc ms Q pc (a0 :: a1 :: a2 :: a3 :: a4 :: a5 :: a6 :: a7 :: a8 :: a9 :: a10 :: a11 :: a12 :: a13 :: a14 :: b :: c :: r) (.long x :: S) h z k n := r_lstoreG hi (by simp only [stL2, hc]) K
theorem r_istore_16 {M : MD} {d mc ms pc pc' z k n : Nat} {Q : Option Value → Hp → Nat → Prop} {S : List Value} {h : Hp} {a0 a1 a2 a3 a4 a5 a6 a7 a8 a9 a10 a11 a12 a13 a14 a15 a16 : Value} {r : List Value} {x : Int32} (hi : StI M pc 16 pc') (hc : clr a15 = a15) (K : R M d mc ms Q pc' (a0 :: a1 :: a2 :: a3 :: a4 :: a5 :: a6 :: a7 :: a8 :: a9 :: a10 :: a11 :: a12 :: a13 :: a14 :: a15 :: .int x :: r) S h z k n) : R M d mc ms Q pc (a0 :: a1 :: a2 :: a3 :: a4 :: a5 :: a6 :: a7 :: a8 :: a9 :: a10 :: a11 :: a12 :: a13 :: a14 :: a15 :: a16 :: r) (.int x :: S) h z k n := r_istoreG hi (by simp only [stL1, hc]) K
theorem r_astore_16 {M : MD} {d mc ms pc pc' z k n : Nat} {Q : Option Value → Hp → Nat → Prop} {S : List Value} {h : Hp} {a0 a1 a2 a3 a4 a5 a6 a7 a8 a9 a10 a11 a12 a13 a14 a15 a16 : Value} {r : List Value} {x : Nat} (hi : StA M pc 16 pc') (hc : clr a15 = a15) (K : R M d mc ms Q pc' (a0 :: a1 :: a2 :: a3 :: a4 :: a5 :: a6 :: a7 :: a8 :: a9 :: a10 :: a11 :: a12 :: a13 :: a14 :: a15 :: .ref x :: r) S h z k n) : R M d mc ms Q pc (a0 :: a1 :: a2 :: a3 :: a4 :: a5 :: a6 :: a7 :: a8 :: a9 :: a10 :: a11 :: a12 :: a13 :: a14 :: a15 :: a16 :: r) (.ref x :: S) h z k n := r_astoreG hi (by simp only [stL1, hc]) K
theorem r_iinc_16 {M : MD} {d mc ms pc pc' z k n : Nat} {Q : Option Value → Hp → Nat → Prop} {S : List Value} {h : Hp} {a0 a1 a2 a3 a4 a5 a6 a7 a8 a9 a10 a11 a12 a13 a14 a15 : Value} {r : List Value} {w : Int} {x v : Int32} (hi : Inc M pc 16 w pc') (hv : x + Int32.ofInt w = v) (hc : clr a15 = a15) (K : R M d mc ms Q pc' (a0 :: a1 :: a2 :: a3 :: a4 :: a5 :: a6 :: a7 :: a8 :: a9 :: a10 :: a11 :: a12 :: a13 :: a14 :: a15 :: .int v :: r) S h z k n) : R M d mc ms Q pc (a0 :: a1 :: a2 :: a3 :: a4 :: a5 :: a6 :: a7 :: a8 :: a9 :: a10 :: a11 :: a12 :: a13 :: a14 :: a15 :: .int x :: r) S h z k n := r_iincG hi rfl hv (by simp only [stL1, hc]) K
theorem r_lstore_16 {M : MD} {d mc ms pc pc' z k n : Nat} {Q : Option Value → Hp → Nat → Prop} {S : List Value} {h : Hp} {a0 a1 a2 a3 a4 a5 a6 a7 a8 a9 a10 a11 a12 a13 a14 a15 b c : Value} {r : List Value} {x : Int64} (hi : StL M pc 16 pc') (hc : clr a15 = a15) (K : R M d mc ms Q pc' (a0 :: a1 :: a2 :: a3 :: a4 :: a5 :: a6 :: a7 :: a8 :: a9 :: a10 :: a11 :: a12 :: a13 :: a14 :: a15 :: .long x :: .null :: r) S h z k n) : R M d mc ms Q pc (a0 :: a1 :: a2 :: a3 :: a4 :: a5 :: a6 :: a7 :: a8 :: a9 :: a10 :: a11 :: a12 :: a13 :: a14 :: a15 :: b :: c :: r) (.long x :: S) h z k n := r_lstoreG hi (by simp only [stL2, hc]) K
theorem r_istore_17 {M : MD} {d mc ms pc pc' z k n : Nat} {Q : Option Value → Hp → Nat → Prop} {S : List Value} {h : Hp} {a0 a1 a2 a3 a4 a5 a6 a7 a8 a9 a10 a11 a12 a13 a14 a15 a16 a17 : Value} {r : List Value} {x : Int32} (hi : StI M pc 17 pc') (hc : clr a16 = a16) (K : R M d mc ms Q pc' (a0 :: a1 :: a2 :: a3 :: a4 :: a5 :: a6 :: a7 :: a8 :: a9 :: a10 :: a11 :: a12 :: a13 :: a14 :: a15 :: a16 :: .int x :: r) S h z k n) : R M d mc ms Q pc (a0 :: a1 :: a2 :: a3 :: a4 :: a5 :: a6 :: a7 :: a8 :: a9 :: a10 :: a11 :: a12 :: a13 :: a14 :: a15 :: a16 :: a17 :: r) (.int x :: S) h z k n := r_istoreG hi (by simp only [stL1, hc]) K
theorem r_astore_17 {M : MD} {d mc ms pc pc' z k n : Nat} {Q : Option Value → Hp → Nat → Prop} {S : List Value} {h : Hp} {a0 a1 a2 a3 a4 a5 a6 a7 a8 a9 a10 a11 a12 a13 a14 a15 a16 a17 : Value} {r : List Value} {x : Nat} (hi : StA M pc 17 pc') (hc : clr a16 = a16) (K : R M d mc ms Q pc' (a0 :: a1 :: a2 :: a3 :: a4 :: a5 :: a6 :: a7 :: a8 :: a9 :: a10 :: a11 :: a12 :: a13 :: a14 :: a15 :: a16 :: .ref x :: r) S h z k n) : R M d mc ms Q pc (a0 :: a1 :: a2 :: a3 :: a4 :: a5 :: a6 :: a7 :: a8 :: a9 :: a10 :: a11 :: a12 :: a13 :: a14 :: a15 :: a16 :: a17 :: r) (.ref x :: S) h z k n := r_astoreG hi (by simp only [stL1, hc]) K
theorem r_iinc_17 {M : MD} {d mc ms pc pc' z k n : Nat} {Q : Option Value → Hp → Nat → Prop} {S : List Value} {h : Hp} {a0 a1 a2 a3 a4 a5 a6 a7 a8 a9 a10 a11 a12 a13 a14 a15 a16 : Value} {r : List Value} {w : Int} {x v : Int32} (hi : Inc M pc 17 w pc') (hv : x + Int32.ofInt w = v) (hc : clr a16 = a16) (K : R M d mc ms Q pc' (a0 :: a1 :: a2 :: a3 :: a4 :: a5 :: a6 :: a7 :: a8 :: a9 :: a10 :: a11 :: a12 :: a13 :: a14 :: a15 :: a16 :: .int v :: r) S h z k n) : R M d mc ms Q pc (a0 :: a1 :: a2 :: a3 :: a4 :: a5 :: a6 :: a7 :: a8 :: a9 :: a10 :: a11 :: a12 :: a13 :: a14 :: a15 :: a16 :: .int x :: r) S h z k n := r_iincG hi rfl hv (by simp only [stL1, hc]) K
theorem r_lstore_17 {M : MD} {d mc ms pc pc' z k n : Nat} {Q : Option Value → Hp → Nat → Prop} {S : List Value} {h : Hp} {a0 a1 a2 a3 a4 a5 a6 a7 a8 a9 a10 a11 a12 a13 a14 a15 a16 b c : Value} {r : List Value} {x : Int64} (hi : StL M pc 17 pc') (hc : clr a16 = a16) (K : R M d mc ms Q pc' (a0 :: a1 :: a2 :: a3 :: a4 :: a5 :: a6 :: a7 :: a8 :: a9 :: a10 :: a11 :: a12 :: a13 :: a14 :: a15 :: a16 :: .long x :: .null :: r) S h z k n) : R M d mc ms Q pc (a0 :: a1 :: a2 :: a3 :: a4 :: a5 :: a6 :: a7 :: a8 :: a9 :: a10 :: a11 :: a12 :: a13 :: a14 :: a15 :: a16 :: b :: c :: r) (.long x :: S) h z k n := r_lstoreG hi (by simp only [stL2, hc]) K
def Jmp (M : MD) (pc : Nat) (i : Int → Instr) (tgt pc' : Nat) : Prop := ∃ off : Int, Ins M pc (i off) 3 pc' ∧ (pc : Int) + off = (tgt : Int)
theorem r_goto {M : MD} {d mc ms pc pc' z k n : Nat} {Q : Option Value → Hp → Nat → Prop} {L S : List Value} {h : Hp} {tgt : Nat} (hi : Jmp M pc .goto tgt pc') (K : R M d mc ms Q tgt L S h z k n) : R M d mc ms Q pc L S h z k n := by
  intro p l e Rm s m args below meth c E Qf O H locs ls hH hS hL hk hn
  obtain ⟨hx, hb, hml, hown, hts, hrm, hin, hK, hZ, hX, hB, hRC⟩ := id O
  obtain ⟨off, ⟨hd, rfl⟩, ht⟩ := hi
  exact lv_goto hx hb hd ht (K p l e Rm s m args below meth c E Qf O H locs ls hH hS hL hk hn)
theorem r_icmp_eq {M : MD} {d mc ms pc pc' z k n : Nat} {Q : Option Value → Hp → Nat → Prop} {L S : List Value} {h : Hp} {x y : Int32} {tgt : Nat} (hi : Jmp M pc (.if_icmp .eq) tgt pc') (Kt : x = y → R M d mc ms Q tgt L S h z k n) (Kf : ¬ x = y → R M d mc ms Q pc' L S h z k n) : R M d mc ms Q pc L (.int y :: .int x :: S) h z k n := by
  intro p l e Rm s m args below meth c E Qf O H locs ls hH hS hL hk hn
  obtain ⟨hx, hb, hml, hown, hts, hrm, hin, hK, hZ, hX, hB, hRC⟩ := id O
  obtain ⟨off, ⟨hd, rfl⟩, ht⟩ := hi
  exact lv_icmp_eq hx hb hd ht (fun g => Kt g p l e Rm s m args below meth c E Qf O H locs ls hH hS hL hk hn) (fun g => Kf g p l e Rm s m args below meth c E Qf O H locs ls hH hS hL hk hn)
theorem r_if_eq {M : MD} {d mc ms pc pc' z k n : Nat} {Q : Option Value → Hp → Nat → Prop} {L S : List Value} {h : Hp} {x : Int32} {tgt : Nat} (hi : Jmp M pc (.ifCond .eq) tgt pc') (Kt : x = 0 → R M d mc ms Q tgt L S h z k n) (Kf : ¬ x = 0 → R M d mc ms Q pc' L S h z k n) : R M d mc ms Q pc L (.int x :: S) h z k n := by
  intro p l e Rm s m args below meth c E Qf O H locs ls hH hS hL hk hn
  obtain ⟨hx, hb, hml, hown, hts, hrm, hin, hK, hZ, hX, hB, hRC⟩ := id O
  obtain ⟨off, ⟨hd, rfl⟩, ht⟩ := hi
  exact lv_if_eq hx hb hd ht (fun g => Kt g p l e Rm s m args below meth c E Qf O H locs ls hH hS hL hk hn) (fun g => Kf g p l e Rm s m args below meth c E Qf O H locs ls hH hS hL hk hn)
theorem r_icmp_ne {M : MD} {d mc ms pc pc' z k n : Nat} {Q : Option Value → Hp → Nat → Prop} {L S : List Value} {h : Hp} {x y : Int32} {tgt : Nat} (hi : Jmp M pc (.if_icmp .ne) tgt pc') (Kt : ¬ x = y → R M d mc ms Q tgt L S h z k n) (Kf : x = y → R M d mc ms Q pc' L S h z k n) : R M d mc ms Q pc L (.int y :: .int x :: S) h z k n := by
  intro p l e Rm s m args below meth c E Qf O H locs ls hH hS hL hk hn
  obtain ⟨hx, hb, hml, hown, hts, hrm, hin, hK, hZ, hX, hB, hRC⟩ := id O
  obtain ⟨off, ⟨hd, rfl⟩, ht⟩ := hi
  exact lv_icmp_ne hx hb hd ht (fun g => Kt g p l e Rm s m args below meth c E Qf O H locs ls hH hS hL hk hn) (fun g => Kf g p l e Rm s m args below meth c E Qf O H locs ls hH hS hL hk hn)
theorem r_if_ne {M : MD} {d mc ms pc pc' z k n : Nat} {Q : Option Value → Hp → Nat → Prop} {L S : List Value} {h : Hp} {x : Int32} {tgt : Nat} (hi : Jmp M pc (.ifCond .ne) tgt pc') (Kt : ¬ x = 0 → R M d mc ms Q tgt L S h z k n) (Kf : x = 0 → R M d mc ms Q pc' L S h z k n) : R M d mc ms Q pc L (.int x :: S) h z k n := by
  intro p l e Rm s m args below meth c E Qf O H locs ls hH hS hL hk hn
  obtain ⟨hx, hb, hml, hown, hts, hrm, hin, hK, hZ, hX, hB, hRC⟩ := id O
  obtain ⟨off, ⟨hd, rfl⟩, ht⟩ := hi
  exact lv_if_ne hx hb hd ht (fun g => Kt g p l e Rm s m args below meth c E Qf O H locs ls hH hS hL hk hn) (fun g => Kf g p l e Rm s m args below meth c E Qf O H locs ls hH hS hL hk hn)
theorem r_icmp_lt {M : MD} {d mc ms pc pc' z k n : Nat} {Q : Option Value → Hp → Nat → Prop} {L S : List Value} {h : Hp} {x y : Int32} {tgt : Nat} (hi : Jmp M pc (.if_icmp .lt) tgt pc') (Kt : x < y → R M d mc ms Q tgt L S h z k n) (Kf : ¬ x < y → R M d mc ms Q pc' L S h z k n) : R M d mc ms Q pc L (.int y :: .int x :: S) h z k n := by
  intro p l e Rm s m args below meth c E Qf O H locs ls hH hS hL hk hn
  obtain ⟨hx, hb, hml, hown, hts, hrm, hin, hK, hZ, hX, hB, hRC⟩ := id O
  obtain ⟨off, ⟨hd, rfl⟩, ht⟩ := hi
  exact lv_icmp_lt hx hb hd ht (fun g => Kt g p l e Rm s m args below meth c E Qf O H locs ls hH hS hL hk hn) (fun g => Kf g p l e Rm s m args below meth c E Qf O H locs ls hH hS hL hk hn)
theorem r_if_lt {M : MD} {d mc ms pc pc' z k n : Nat} {Q : Option Value → Hp → Nat → Prop} {L S : List Value} {h : Hp} {x : Int32} {tgt : Nat} (hi : Jmp M pc (.ifCond .lt) tgt pc') (Kt : x < 0 → R M d mc ms Q tgt L S h z k n) (Kf : ¬ x < 0 → R M d mc ms Q pc' L S h z k n) : R M d mc ms Q pc L (.int x :: S) h z k n := by
  intro p l e Rm s m args below meth c E Qf O H locs ls hH hS hL hk hn
  obtain ⟨hx, hb, hml, hown, hts, hrm, hin, hK, hZ, hX, hB, hRC⟩ := id O
  obtain ⟨off, ⟨hd, rfl⟩, ht⟩ := hi
  exact lv_if_lt hx hb hd ht (fun g => Kt g p l e Rm s m args below meth c E Qf O H locs ls hH hS hL hk hn) (fun g => Kf g p l e Rm s m args below meth c E Qf O H locs ls hH hS hL hk hn)
theorem r_icmp_ge {M : MD} {d mc ms pc pc' z k n : Nat} {Q : Option Value → Hp → Nat → Prop} {L S : List Value} {h : Hp} {x y : Int32} {tgt : Nat} (hi : Jmp M pc (.if_icmp .ge) tgt pc') (Kt : y ≤ x → R M d mc ms Q tgt L S h z k n) (Kf : ¬ y ≤ x → R M d mc ms Q pc' L S h z k n) : R M d mc ms Q pc L (.int y :: .int x :: S) h z k n := by
  intro p l e Rm s m args below meth c E Qf O H locs ls hH hS hL hk hn
  obtain ⟨hx, hb, hml, hown, hts, hrm, hin, hK, hZ, hX, hB, hRC⟩ := id O
  obtain ⟨off, ⟨hd, rfl⟩, ht⟩ := hi
  exact lv_icmp_ge hx hb hd ht (fun g => Kt g p l e Rm s m args below meth c E Qf O H locs ls hH hS hL hk hn) (fun g => Kf g p l e Rm s m args below meth c E Qf O H locs ls hH hS hL hk hn)
theorem r_if_ge {M : MD} {d mc ms pc pc' z k n : Nat} {Q : Option Value → Hp → Nat → Prop} {L S : List Value} {h : Hp} {x : Int32} {tgt : Nat} (hi : Jmp M pc (.ifCond .ge) tgt pc') (Kt : 0 ≤ x → R M d mc ms Q tgt L S h z k n) (Kf : ¬ 0 ≤ x → R M d mc ms Q pc' L S h z k n) : R M d mc ms Q pc L (.int x :: S) h z k n := by
  intro p l e Rm s m args below meth c E Qf O H locs ls hH hS hL hk hn
  obtain ⟨hx, hb, hml, hown, hts, hrm, hin, hK, hZ, hX, hB, hRC⟩ := id O
  obtain ⟨off, ⟨hd, rfl⟩, ht⟩ := hi
  exact lv_if_ge hx hb hd ht (fun g => Kt g p l e Rm s m args below meth c E Qf O H locs ls hH hS hL hk hn) (fun g => Kf g p l e Rm s m args below meth c E Qf O H locs ls hH hS hL hk hn)
theorem r_icmp_gt {M : MD} {d mc ms pc pc' z k n : Nat} {Q : Option Value → Hp → Nat → Prop} {L S : List Value} {h : Hp} {x y : Int32} {tgt : Nat} (hi : Jmp M pc (.if_icmp .gt) tgt pc') (Kt : y < x → R M d mc ms Q tgt L S h z k n) (Kf : ¬ y < x → R M d mc ms Q pc' L S h z k n) : R M d mc ms Q pc L (.int y :: .int x :: S) h z k n := by
  intro p l e Rm s m args below meth c E Qf O H locs ls hH hS hL hk hn
  obtain ⟨hx, hb, hml, hown, hts, hrm, hin, hK, hZ, hX, hB, hRC⟩ := id O
  obtain ⟨off, ⟨hd, rfl⟩, ht⟩ := hi
  exact lv_icmp_gt hx hb hd ht (fun g => Kt g p l e Rm s m args below meth c E Qf O H locs ls hH hS hL hk hn) (fun g => Kf g p l e Rm s m args below meth c E Qf O H locs ls hH hS hL hk hn)
theorem r_if_gt {M : MD} {d mc ms pc pc' z k n : Nat} {Q : Option Value → Hp → Nat → Prop} {L S : List Value} {h : Hp} {x : Int32} {tgt : Nat} (hi : Jmp M pc (.ifCond .gt) tgt pc') (Kt : 0 < x → R M d mc ms Q tgt L S h z k n) (Kf : ¬ 0 < x → R M d mc ms Q pc' L S h z k n) : R M d mc ms Q pc L (.int x :: S) h z k n := by
  intro p l e Rm s m args below meth c E Qf O H locs ls hH hS hL hk hn
  obtain ⟨hx, hb, hml, hown, hts, hrm, hin, hK, hZ, hX, hB, hRC⟩ := id O
  obtain ⟨off, ⟨hd, rfl⟩, ht⟩ := hi
  exact lv_if_gt hx hb hd ht (fun g => Kt g p l e Rm s m args below meth c E Qf O H locs ls hH hS hL hk hn) (fun g => Kf g p l e Rm s m args below meth c E Qf O H locs ls hH hS hL hk hn)
theorem r_icmp_le {M : MD} {d mc ms pc pc' z k n : Nat} {Q : Option Value → Hp → Nat → Prop} {L S : List Value} {h : Hp} {x y : Int32} {tgt : Nat} (hi : Jmp M pc (.if_icmp .le) tgt pc') (Kt : x ≤ y → R M d mc ms Q tgt L S h z k n) (Kf : ¬ x ≤ y → R M d mc ms Q pc' L S h z k n) : R M d mc ms Q pc L (.int y :: .int x :: S) h z k n := by
  intro p l e Rm s m args below meth c E Qf O H locs ls hH hS hL hk hn
  obtain ⟨hx, hb, hml, hown, hts, hrm, hin, hK, hZ, hX, hB, hRC⟩ := id O
  obtain ⟨off, ⟨hd, rfl⟩, ht⟩ := hi
  exact lv_icmp_le hx hb hd ht (fun g => Kt g p l e Rm s m args below meth c E Qf O H locs ls hH hS hL hk hn) (fun g => Kf g p l e Rm s m args below meth c E Qf O H locs ls hH hS hL hk hn)
theorem r_if_le {M : MD} {d mc ms pc pc' z k n : Nat} {Q : Option Value → Hp → Nat → Prop} {L S : List Value} {h : Hp} {x : Int32} {tgt : Nat} (hi : Jmp M pc (.ifCond .le) tgt pc') (Kt : x ≤ 0 → R M d mc ms Q tgt L S h z k n) (Kf : ¬ x ≤ 0 → R M d mc ms Q pc' L S h z k n) : R M d mc ms Q pc L (.int x :: S) h z k n := by
  intro p l e Rm s m args below meth c E Qf O H locs ls hH hS hL hk hn
  obtain ⟨hx, hb, hml, hown, hts, hrm, hin, hK, hZ, hX, hB, hRC⟩ := id O
  obtain ⟨off, ⟨hd, rfl⟩, ht⟩ := hi
  exact lv_if_le hx hb hd ht (fun g => Kt g p l e Rm s m args below meth c E Qf O H locs ls hH hS hL hk hn) (fun g => Kf g p l e Rm s m args below meth c E Qf O H locs ls hH hS hL hk hn)
theorem r_tabIn {M : MD} {d mc ms pc pc' z k n : Nat} {Q : Option Value → Hp → Nat → Prop} {L S : List Value} {h : Hp} {dflt lo hi : Int} {offs : Array Int} {len : Nat} {x : Int32} {off : Int} {tgt : Nat} (hi' : Ins M pc (.tableswitch dflt lo hi offs) len pc') (h1 : ¬ x.toInt < lo) (h2 : ¬ hi < x.toInt) (ho : offs[(x.toInt - lo).toNat]? = some off) (ht : (pc : Int) + off = (tgt : Int)) (K : R M d mc ms Q tgt L S h z k n) : R M d mc ms Q pc L (.int x :: S) h z k n := by
  intro p l e Rm s m args below meth c E Qf O H locs ls hH hS hL hk hn
  obtain ⟨hx, hb, hml, hown, hts, hrm, hin, hK, hZ, hX, hB, hRC⟩ := id O
  obtain ⟨hd, rfl⟩ := hi'
  exact lv_tableIn hx hb hd h1 h2 ho ht (K p l e Rm s m args below meth c E Qf O H locs ls hH hS hL hk hn)
theorem r_tabOut {M : MD} {d mc ms pc pc' z k n : Nat} {Q : Option Value → Hp → Nat → Prop} {L S : List Value} {h : Hp} {dflt lo hi : Int} {offs : Array Int} {len : Nat} {x : Int32} {tgt : Nat} (hi' : Ins M pc (.tableswitch dflt lo hi offs) len pc') (h1 : x.toInt < lo ∨ hi < x.toInt) (ht : (pc : Int) + dflt = (tgt : Int)) (K : R M d mc ms Q tgt L S h z k n) : R M d mc ms Q pc L (.int x :: S) h z k n := by
  intro p l e Rm s m args below meth c E Qf O H locs ls hH hS hL hk hn
  obtain ⟨hx, hb, hml, hown, hts, hrm, hin, hK, hZ, hX, hB, hRC⟩ := id O
  obtain ⟨hd, rfl⟩ := hi'
  exact lv_tableOut hx hb hd h1 ht (K p l e Rm s m args below meth c E Qf O H locs ls hH hS hL hk hn)
theorem r_look {M : MD} {d mc ms pc pc' z k n : Nat} {Q : Option Value → Hp → Nat → Prop} {L S : List Value} {h : Hp} {dflt : Int} {ps : Array (Int × Int)} {len : Nat} {x : Int32} {off : Int} {tgt : Nat} (hi' : Ins M pc (.lookupswitch dflt ps) len pc') (hp : (ps.toList.zip (ps.toList.drop 1)).all (fun (a, next) => a.1 < next.1) = true) (ho : Op.lookupswitch.offset ps.toList dflt x.toInt = off) (ht : (pc : Int) + off = (tgt : Int)) (K : R M d mc ms Q tgt L S h z k n) : R M d mc ms Q pc L (.int x :: S) h z k n := by
  intro p l e Rm s m args below meth c E Qf O H locs ls hH hS hL hk hn
  obtain ⟨hx, hb, hml, hown, hts, hrm, hin, hK, hZ, hX, hB, hRC⟩ := id O
  obtain ⟨hd, rfl⟩ := hi'
  exact lv_lookup hx hb hd hp ho ht (K p l e Rm s m args below meth c E Qf O H locs ls hH hS hL hk hn)
theorem r_iret {M : MD} {d mc ms pc pc' z k n : Nat} {Q : Option Value → Hp → Nat → Prop} {L S : List Value} {h : Hp} {x : Int32} (hi : Ins M pc .ireturn 1 pc') (hr : M.2.2.2 = some .int) (hq : Q (some (.int x)) h z) : R M d mc ms Q pc L [.int x] h z k n := by
  intro p l e Rm s m args below meth c E Qf O H locs ls hH hS hL hk hn
  obtain ⟨hx, hb, hml, hown, hts, hrm, hin, hK, hZ, hX, hB, hRC⟩ := id O
  exact hRC (some (.int x)) h z k n pc H locs ls .ireturn hq ⟨rfl, Or.inl hr⟩ hi.1 hH hS hk hn
theorem r_zret {M : MD} {d mc ms pc pc' z k n : Nat} {Q : Option Value → Hp → Nat → Prop} {L S : List Value} {h : Hp} {x : Int32} (hi : Ins M pc .ireturn 1 pc') (hr : M.2.2.2 = some .boolean) (h01 : x = 0 ∨ x = 1) (hq : Q (some (.int x)) h z) : R M d mc ms Q pc L [.int x] h z k n := by
  intro p l e Rm s m args below meth c E Qf O H locs ls hH hS hL hk hn
  obtain ⟨hx, hb, hml, hown, hts, hrm, hin, hK, hZ, hX, hB, hRC⟩ := id O
  exact hRC (some (.int x)) h z k n pc H locs ls .ireturn hq ⟨rfl, Or.inr ⟨hr, h01⟩⟩ hi.1 hH hS hk hn
theorem r_lret {M : MD} {d mc ms pc pc' z k n : Nat} {Q : Option Value → Hp → Nat → Prop} {L S : List Value} {h : Hp} {x : Int64} (hi : Ins M pc .lreturn 1 pc') (hr : M.2.2.2 = some .long) (hq : Q (some (.long x)) h z) : R M d mc ms Q pc L [.long x] h z k n := by
  intro p l e Rm s m args below meth c E Qf O H locs ls hH hS hL hk hn
  obtain ⟨hx, hb, hml, hown, hts, hrm, hin, hK, hZ, hX, hB, hRC⟩ := id O
  exact hRC (some (.long x)) h z k n pc H locs ls .lreturn hq ⟨rfl, hr⟩ hi.1 hH hS hk hn
theorem r_vret {M : MD} {d mc ms pc pc' z k n : Nat} {Q : Option Value → Hp → Nat → Prop} {L S : List Value} {h : Hp} (hi : Ins M pc .return_ 1 pc') (hr : M.2.2.2 = none) (hq : Q none h z) : R M d mc ms Q pc L [] h z k n := by
  intro p l e Rm s m args below meth c E Qf O H locs ls hH hS hL hk hn
  obtain ⟨hx, hb, hml, hown, hts, hrm, hin, hK, hZ, hX, hB, hRC⟩ := id O
  exact hRC none h z k n pc H locs ls .return_ hq ⟨hr, rfl⟩ hi.1 hH hS hk hn
end
section
def FL (M : MD) (idx ci j : Nat) : Prop := ∃ (C : String) (T : u_T) (N : Nat), vwCl[ci]? = some (C, T, N) ∧ j < N ∧ (∀ w ∈ u_ws C T N, w ∈ GW) ∧ Cond.fieldLink M.1.cls idx (T j).1 (T j).2.1 (T j).2.2.1 ∈ GW
def FP (M : MD) (idx ci j : Nat) (ty : FieldType) : Prop := ∃ (C : String) (T : u_T) (N : Nat) (ty0 : Nat → FieldType), (vwCl[ci]? = some (C, T, N) ∧ j < N ∧ (∀ w ∈ u_ws C T N, w ∈ GW) ∧ Cond.fieldLink M.1.cls idx (T j).1 (T j).2.1 (T j).2.2.1 ∈ GW) ∧ (∀ k, k < N → parseFieldDescriptor (T k).2.2.1 = some (ty0 k)) ∧ (∀ a, a < N → ∀ b, b < N → a ≠ b → (T a).2.1 ≠ (T b).2.1) ∧ ty0 j = ty ∧ ((T j).2.2.2 = false ∨ ((T j).2.2.2 = true ∧ M.1.name = "<init>" ∧ (T j).1 = M.1.cls))
def fitV (ty : FieldType) (v : Value) : Prop := narrow ty v = v ∧ fits ty v = true
theorem fitV_sh {E : eE} {ty : FieldType} {v : Value} (h : fitV ty v) : fitV ty (sh E v) := by
  cases v <;> first | exact h | (obtain ⟨h1, h2⟩ := h; cases ty <;> first | exact ⟨rfl, rfl⟩ | (exfalso; revert h2; simp [fits]; done) | exact ⟨h1, h2⟩)
theorem va_S.put1 {E : eE} {s : State} {h : Hp} {z : Nat} {H0 H H1 : Heap} {locs : List Loc} (hS : va_S (fun q => E.2.2.1 ≤ q) H0 H locs) {a k : Nat} (ha : 2 ≤ a) (hz : H1.size = H.size) (ho : ∀ q : Nat, q ≠ ad E a → H1[q]? = H[q]?) : va_S (fun q => E.2.2.1 ≤ q) H0 H1 (locs ++ [⟨ad E a, k⟩]) := hS.put hz ho (by rw [ad_ge ha]; exact Nat.le_add_right _ _)
theorem va_S.push1 {E : eE} {H0 H H1 : Heap} {locs : List Loc} (hS : va_S (fun q => E.2.2.1 ≤ q) H0 H locs) (hz : H.size ≤ H1.size) (ho : ∀ q : Nat, q < H.size → H1[q]? = H[q]?) : va_S (fun q => E.2.2.1 ≤ q) H0 H1 locs := ⟨Nat.le_trans hS.1 hz, fun q g1 g2 => (ho q (Nat.lt_of_lt_of_le g1 hS.1)).trans (hS.2.1 q g1 g2), hS.2.2⟩
theorem r_getfield {M : MD} {d mc ms pc pc' z k n : Nat} {Q : Option Value → Hp → Nat → Prop} {L S : List Value} {h : Hp} {idx ci j a : Nat} {fs : List Value} {v : Value} (hi : Ins M pc (.getfield idx) 3 pc') (hl : FL M idx ci j) (hh : h a = some (.inr (ci, fs))) (hv : fs[j]? = some v) (K : R M d mc ms Q pc' L (v :: S) h z k n) : R M d mc ms Q pc L (.ref a :: S) h z k n := by
  intro p l e Rm s m args below meth c E Qf O H locs ls hH hS hL hk hn
  obtain ⟨hx, hb, hml, hown, hts, hrm, hin, hK, hZ, hX, hB, hRC⟩ := id O
  obtain ⟨hd, rfl⟩ := hi
  obtain ⟨C, T, N, f1, f2, f3, f4⟩ := hl
  obtain ⟨-, g2, g3⟩ := hH.2.2.2.2 a _ hh
  exact va_get (D := aD E) (cl := vwCl) (tys := []) (ws := [(ad E a, .inr (ci, fs.map (sh E)))]) (v := sh E v) hx hb hts (fun w hw => f3 w hw) hown hK (fun k q hq => by
    have h0 : k < 1 := (List.getElem?_eq_some_iff.mp hq).1
    rw [show k = 0 by omega] at hq
    cases hq
    exact g3) 0 rfl f1 j f2 (hts _ f4) (fun _ h9 => h9) (by rw [List.getElem?_map, hv]; rfl) hd (K p l e Rm s m args below meth c E Qf O H locs ls hH hS hL hk hn)
theorem r_putfield {M : MD} {d mc ms pc pc' z k n : Nat} {Q : Option Value → Hp → Nat → Prop} {L S : List Value} {h : Hp} {idx ci j a : Nat} {fs : List Value} {v : Value} {ty : FieldType} (hi : Ins M pc (.putfield idx) 3 pc') (hl : FP M idx ci j ty) (ha : 2 ≤ a) (hh : h a = some (.inr (ci, fs))) (hlen : j < fs.length) (hfit : fitV ty v) (K : R M d mc ms Q pc' L S (hset h a (.inr (ci, fs.set j v))) z k n) : R M d mc ms Q pc L (v :: .ref a :: S) h z k n := by
  intro p l e Rm s m args below meth c E Qf O H locs ls hH hS hL hk hn
  obtain ⟨hx, hb, hml, hown, hts, hrm, hin, hK, hZ, hX, hB, hRC⟩ := id O
  obtain ⟨hd, rfl⟩ := hi
  obtain ⟨C, T, N, ty0, ⟨f1, f2, f3, f4⟩, f5, f6, f7, f8⟩ := hl
  obtain ⟨-, g2, g3⟩ := hH.2.2.2.2 a _ hh
  obtain ⟨hn1, hfit1⟩ := fitV_sh (E := E) hfit
  have hap := va_apart (own := M.1.cls) hts (fun w hw => f3 w hw) ty0 f5 f6 hK f1
  obtain ⟨r, h1, cell, q1, q2, q3, q4⟩ := g3
  have hr : r = (C, T, N) := Option.some.inj (h1.symm.trans f1)
  subst hr
  obtain ⟨hSl, hfc, kC, hkC, hkind⟩ := hK.1 ci _ f1
  obtain ⟨cf, kf, fi, f, hi, hsl⟩ := hSl j f2
  have hdj : parseFieldDescriptor (T j).2.2.1 = some ty := by rw [← f7]; exact f5 j f2
  have hst := (u_facts hfc hkC (u_lays hts (fun w hw => f3 w hw) f2) hi).1
  have hlay := hts _ (f3 _ (u_in_lay f2))
  unfold u_lay at hlay
  have fin : ∀ (H' : Heap), H'[ad E a]? = some (cell.setSlot (aD E |>.2 ci j) (sh E v)) → H'.size = H.size → (∀ q, q ≠ ad E a → H'[q]? = H[q]?) → W p l e Rm s m args below meth c H' (locs ++ [⟨ad E a, (aD E).2 ci j⟩]) k n Qf (F0 m (pc + 3) ls (S.map (sh E))) := by
    intro H' e1 e2 e3
    refine K p l e Rm s m args below meth c E Qf O H' _ ls (hH.set g2 hh ⟨g2, _, h1, ?_⟩ e2 e3) (va_S.put1 (s := s) (h := h) (z := z) hS g2 e2 e3) hL hk hn
    rw [List.map_set]
    exact t_OB.to (V := updV (vp_V (fs.map (sh E))) j (sh E v)) ⟨_, e1, q2, q3, t_set q4 hap f2 (sh E v)⟩ (fun i _ => vp_updV_set (by rw [List.length_map]; exact hlen) (sh E v) i)
  rcases f8 with hfin | ⟨hfin, hin1, hdecl⟩
  · rw [if_neg (by rw [hfin]; decide)] at hlay
    have h6 := u_store hfc hkC hkind hlay hi hdj hn1 hfit1
    refine W.putK hx hb (f := f) ⟨hown, hts _ f4, ⟨_, _, _, hi⟩, hst⟩ (by rw [q2]; exact h6) q1 q3 (by rw [hsl]; exact k2_hasslot (q4 j f2)) rfl rfl hd fun H' e1 e2 e3 => ?_
    rw [hsl] at e1 ⊢
    exact fin H' e1 e2 e3
  · rw [if_pos hfin] at hlay
    have hcf : m.cls = cf := by
      obtain ⟨_, _, c', _, _, _, -, -, hf', -, -, -, hown2, -⟩ := Cond.laysFinal_spec hlay
      have e1 : c' = cf := by have := hi.symm.trans hf'; simp at this; exact this.1.symm
      rw [hdecl] at hown2
      rw [← e1]; exact Option.some.inj (hown.symm.trans hown2)
    have h6 := u_fits hfc hkC hkind (Or.inr hlay) hi hdj hn1 hfit1
    refine W.putFinK hx hb hown (hts _ f4) hi hst hcf (hin hin1) (by rw [q2]; exact h6) q1 q3 (by rw [hsl]; exact k2_hasslot (q4 j f2)) rfl rfl hd fun H' e1 e2 e3 => ?_
    rw [hsl] at e1 ⊢
    exact fin H' e1 e2 e3
theorem r_iaload {M : MD} {d mc ms pc pc' z k n : Nat} {Q : Option Value → Hp → Nat → Prop} {L S : List Value} {h : Hp} {a w : Nat} {f : Nat → Value} {i : Int32} {x : Int32} (hi : Ins M pc .iaload 1 pc') (hh : h a = some (.inl (.int, w, f))) (hin' : vp_in i w) (hv : f i.toNatClampNeg = .int x) (K : R M d mc ms Q pc' L (.int x :: S) h z k n) : R M d mc ms Q pc L (.int i :: .ref a :: S) h z k n := by
  intro p l e Rm s m args below meth c E Qf O H locs ls hH hS hL hk hn
  obtain ⟨hx, hb, hml, hown, hts, hrm, hin, hK, hZ, hX, hB, hRC⟩ := id O
  obtain ⟨hd, rfl⟩ := hi
  obtain ⟨-, cell, h1, h2, h3, h4, h5, h6, h7⟩ := hH.2.2.2.2 a _ hh
  have hlt : i.toNatClampNeg < w := Nat.not_le.mp fun q => hin' (Or.inr q)
  exact W.iald hx hb h1 h2 h3 (fun q => q.elim (fun q => hin' (Or.inl q)) (fun q => by dsimp only at h4; omega)) (by rw [h6 _ hlt]; exact congrArg (fun v => some (sh E v)) hv) rfl rfl hd (K p l e Rm s m args below meth c E Qf O H locs ls hH hS hL hk hn)
theorem r_laload {M : MD} {d mc ms pc pc' z k n : Nat} {Q : Option Value → Hp → Nat → Prop} {L S : List Value} {h : Hp} {a w : Nat} {f : Nat → Value} {i : Int32} {x : Int64} (hi : Ins M pc .laload 1 pc') (hh : h a = some (.inl (.long, w, f))) (hin' : vp_in i w) (hv : f i.toNatClampNeg = .long x) (K : R M d mc ms Q pc' L (.long x :: S) h z k n) : R M d mc ms Q pc L (.int i :: .ref a :: S) h z k n := by
  intro p l e Rm s m args below meth c E Qf O H locs ls hH hS hL hk hn
  obtain ⟨hx, hb, hml, hown, hts, hrm, hin, hK, hZ, hX, hB, hRC⟩ := id O
  obtain ⟨hd, rfl⟩ := hi
  obtain ⟨-, cell, h1, h2, h3, h4, h5, h6, h7⟩ := hH.2.2.2.2 a _ hh
  have hlt : i.toNatClampNeg < w := Nat.not_le.mp fun q => hin' (Or.inr q)
  exact W.lald hx hb h1 h2 h3 (fun q => q.elim (fun q => hin' (Or.inl q)) (fun q => by dsimp only at h4; omega)) (by rw [h6 _ hlt]; exact congrArg (fun v => some (sh E v)) hv) rfl rfl hd (K p l e Rm s m args below meth c E Qf O H locs ls hH hS hL hk hn)
theorem r_baload {M : MD} {d mc ms pc pc' z k n : Nat} {Q : Option Value → Hp → Nat → Prop} {L S : List Value} {h : Hp} {a w : Nat} {f : Nat → Value} {i : Int32} {x : Int32} (hi : Ins M pc .baload 1 pc') (hh : h a = some (.inl (.boolean, w, f))) (hin' : vp_in i w) (hv : f i.toNatClampNeg = .int x) (K : R M d mc ms Q pc' L (.int x :: S) h z k n) : R M d mc ms Q pc L (.int i :: .ref a :: S) h z k n := by
  intro p l e Rm s m args below meth c E Qf O H locs ls hH hS hL hk hn
  obtain ⟨hx, hb, hml, hown, hts, hrm, hin, hK, hZ, hX, hB, hRC⟩ := id O
  obtain ⟨hd, rfl⟩ := hi
  obtain ⟨-, cell, h1, h2, h3, h4, h5, h6, h7⟩ := hH.2.2.2.2 a _ hh
  have hlt : i.toNatClampNeg < w := Nat.not_le.mp fun q => hin' (Or.inr q)
  exact W.zald hx hb h1 h2 h3 (fun q => q.elim (fun q => hin' (Or.inl q)) (fun q => by dsimp only at h4; omega)) (by rw [h6 _ hlt]; exact congrArg (fun v => some (sh E v)) hv) rfl rfl hd (K p l e Rm s m args below meth c E Qf O H locs ls hH hS hL hk hn)
theorem r_aaload {M : MD} {d mc ms pc pc' z k n : Nat} {Q : Option Value → Hp → Nat → Prop} {L S : List Value} {h : Hp} {a w : Nat} {ty : FieldType} {f : Nat → Value} {i : Int32} {x : Nat} (hi : Ins M pc .aaload 1 pc') (hty : ty.isReference = true) (hh : h a = some (.inl (ty, w, f))) (hin' : vp_in i w) (hv : f i.toNatClampNeg = .ref x) (K : R M d mc ms Q pc' L (.ref x :: S) h z k n) : R M d mc ms Q pc L (.int i :: .ref a :: S) h z k n := by
  intro p l e Rm s m args below meth c E Qf O H locs ls hH hS hL hk hn
  obtain ⟨hx, hb, hml, hown, hts, hrm, hin, hK, hZ, hX, hB, hRC⟩ := id O
  obtain ⟨hd, rfl⟩ := hi
  obtain ⟨-, cell, h1, h2, h3, h4, h5, h6, h7⟩ := hH.2.2.2.2 a _ hh
  have hlt : i.toNatClampNeg < w := Nat.not_le.mp fun q => hin' (Or.inr q)
  exact W.aald hx hb h1 h2 hty h3 (fun q => q.elim (fun q => hin' (Or.inl q)) (fun q => by dsimp only at h4; omega)) (by rw [h6 _ hlt]; exact congrArg (fun v => some (sh E v)) hv) rfl rfl hd (K p l e Rm s m args below meth c E Qf O H locs ls hH hS hL hk hn)
theorem r_arraylength {M : MD} {d mc ms pc pc' z k n : Nat} {Q : Option Value → Hp → Nat → Prop} {L S : List Value} {h : Hp} {a w : Nat} {ty : FieldType} {f : Nat → Value} {v : Int32} (hi : Ins M pc .arraylength 1 pc') (hh : h a = some (.inl (ty, w, f))) (hv : Int32.ofNat w = v) (K : R M d mc ms Q pc' L (.int v :: S) h z k n) : R M d mc ms Q pc L (.ref a :: S) h z k n := by
  intro p l e Rm s m args below meth c E Qf O H locs ls hH hS hL hk hn
  obtain ⟨hx, hb, hml, hown, hts, hrm, hin, hK, hZ, hX, hB, hRC⟩ := id O
  obtain ⟨hd, rfl⟩ := hi
  obtain ⟨-, cell, h1, h2, h3, h4, h5, h6, h7⟩ := hH.2.2.2.2 a _ hh
  exact W.alen hx hb h1 h2 (by rw [h5]; exact hv) rfl rfl hd (K p l e Rm s m args below meth c E Qf O H locs ls hH hS hL hk hn)
theorem arAt_upd {E : eE} {s : State} {a w : Nat} {ty : FieldType} {f : Nat → Value} {H' : Heap} {cA : ClassId} {i : Nat} {v : Value} (hw : (arrV cA w (fun j => sh E (f j))).slots.size.toInt32 = Int32.ofNat w) (e2 : ArrOfT s cA ty) (e3 : va_RA s cA ty) (e : H'[ad E a]? = some ((arrV cA w (fun j => sh E (f j))).setSlot i (sh E v))) : arAt E s a ty w (updV f i v) H' := by
  rw [arrV_store] at e
  have hf : updV (fun j => sh E (f j)) i (sh E v) = fun j => sh E (updV f i v j) := by
    funext j
    unfold updV
    by_cases hj : j = i
    · rw [if_pos hj, if_pos hj]
    · rw [if_neg hj, if_neg hj]
  rw [hf] at e
  rw [arrV_size] at hw
  exact ⟨_, e, e2 _ _, (fun q => by cases q), by rw [arrV_size]; exact Nat.le_refl _, by rw [arrV_size], fun j hj => arrV_read _ _ hj, fun _ => ⟨cA, rfl, e2, e3⟩⟩
theorem r_iastore {M : MD} {d mc ms pc pc' z k n : Nat} {Q : Option Value → Hp → Nat → Prop} {L S : List Value} {h : Hp} {a w : Nat} {f : Nat → Value} {i : Int32} {x : Int32} (hi : Ins M pc .iastore 1 pc') (ha : 2 ≤ a) (hh : h a = some (.inl (.int, w, f))) (hin' : vp_in i w)  (K : R M d mc ms Q pc' L S (hset h a (.inl (.int, w, updV f i.toNatClampNeg (.int x)))) z k n) : R M d mc ms Q pc L (.int x :: .int i :: .ref a :: S) h z k n := by
  intro p l e Rm s m args below meth c E Qf O H locs ls hH hS hL hk hn
  obtain ⟨hx, hb, hml, hown, hts, hrm, hin, hK, hZ, hX, hB, hRC⟩ := id O
  obtain ⟨hd, rfl⟩ := hi
  obtain ⟨-, cell, h1, h2, h3, h4, h5, h6, h7⟩ := hH.2.2.2.2 a _ hh
  obtain ⟨cA, rfl, e2, e3⟩ := h7 ha
  refine W.iast hx hb h1 h2 h3 (by rw [arrV_size]; exact hin') rfl rfl hd fun H' e1 z1 o1 => ?_
  exact K p l e Rm s m args below meth c E Qf O H' _ ls (hH.set ha hh (arAt_upd (v := .int x) h5 e2 e3 e1) z1 o1) (va_S.put1 (s := s) (h := h) (z := z) hS ha z1 o1) hL hk hn
theorem r_lastore {M : MD} {d mc ms pc pc' z k n : Nat} {Q : Option Value → Hp → Nat → Prop} {L S : List Value} {h : Hp} {a w : Nat} {f : Nat → Value} {i : Int32} {x : Int64} (hi : Ins M pc .lastore 1 pc') (ha : 2 ≤ a) (hh : h a = some (.inl (.long, w, f))) (hin' : vp_in i w)  (K : R M d mc ms Q pc' L S (hset h a (.inl (.long, w, updV f i.toNatClampNeg (.long x)))) z k n) : R M d mc ms Q pc L (.long x :: .int i :: .ref a :: S) h z k n := by
  intro p l e Rm s m args below meth c E Qf O H locs ls hH hS hL hk hn
  obtain ⟨hx, hb, hml, hown, hts, hrm, hin, hK, hZ, hX, hB, hRC⟩ := id O
  obtain ⟨hd, rfl⟩ := hi
  obtain ⟨-, cell, h1, h2, h3, h4, h5, h6, h7⟩ := hH.2.2.2.2 a _ hh
  obtain ⟨cA, rfl, e2, e3⟩ := h7 ha
  refine W.last hx hb h1 h2 h3 (by rw [arrV_size]; exact hin') rfl rfl hd fun H' e1 z1 o1 => ?_
  exact K p l e Rm s m args below meth c E Qf O H' _ ls (hH.set ha hh (arAt_upd (v := .long x) h5 e2 e3 e1) z1 o1) (va_S.put1 (s := s) (h := h) (z := z) hS ha z1 o1) hL hk hn
theorem r_bastore {M : MD} {d mc ms pc pc' z k n : Nat} {Q : Option Value → Hp → Nat → Prop} {L S : List Value} {h : Hp} {a w : Nat} {f : Nat → Value} {i : Int32} {x : Int32} (hi : Ins M pc .bastore 1 pc') (ha : 2 ≤ a) (hh : h a = some (.inl (.boolean, w, f))) (hin' : vp_in i w) (h01 : x = 0 ∨ x = 1) (K : R M d mc ms Q pc' L S (hset h a (.inl (.boolean, w, updV f i.toNatClampNeg (.int x)))) z k n) : R M d mc ms Q pc L (.int x :: .int i :: .ref a :: S) h z k n := by
  intro p l e Rm s m args below meth c E Qf O H locs ls hH hS hL hk hn
  obtain ⟨hx, hb, hml, hown, hts, hrm, hin, hK, hZ, hX, hB, hRC⟩ := id O
  obtain ⟨hd, rfl⟩ := hi
  obtain ⟨-, cell, h1, h2, h3, h4, h5, h6, h7⟩ := hH.2.2.2.2 a _ hh
  obtain ⟨cA, rfl, e2, e3⟩ := h7 ha
  refine W.zast hx hb h1 h2 h3 (by rw [arrV_size]; exact hin') rfl rfl hd fun H' e1 z1 o1 => ?_
  rw [show narrow .boolean (.int x) = .int x by rcases h01 with rfl | rfl <;> rfl] at e1
  exact K p l e Rm s m args below meth c E Qf O H' _ ls (hH.set ha hh (arAt_upd (v := .int x) h5 e2 e3 e1) z1 o1) (va_S.put1 (s := s) (h := h) (z := z) hS ha z1 o1) hL hk hn
theorem r_aastore {M : MD} {d mc ms pc pc' z k n : Nat} {Q : Option Value → Hp → Nat → Prop} {L S : List Value} {h : Hp} {a w b ci : Nat} {C : String} {T : u_T} {N : Nat} {fs : List Value} {f : Nat → Value} {i : Int32} (hi : Ins M pc .aastore 1 pc') (ha : 2 ≤ a) (hh : h a = some (.inl (.object C, w, f))) (hin' : vp_in i w) (hb2 : h b = some (.inr (ci, fs))) (hci : vwCl[ci]? = some (C, T, N)) (K : R M d mc ms Q pc' L S (hset h a (.inl (.object C, w, updV f i.toNatClampNeg (.ref b)))) z k n) : R M d mc ms Q pc L (.ref b :: .int i :: .ref a :: S) h z k n := by
  intro p l e Rm s m args below meth c E Qf O H locs ls hH hS hL hk hn
  obtain ⟨hx, hb, hml, hown, hts, hrm, hin, hK, hZ, hX, hB, hRC⟩ := id O
  obtain ⟨hd, rfl⟩ := hi
  obtain ⟨-, cell, h1, h2, h3, h4, h5, h6, h7⟩ := hH.2.2.2.2 a _ hh
  obtain ⟨cA, rfl, e2, e3⟩ := h7 ha
  obtain ⟨-, g2, r', hr', cellV, g1, g3, g4, -⟩ := hH.2.2.2.2 b _ hb2
  have hlt : i.toNatClampNeg < w := Nat.not_le.mp fun q => hin' (Or.inr q)
  have hcls := (hK.1 ci _ hci).2
  obtain ⟨kA, comp, k1, k2, k3, -⟩ := id e3
  have hcomp : comp = (aD E).1 ci := Option.some.inj (k3.symm.trans hcls.1)
  subst hcomp
  obtain ⟨kC, hkC, -⟩ := hcls.2
  refine W.aast hx hb h1 (fun q h => by cases h) (fun h => by cases h) k1 k2 rfl hkC ⟨fun q => hin' (Or.inl q), by rw [arrV_size]; exact hlt⟩ g1 (fun q h => by rw [g4] at h; cases h) (by rw [g3]; exact hkC) (by rw [g3]; exact va_assign hcls) rfl rfl hd fun H' e1 z1 o1 => ?_
  exact K p l e Rm s m args below meth c E Qf O H' _ ls (hH.set ha hh (arAt_upd (v := .ref b) h5 e2 e3 e1) z1 o1) (va_S.put1 (s := s) (h := h) (z := z) hS ha z1 o1) hL hk hn
theorem arAt_new {E : eE} {s : State} {h : Hp} {z w : Nat} {ty : FieldType} {H H' : Heap} {cA : ClassId} {v : Value} (hH : hR E s h z H) (hsz : w < 2 ^ 31) (hv : sh E v = v) (e : H'[H.size]? = some (arrV cA w (fun _ => v))) (e2 : ArrOfT s cA ty) (e3 : va_RA s cA ty) : arAt E s z ty w (fun _ => v) H' := by
  have hf : (fun _ : Nat => v) = fun j => sh E ((fun _ : Nat => v) j) := by funext j; exact hv.symm
  rw [hf] at e
  refine ⟨_, by rw [hH.top]; exact e, e2 _ _, (fun q => by cases q), by rw [arrV_size]; exact Nat.le_refl _, by rw [arrV_size], fun j hj => arrV_read _ _ hj, fun _ => ⟨cA, rfl, e2, e3⟩⟩
theorem r_newarray {M : MD} {d mc ms pc pc' z k n : Nat} {Q : Option Value → Hp → Nat → Prop} {L S : List Value} {h : Hp} {atype : ArrayType} {w : Nat} {i : Int32} (hi : Ins M pc (.newarray atype) 2 pc') (hw : Cond.arrayClass (newarray.typeOf atype) ∈ GW) (hi0 : ¬ i < 0) (hiw : i.toNatClampNeg = w) (hlim : w ≤ 65536) (hk1 : k + 1 ≤ mc) (hn1 : n + w ≤ ms) (K : R M d mc ms Q pc' L (.ref z :: S) (hset h z (.inl (newarray.typeOf atype, w, fun _ => defaultValue (newarray.typeOf atype)))) (z + 1) (k + 1) (n + w)) : R M d mc ms Q pc L (.int i :: S) h z k n := by
  intro p l e Rm s m args below meth c E Qf O H locs ls hH hS hL hk hn
  obtain ⟨hx, hb, hml, hown, hts, hrm, hin, hK, hZ, hX, hB, hRC⟩ := id O
  obtain ⟨hd, rfl⟩ := hi
  have hcb : componentBytes (newarray.typeOf atype) ≤ 8 := by cases atype <;> decide
  refine va_newaK hx hb (hts _ hw) rfl hd rfl hi0 hiw (Nat.le_trans (Nat.mul_le_mul hlim hcb) (by decide)) (by omega) (by omega) rfl fun H1 cA e1 z1 o1 hAr hNm => ?_
  have hz0 : ad E z = H.size := hH.top
  have hst : (.ref H.size : Value) = sh E (.ref z) := by show _ = Value.ref (ad E z); rw [hz0]
  rw [hst]
  exact K p l e Rm s m args below meth c E Qf O H1 _ ls (hH.push (arAt_new hH (Nat.lt_of_le_of_lt hlim (by decide)) (by cases atype <;> rfl) e1 hAr (by cases atype <;> exact hNm)) z1 o1) (va_S.push1 hS (by omega) o1) hL hk1 hn1
theorem r_anewarray {M : MD} {d mc ms pc pc' z k n : Nat} {Q : Option Value → Hp → Nat → Prop} {L S : List Value} {h : Hp} {idx : Nat} {C : String} {w : Nat} {i : Int32} (hi : Ins M pc (.anewarray idx) 3 pc') (hw : Cond.classLink M.1.cls idx C ∈ GW) (hAO : ∀ s, XT s → va_AO C s) (hi0 : ¬ i < 0) (hiw : i.toNatClampNeg = w) (hlim : w ≤ 65536) (hk1 : k + 1 ≤ mc) (hn1 : n + w ≤ ms) (K : R M d mc ms Q pc' L (.ref z :: S) (hset h z (.inl (.object C, w, fun _ => .null))) (z + 1) (k + 1) (n + w)) : R M d mc ms Q pc L (.int i :: S) h z k n := by
  intro p l e Rm s m args below meth c E Qf O H locs ls hH hS hL hk hn
  obtain ⟨hx, hb, hml, hown, hts, hrm, hin, hK, hZ, hX, hB, hRC⟩ := id O
  obtain ⟨hd, rfl⟩ := hi
  subst hiw
  refine W.anew hx hb hown (hts _ hw) (va_AO.use (hAO s hX)) rfl hd rfl hi0 (by omega) (by omega) (by omega) fun cA kA comp f1 f2 f3 f4 => ?_
  generalize hH1 : H.push { cls := cA, slots := Array.replicate i.toNatClampNeg .null, vm := .none } = H1
  have e1 : H1[H.size]? = some (arrV cA i.toNatClampNeg (fun _ => .null)) := by rw [← hH1, Array.getElem?_push_size, ← arrV_new]
  have z1 : H1.size = H.size + 1 := by rw [← hH1, Array.size_push]
  have o1 : ∀ q : Nat, q < H.size → H1[q]? = H[q]? := fun q hq => by rw [← hH1, Array.getElem?_push, if_neg (Nat.ne_of_lt hq)]
  have hAr : ArrOfT s cA (.object C) := fun N z => ⟨(fun k h => by cases h), kA, f2, comp, f3⟩
  have hz0 : ad E z = H.size := hH.top
  have hst : (.ref H.size : Value) = sh E (.ref z) := by show _ = Value.ref (ad E z); rw [hz0]
  show W p l e Rm s m args below meth c H1 locs (k + 1) (n + i.toNatClampNeg) Qf (F0 m (pc + 3) ls (.ref H.size :: S.map (sh E)))
  rw [hst]
  exact K p l e Rm s m args below meth c E Qf O H1 _ ls (hH.push (arAt_new hH (Nat.lt_of_le_of_lt hlim (by decide)) rfl e1 hAr ⟨kA, comp, f2, f3, f4, f1⟩) z1 o1) (va_S.push1 hS (by omega) o1) hL hk1 hn1
theorem r_new {M : MD} {d mc ms pc pc' z k n : Nat} {Q : Option Value → Hp → Nat → Prop} {L S : List Value} {h : Hp} {idx ci N : Nat} {C : String} {T : u_T} {ty : Nat → FieldType} {fs : List Value} (hi : Ins M pc (.new idx) 3 pc') (hci : vwCl[ci]? = some (C, T, N)) (hw : Cond.classLink M.1.cls idx C ∈ GW ∧ Cond.instantiable C N ∈ GW ∧ Cond.initialized C ∈ GW ∧ (∀ w ∈ u_ws C T N, w ∈ GW)) (hty : ∀ k, k < N → parseFieldDescriptor (T k).2.2.1 = some (ty k)) (hfs : fs = (List.range N).map (fun j => defaultValue (ty j))) (hk1 : k + 1 ≤ mc) (hn1 : n + N ≤ ms) (K : R M d mc ms Q pc' L (.ref z :: S) (hset h z (.inr (ci, fs))) (z + 1) (k + 1) (n + N)) : R M d mc ms Q pc L S h z k n := by
  intro p l e Rm s m args below meth c E Qf O H locs ls hH hS hL hk hn
  obtain ⟨hx, hb, hml, hown, hts, hrm, hin, hK, hZ, hX, hB, hRC⟩ := id O
  obtain ⟨hd, rfl⟩ := hi
  obtain ⟨w1, w2, w3, w4⟩ := hw
  have hKn := hK.1 ci _ hci
  refine W.newcK hx hb hown (hts _ w1) (hts _ w2) (hts _ w3) rfl hd (by omega) (by omega) hKn.2.1 rfl fun H1 kC hkC e1 z1 o1 => ?_
  have hz0 : ad E z = H.size := hH.top
  have hst : (.ref H.size : Value) = sh E (.ref z) := by show _ = Value.ref (ad E z); rw [hz0]
  show W p l e Rm s m args below meth c H1 locs (k + 1) (n + N) Qf (F0 m (pc + 3) ls (.ref H.size :: S.map (sh E)))
  rw [hst]
  refine K p l e Rm s m args below meth c E Qf O H1 _ ls (hH.push ⟨hH.1, ?_⟩ z1 o1) (va_S.push1 hS (by omega) o1) hL hk1 hn1
  rw [hz0]
  refine ⟨_, hci, (u_born ty hts (fun w hw => w4 w hw) hKn hkC e1 hty).to fun j hj => ?_⟩
  subst hfs
  have hsd : ∀ t : FieldType, sh E (defaultValue t) = defaultValue t := fun t => by cases t <;> rfl
  simp [vp_V, List.getD, hj, hsd]
theorem r_objinit {M : MD} {d mc ms pc pc' z k n : Nat} {Q : Option Value → Hp → Nat → Prop} {L S : List Value} {h : Hp} {idx a : Nat} (hi : Ins M pc (.invokespecial idx) 3 pc') (hw : Cond.methodLink M.1.cls idx objectInit ∈ GW ∧ Cond.instanceMethod objectInit ∈ GW ∧ Cond.code objectInit ⟨#[0xb1]⟩ 1 none ∈ GW) (hd1 : 1 ≤ d) (hS8 : (S.map fun v => v.category).sum ≤ 8) (K : R M d mc ms Q pc' L S h z k n) : R M d mc ms Q pc L (.ref a :: S) h z k n := by
  intro p l e Rm s m args below meth c E Qf O H locs ls hH hS hL hk hn
  obtain ⟨hx, hb, hml, hown, hts, hrm, hin, hK, hZ, hX, hB, hRC⟩ := id O
  obtain ⟨hd, rfl⟩ := hi
  have hcat : ((S.map (sh E)).map fun v => v.category).sum ≤ 8 := by
    rw [List.map_map, show ((fun v : Value => v.category) ∘ sh E) = fun v => v.category from funext fun v => sh_cat E v]
    exact hS8
  refine W.objInit hx hb hown (hts _ hw.1) (hts _ hw.2.1) (hts _ hw.2.2) rfl (by rw [hml]; exact hL.1) rfl hd (by omega) ?_ (K p l e Rm s m args below meth c E Qf O H locs ls hH hS hL hk hn)
  show 2 * 0 + _ + 12 ≤ _
  omega
theorem r_getTENS {M : MD} {d mc ms pc pc' z k n : Nat} {Q : Option Value → Hp → Nat → Prop} {L S : List Value} {h : Hp} {idx : Nat} (hi : Ins M pc (.getstatic idx) 3 pc') (hw : Cond.fieldLink M.1.cls idx "UpWithSheaf" "TENS" "[J" ∈ GW) (K : R M d mc ms Q pc' L (.ref 1 :: S) h z k n) : R M d mc ms Q pc L S h z k n := by
  intro p l e Rm s m args below meth c E Qf O H locs ls hH hS hL hk hn
  obtain ⟨hx, hb, hml, hown, hts, hrm, hin, hK, hZ, hX, hB, hRC⟩ := id O
  obtain ⟨hd, rfl⟩ := hi
  exact va_gets (v := .ref E.2.1) hx hb hZ hS hown (hts _ hw) (fun _ h9 => h9) hd (K p l e Rm s m args below meth c E Qf O H locs ls hH hS hL hk hn)
theorem r_getTENSN {M : MD} {d mc ms pc pc' z k n : Nat} {Q : Option Value → Hp → Nat → Prop} {L S : List Value} {h : Hp} {idx : Nat} (hi : Ins M pc (.getstatic idx) 3 pc') (hM : M.1.cls = "UpWithSheaf$Ahead") (hidx : idx = 82) (K : R M d mc ms Q pc' L (.ref 1 :: S) h z k n) : R M d mc ms Q pc L S h z k n := by
  intro p l e Rm s m args below meth c E Qf O H locs ls hH hS hL hk hn
  obtain ⟨hx, hb, hml, hown, hts, hrm, hin, hK, hZ, hX, hB, hRC⟩ := id O
  obtain ⟨hd, rfl⟩ := hi
  subst hidx
  have h2 := hX.2.1
  rw [← hM] at h2
  exact va_getsN (v := .ref E.2.1) hx hb hZ hS hown (va_Nw.use rfl h2) (fun _ h9 => h9) hd (K p l e Rm s m args below meth c E Qf O H locs ls hH hS hL hk hn)
theorem catS {E : eE} {S : List Value} (hS8 : (S.map fun v => v.category).sum ≤ 8) : ((S.map (sh E)).map fun v => v.category).sum ≤ 8 := by
  rw [List.map_map, show ((fun v : Value => v.category) ∘ sh E) = fun v => v.category from funext fun v => sh_cat E v]
  exact hS8
theorem wld_at {E : eE} {h : Hp} {z : Nat} {s U : State} {H : Heap} {locs : List Loc} (hH : hR E s h z H) (hS : va_S (fun q => E.2.2.1 ≤ q) s.heap H locs) (hK : va_K (aD E) vwCl [] s) (hZ : va_Z "UpWithSheaf" "TENS" "[J" (.ref E.2.1) (fun q => E.2.2.1 ≤ q) s s.heap) (hX : XT s) (hU : U.heap = H) (hW : s.WarmedH U.vm) : wld E h z U := by
  refine ⟨by rw [hU]; exact hH.moved hW.alike, hK.moved hW.alike, ?_, hX.warm hW⟩
  rw [hU]
  exact (hZ.kept (H1 := H) fun a ha hna => hS.2.1 a ha hna).moved hW.alike
theorem cPc_blind (E : eE) (A : List Value) (h : Hp) (z : Nat) : FrameBlind (cPc E A h z) := by
  rintro a U g mk ⟨h1, h2, h3, h4, h5⟩
  exact ⟨h1, h2.moved (u := U) (U := U.calling g mk a) (Vm.Alike.refl U.vm), h3.moved (u := U) (U := U.calling g mk a) (Vm.Alike.refl U.vm), h4.moved (u := U) (U := U.calling g mk a) (Vm.Alike.refl U.vm), h5.same rfl⟩
theorem GW_wM {M : MD} (hc : Cond.code M.1 M.2.1 M.2.2.1 M.2.2.2 ∈ GW) : GoodIn GW (wM M) := fun w hw => by
  rcases List.mem_cons.mp hw with rfl | hw
  · exact GW_good _ hc
  · exact GW_good _ hw
theorem room_ok {d d' mc' ms' n : Nat} {Rm : Room} (hd : d' + 1 ≤ d) (hrm : d ≤ Rm.frames ∧ 48 * d ≤ Rm.locals) (hn : n ≤ 29) : (rmd d' mc' ms').frames + 1 ≤ Rm.frames ∧ 8 + (n + 11) + (rmd d' mc' ms').locals ≤ Rm.locals := by
  show d' + 1 ≤ Rm.frames ∧ 8 + (n + 11) + 48 * d' ≤ Rm.locals
  omega
/-- behind a call -/
theorem run_on {p : Program} {l : Launch} {e : Env} {Rm : Room} {s : State} {m : MethodId} {args : Array Value} {below : List Frame} {meth : Method} {c : Code} {H : Heap} {locs : List Loc} {k n mc' ms' pc : Nat} {Qf : State → Prop} {ls : Array Slot} {st0 S : List Value} {E : eE} {Q' : Option Value → Hp → Nat → Prop} {a : Array Value}
    (hr : va_Run p l e Rm s m args below meth c H locs k n mc' ms' (F0 m pc ls st0) (S.map (sh E)) (cQc E Q' a) (fun q => E.2.2.1 ≤ q)) (hS : va_S (fun q => E.2.2.1 ≤ q) s.heap H locs)
    (kk : ∀ (v : Option Value) (h' : Hp) (z' : Nat) (H1 : Heap) (locs1 : List Loc), Q' v h' z' → hR E s h' z' H1 → va_S (fun q => E.2.2.1 ≤ q) s.heap H1 locs1 → W p l e Rm s m args below meth c H1 locs1 (k + mc') (n + ms') Qf (F0 m (pc + 3) ls ((v.toList ++ S).map (sh E)))) : W p l e Rm s m args below meth c H locs k n Qf (F0 m pc ls st0) := by
  intro T hT X
  obtain ⟨v, st₀, t, T', Lc, h0, X', hLc, e1, e2, ⟨v1, h', z', hv, hq, hH1, hz, hk⟩, st⟩ := hr T hT X
  have hv1 : v = v1.map (sh E) := by injection hv
  rw [h0] at hz hk
  have hal : t.vm.Alike s.vm := by rw [← e2]; exact X'.warmed.alike.symm
  have hst : v.toList ++ S.map (sh E) = (v1.toList ++ S).map (sh E) := by rw [hv1]; cases v1 <;> rfl
  have hS1 : va_S (fun q => E.2.2.1 ≤ q) s.heap T'.heap (locs ++ Lc) := by
    refine ⟨Nat.le_trans hS.1 (by rw [e1]; exact hz), fun q g1 g2 => ?_, fun q hq => ?_⟩
    · rw [e1, hk q (Nat.lt_of_lt_of_le g1 hS.1) g2]
      exact hS.2.1 q g1 g2
    · rcases List.mem_append.mp hq with g | g
      · exact hS.2.2 q g
      · exact hLc q g
  obtain ⟨t2, a1, b1⟩ := kk v1 h' z' T'.heap (locs ++ Lc) hq (by rw [e1]; exact hH1.moved hal) hS1 T' rfl X'
  rw [hst] at st
  exact ⟨t2, st t2 a1, b1⟩
def CV (M : MD) (idx : Nat) (M' : MD) (na : Nat) : Prop := (Cond.methodLink M.1.cls idx M'.1 ∈ GW ∧ Cond.instanceMethod M'.1 ∈ GW ∧ Cond.selects M'.1.cls M'.1 M'.1 ∈ GW ∧ Cond.initialized M'.1.cls ∈ GW ∧ Cond.code M'.1 M'.2.1 M'.2.2.1 M'.2.2.2 ∈ GW) ∧ (M'.1.cls ≠ "java/lang/invoke/MethodHandle" ∧ M'.1.cls ≠ "java/lang/invoke/VarHandle" ∧ (parseMethodDescriptor M'.1.desc).map (fun d => d.parameters.length) = some na) ∧ M'.2.2.1 ≤ 29
def CS (M : MD) (idx : Nat) (M' : MD) (na : Nat) : Prop := (Cond.methodLink M.1.cls idx M'.1 ∈ GW ∧ Cond.static M'.1 ∈ GW ∧ Cond.initialized M'.1.cls ∈ GW ∧ Cond.code M'.1 M'.2.1 M'.2.2.1 M'.2.2.2 ∈ GW) ∧ (M'.1.cls ≠ "java/lang/invoke/MethodHandle" ∧ M'.1.cls ≠ "java/lang/invoke/VarHandle" ∧ (parseMethodDescriptor M'.1.desc).map (fun d => d.parameters.length) = some na) ∧ M'.2.2.1 ≤ 29
def CI (M : MD) (idx : Nat) (M' : MD) (na : Nat) : Prop := (Cond.methodLink M.1.cls idx M'.1 ∈ GW ∧ Cond.instanceMethod M'.1 ∈ GW ∧ Cond.initialized M'.1.cls ∈ GW ∧ Cond.code M'.1 M'.2.1 M'.2.2.1 M'.2.2.2 ∈ GW ∧ M'.1.name = "<init>" ∧ M'.2.2.2 = none) ∧ (M'.1.cls ≠ "java/lang/invoke/MethodHandle" ∧ M'.1.cls ≠ "java/lang/invoke/VarHandle" ∧ (parseMethodDescriptor M'.1.desc).map (fun d => d.parameters.length) = some na) ∧ M'.2.2.1 ≤ 29
def CSN (M : MD) (idx : Nat) (M' : MD) (na : Nat) : Prop := ((∃ host : String, (M.1.cls, idx, M'.1, host) ∈ NMl) ∧ Cond.static M'.1 ∈ GW ∧ Cond.initialized M'.1.cls ∈ GW ∧ Cond.code M'.1 M'.2.1 M'.2.2.1 M'.2.2.2 ∈ GW) ∧ (M'.1.cls ≠ "java/lang/invoke/MethodHandle" ∧ M'.1.cls ≠ "java/lang/invoke/VarHandle" ∧ (parseMethodDescriptor M'.1.desc).map (fun d => d.parameters.length) = some na) ∧ M'.2.2.1 ≤ 29
def CIN (M : MD) (idx : Nat) (M' : MD) (na : Nat) : Prop := ((∃ host : String, (M.1.cls, idx, M'.1, host) ∈ NMl) ∧ Cond.instanceMethod M'.1 ∈ GW ∧ Cond.initialized M'.1.cls ∈ GW ∧ Cond.code M'.1 M'.2.1 M'.2.2.1 M'.2.2.2 ∈ GW ∧ M'.1.name = "<init>" ∧ M'.2.2.2 = none) ∧ (M'.1.cls ≠ "java/lang/invoke/MethodHandle" ∧ M'.1.cls ≠ "java/lang/invoke/VarHandle" ∧ (parseMethodDescriptor M'.1.desc).map (fun d => d.parameters.length) = some na) ∧ M'.2.2.1 ≤ 29
set_option maxHeartbeats 1000000 in
theorem r_callV {M : MD} {d mc ms pc pc' z k n : Nat} {Q : Option Value → Hp → Nat → Prop} {L S : List Value} {h : Hp} {M' : MD} {d' mc' ms' idx na : Nat} {As St : List Value} {Q' : Option Value → Hp → Nat → Prop} {a : Nat} (hi : Ins M pc (.invokevirtual idx) 3 pc') (hc : CV M idx M' na) (hC : Cal M' d' mc' ms' (.ref a :: As) h z Q') (hd1 : d' + 1 ≤ d) {ci N : Nat} {T : u_T} {fs : List Value} (hh : h a = some (.inr (ci, fs))) (hci : vwCl[ci]? = some (M'.1.cls, T, N)) (hna : As.length = na) (hst : St = As.reverse ++ .ref a :: S) (hS8 : (S.map fun v => v.category).sum ≤ 8) (hk1 : k + mc' ≤ mc) (hn1 : n + ms' ≤ ms) (K : ∀ v h' z', Q' v h' z' → R M d mc ms Q pc' L (v.toList ++ S) h' z' (k + mc') (n + ms')) : R M d mc ms Q pc L St h z k n := by
  intro p l e Rm s m args below meth c E Qf O H locs ls hH hS hL hk hn
  obtain ⟨hx, hb, hml, hown, hts, hrm, hin, hK, hZ, hX, hB, hRC⟩ := id O
  obtain ⟨hd, rfl⟩ := hi
  subst hst
  obtain ⟨hw, hd3, hm29⟩ := hc
  obtain ⟨w1, w2, w3, w4, w5⟩ := hw
  have hG : GoodIn GW (wsV M.1.cls idx M'.1.cls M'.1 (wM M')) := fun w hw => by
    rcases List.mem_append.mp hw with hw | hw
    · simp only [List.mem_cons, List.not_mem_nil, or_false] at hw
      rcases hw with rfl | rfl | rfl | rfl <;> exact GW_good _ (by assumption)
    · exact GW_wM w5 w hw
  obtain ⟨-, g2, g3⟩ := hH.2.2.2.2 a _ hh
  have hrecv : ∃ cell : Cell, H[ad E a]? = some cell ∧ cell.vm.isStatics = false ∧ s.vm.findClass M'.1.cls = some cell.cls := by
    obtain ⟨r, h1, cell, q1, q2, q3, -⟩ := g3
    cases h1.symm.trans hci
    exact ⟨cell, q1, by rw [q3]; rfl, by rw [q2]; exact (hK.1 ci _ hci).2.1⟩
  exact run_on (va_runV (As := As.map (sh E)) (rest := S.map (sh E)) ⟨hx, hb, hml, hown, hts⟩ (hC l E) (cwV na hts hG rfl rfl rfl ⟨rfl, hd3⟩ (room_ok hd1 ⟨hrm.1, hrm.2.1⟩ hm29)) ⟨cPc_blind _ _ _ _, hrecv, fun U hU hW => ⟨rfl, wld_at hH hS hK hZ hX hU hW⟩⟩ rfl (by rw [List.length_map]; exact hna) hL.1 (by show List.map (sh E) _ = _; simp [List.map_append, List.map_reverse, sh]) (lv_room (catS hS8)) hd ⟨by omega, by omega⟩) hS (fun v h' z' H1 locs1 hq hH1 hS1 => K v h' z' hq p l e Rm s m args below meth c E Qf O H1 locs1 ls hH1 hS1 hL hk1 hn1)
set_option maxHeartbeats 1000000 in
theorem r_callS {M : MD} {d mc ms pc pc' z k n : Nat} {Q : Option Value → Hp → Nat → Prop} {L S : List Value} {h : Hp} {M' : MD} {d' mc' ms' idx na : Nat} {As St : List Value} {Q' : Option Value → Hp → Nat → Prop}  (hi : Ins M pc (.invokestatic idx) 3 pc') (hc : CS M idx M' na) (hC : Cal M' d' mc' ms' (As) h z Q') (hd1 : d' + 1 ≤ d)  (hna : As.length = na) (hst : St = As.reverse ++ S) (hS8 : (S.map fun v => v.category).sum ≤ 8) (hk1 : k + mc' ≤ mc) (hn1 : n + ms' ≤ ms) (K : ∀ v h' z', Q' v h' z' → R M d mc ms Q pc' L (v.toList ++ S) h' z' (k + mc') (n + ms')) : R M d mc ms Q pc L St h z k n := by
  intro p l e Rm s m args below meth c E Qf O H locs ls hH hS hL hk hn
  obtain ⟨hx, hb, hml, hown, hts, hrm, hin, hK, hZ, hX, hB, hRC⟩ := id O
  obtain ⟨hd, rfl⟩ := hi
  subst hst
  obtain ⟨hw, hd3, hm29⟩ := hc
  obtain ⟨w1, w2, w3, w5⟩ := hw
  have hG : GoodIn GW (va_wsS M.1.cls idx M'.1 (wM M')) := fun w hw => by
    rcases List.mem_append.mp hw with hw | hw
    · simp only [List.mem_cons, List.not_mem_nil, or_false] at hw
      rcases hw with rfl | rfl | rfl <;> exact GW_good _ (by assumption)
    · exact GW_wM w5 w hw
  exact run_on (va_runS (As := As.map (sh E)) (rest := S.map (sh E)) ⟨hx, hb, hml, hown, hts⟩ (hC l E) (va_cwS na hts hG rfl rfl rfl hd3 (room_ok hd1 ⟨hrm.1, hrm.2.1⟩ hm29)) ⟨cPc_blind _ _ _ _, fun U hU hW => ⟨rfl, wld_at hH hS hK hZ hX hU hW⟩⟩ rfl (by rw [List.length_map]; exact hna) hL.1 (by show List.map (sh E) _ = _; simp [List.map_append, List.map_reverse, sh]) (lv_room (catS hS8)) hd ⟨by omega, by omega⟩) hS (fun v h' z' H1 locs1 hq hH1 hS1 => K v h' z' hq p l e Rm s m args below meth c E Qf O H1 locs1 ls hH1 hS1 hL hk1 hn1)
set_option maxHeartbeats 1000000 in
theorem r_callI {M : MD} {d mc ms pc pc' z k n : Nat} {Q : Option Value → Hp → Nat → Prop} {L S : List Value} {h : Hp} {M' : MD} {d' mc' ms' idx na : Nat} {As St : List Value} {Q' : Option Value → Hp → Nat → Prop} {a : Nat} (hi : Ins M pc (.invokespecial idx) 3 pc') (hc : CI M idx M' na) (hC : Cal M' d' mc' ms' (.ref a :: As) h z Q') (hd1 : d' + 1 ≤ d)  (hna : As.length = na) (hst : St = As.reverse ++ .ref a :: S) (hS8 : (S.map fun v => v.category).sum ≤ 8) (hk1 : k + mc' ≤ mc) (hn1 : n + ms' ≤ ms) (K : ∀ v h' z', Q' v h' z' → R M d mc ms Q pc' L (v.toList ++ S) h' z' (k + mc') (n + ms')) : R M d mc ms Q pc L St h z k n := by
  intro p l e Rm s m args below meth c E Qf O H locs ls hH hS hL hk hn
  obtain ⟨hx, hb, hml, hown, hts, hrm, hin, hK, hZ, hX, hB, hRC⟩ := id O
  obtain ⟨hd, rfl⟩ := hi
  subst hst
  obtain ⟨hw, hd3, hm29⟩ := hc
  obtain ⟨w1, w2, w4, w5, w6, w7⟩ := hw
  have hws : wM M' = Cond.code M'.1 M'.2.1 M'.2.2.1 none :: GW := by unfold wM; rw [w7]
  exact run_on (va_runI (As := As.map (sh E)) (rest := S.map (sh E)) ⟨hx, hb, hml, hown, hts⟩ (hC l E) (cwI na hts (GW_wM w5) hws rfl rfl (hts _ w4) (hts _ w1) (hts _ w2) w6 hd3 (room_ok hd1 ⟨hrm.1, hrm.2.1⟩ hm29)) ⟨cPc_blind _ _ _ _, fun U hU hW => ⟨rfl, wld_at hH hS hK hZ hX hU hW⟩⟩ rfl (by rw [List.length_map]; exact hna) hL.1 (by show List.map (sh E) _ = _; simp [List.map_append, List.map_reverse, sh]) (lv_room (catS hS8)) hd ⟨by omega, by omega⟩) hS (fun v h' z' H1 locs1 hq hH1 hS1 => K v h' z' hq p l e Rm s m args below meth c E Qf O H1 locs1 ls hH1 hS1 hL hk1 hn1)
set_option maxHeartbeats 1000000 in
theorem r_callSN {M : MD} {d mc ms pc pc' z k n : Nat} {Q : Option Value → Hp → Nat → Prop} {L S : List Value} {h : Hp} {M' : MD} {d' mc' ms' idx na : Nat} {As St : List Value} {Q' : Option Value → Hp → Nat → Prop}  (hi : Ins M pc (.invokestatic idx) 3 pc') (hc : CSN M idx M' na) (hC : Cal M' d' mc' ms' (As) h z Q') (hd1 : d' + 1 ≤ d)  (hna : As.length = na) (hst : St = As.reverse ++ S) (hS8 : (S.map fun v => v.category).sum ≤ 8) (hk1 : k + mc' ≤ mc) (hn1 : n + ms' ≤ ms) (K : ∀ v h' z', Q' v h' z' → R M d mc ms Q pc' L (v.toList ++ S) h' z' (k + mc') (n + ms')) : R M d mc ms Q pc L St h z k n := by
  intro p l e Rm s m args below meth c E Qf O H locs ls hH hS hL hk hn
  obtain ⟨hx, hb, hml, hown, hts, hrm, hin, hK, hZ, hX, hB, hRC⟩ := id O
  obtain ⟨hd, rfl⟩ := hi
  subst hst
  obtain ⟨hw, hd3, hm29⟩ := hc
  obtain ⟨⟨host, w1⟩, w2, w3, w5⟩ := hw
  exact run_on (va_runSN (As := As.map (sh E)) (rest := S.map (sh E)) ⟨hx, hb, hml, hown, hts⟩ (hC l E) ⟨va_cnB na hts (GW_wM w5) rfl rfl rfl (hX.1 _ w1) (hts _ w3) hd3 (room_ok hd1 ⟨hrm.1, hrm.2.1⟩ hm29), hts _ w2, trivial⟩ ⟨cPc_blind _ _ _ _, fun U hU hW => ⟨rfl, wld_at hH hS hK hZ hX hU hW⟩⟩ rfl (by rw [List.length_map]; exact hna) hL.1 (by show List.map (sh E) _ = _; simp [List.map_append, List.map_reverse, sh]) (lv_room (catS hS8)) hd ⟨by omega, by omega⟩) hS (fun v h' z' H1 locs1 hq hH1 hS1 => K v h' z' hq p l e Rm s m args below meth c E Qf O H1 locs1 ls hH1 hS1 hL hk1 hn1)
set_option maxHeartbeats 1000000 in
theorem r_callIN {M : MD} {d mc ms pc pc' z k n : Nat} {Q : Option Value → Hp → Nat → Prop} {L S : List Value} {h : Hp} {M' : MD} {d' mc' ms' idx na : Nat} {As St : List Value} {Q' : Option Value → Hp → Nat → Prop} {a : Nat} (hi : Ins M pc (.invokespecial idx) 3 pc') (hc : CIN M idx M' na) (hC : Cal M' d' mc' ms' (.ref a :: As) h z Q') (hd1 : d' + 1 ≤ d)  (hna : As.length = na) (hst : St = As.reverse ++ .ref a :: S) (hS8 : (S.map fun v => v.category).sum ≤ 8) (hk1 : k + mc' ≤ mc) (hn1 : n + ms' ≤ ms) (K : ∀ v h' z', Q' v h' z' → R M d mc ms Q pc' L (v.toList ++ S) h' z' (k + mc') (n + ms')) : R M d mc ms Q pc L St h z k n := by
  intro p l e Rm s m args below meth c E Qf O H locs ls hH hS hL hk hn
  obtain ⟨hx, hb, hml, hown, hts, hrm, hin, hK, hZ, hX, hB, hRC⟩ := id O
  obtain ⟨hd, rfl⟩ := hi
  subst hst
  obtain ⟨hw, hd3, hm29⟩ := hc
  obtain ⟨⟨host, w1⟩, w2, w4, w5, w6, w7⟩ := hw
  have hws : wM M' = Cond.code M'.1 M'.2.1 M'.2.2.1 none :: GW := by unfold wM; rw [w7]
  exact run_on (va_runIN (As := As.map (sh E)) (rest := S.map (sh E)) ⟨hx, hb, hml, hown, hts⟩ (hC l E) ⟨va_cnB na hts (GW_wM w5) hws rfl rfl (hX.1 _ w1) (hts _ w4) hd3 (room_ok hd1 ⟨hrm.1, hrm.2.1⟩ hm29), w6, hts _ w2⟩ ⟨cPc_blind _ _ _ _, fun U hU hW => ⟨rfl, wld_at hH hS hK hZ hX hU hW⟩⟩ rfl (by rw [List.length_map]; exact hna) hL.1 (by show List.map (sh E) _ = _; simp [List.map_append, List.map_reverse, sh]) (lv_room (catS hS8)) hd ⟨by omega, by omega⟩) hS (fun v h' z' H1 locs1 hq hH1 hS1 => K v h' z' hq p l e Rm s m args below meth c E Qf O H1 locs1 ls hH1 hS1 hL hk1 hn1)
end
