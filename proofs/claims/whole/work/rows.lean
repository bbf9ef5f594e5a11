section
/-- a private method of a class that the tables say can be made, by its rows of tables_1 -/
def lw_okq (q : MethodName × Nat) : Prop := (q.1.cls ≠ "java/lang/invoke/MethodHandle" ∧ q.1.cls ≠ "java/lang/invoke/VarHandle") ∧ Cond.instantiable q.1.cls q.2 ∈ tables_1 ∧ Cond.privateMethod q.1 ∈ tables_1 ∧ Cond.instanceMethod q.1 ∈ tables_1
theorem lw_p0 : lw_okq (⟨"UpWithSheaf$Text", "figureAt", "(I)I"⟩, 2) := ⟨⟨by decide +kernel, by decide +kernel⟩, List.mem_of_getElem? (i := 20) (by decide +kernel), List.mem_of_getElem? (i := 211) (by decide +kernel), List.mem_of_getElem? (i := 212) (by decide +kernel)⟩
theorem lw_p1 : lw_okq (⟨"UpWithSheaf$Contest", "nextBehind", "(I)I"⟩, 4) := ⟨⟨by decide +kernel, by decide +kernel⟩, List.mem_of_getElem? (i := 35) (by decide +kernel), List.mem_of_getElem? (i := 224) (by decide +kernel), List.mem_of_getElem? (i := 225) (by decide +kernel)⟩
theorem lw_p2 : lw_okq (⟨"UpWithSheaf", "act", "(I)I"⟩, 9) := ⟨⟨by decide +kernel, by decide +kernel⟩, List.mem_of_getElem? (i := 12) (by decide +kernel), List.mem_of_getElem? (i := 281) (by decide +kernel), List.mem_of_getElem? (i := 282) (by decide +kernel)⟩
theorem lw_p3 : lw_okq (⟨"UpWithSheaf$Contest", "raise", "()V"⟩, 4) := ⟨⟨by decide +kernel, by decide +kernel⟩, List.mem_of_getElem? (i := 35) (by decide +kernel), List.mem_of_getElem? (i := 321) (by decide +kernel), List.mem_of_getElem? (i := 322) (by decide +kernel)⟩
theorem lw_p4 : lw_okq (⟨"UpWithSheaf", "refusalAhead", "(II)I"⟩, 9) := ⟨⟨by decide +kernel, by decide +kernel⟩, List.mem_of_getElem? (i := 12) (by decide +kernel), List.mem_of_getElem? (i := 377) (by decide +kernel), List.mem_of_getElem? (i := 378) (by decide +kernel)⟩
theorem lw_p5 : lw_okq (⟨"UpWithSheaf$Sheets", "outHere", "(I)I"⟩, 2) := ⟨⟨by decide +kernel, by decide +kernel⟩, List.mem_of_getElem? (i := 125) (by decide +kernel), List.mem_of_getElem? (i := 436) (by decide +kernel), List.mem_of_getElem? (i := 437) (by decide +kernel)⟩
theorem lw_p6 : lw_okq (⟨"UpWithSheaf$Sheets", "goOn", "(ZZ)V"⟩, 2) := ⟨⟨by decide +kernel, by decide +kernel⟩, List.mem_of_getElem? (i := 125) (by decide +kernel), List.mem_of_getElem? (i := 440) (by decide +kernel), List.mem_of_getElem? (i := 441) (by decide +kernel)⟩
theorem lw_p7 : lw_okq (⟨"UpWithSheafModel", "fits", "(I)Z"⟩, 17) := ⟨⟨by decide +kernel, by decide +kernel⟩, List.mem_of_getElem? (i := 482) (by decide +kernel), List.mem_of_getElem? (i := 558) (by decide +kernel), List.mem_of_getElem? (i := 559) (by decide +kernel)⟩
theorem lw_p8 : lw_okq (⟨"UpWithSheafModel", "isThrower", "(I)Z"⟩, 17) := ⟨⟨by decide +kernel, by decide +kernel⟩, List.mem_of_getElem? (i := 482) (by decide +kernel), List.mem_of_getElem? (i := 574) (by decide +kernel), List.mem_of_getElem? (i := 575) (by decide +kernel)⟩
theorem lw_p9 : lw_okq (⟨"UpWithSheafModel", "mark", "(III)I"⟩, 17) := ⟨⟨by decide +kernel, by decide +kernel⟩, List.mem_of_getElem? (i := 482) (by decide +kernel), List.mem_of_getElem? (i := 578) (by decide +kernel), List.mem_of_getElem? (i := 579) (by decide +kernel)⟩
theorem lw_p10 : lw_okq (⟨"UpWithSheafModel", "rankOf", "(II)I"⟩, 17) := ⟨⟨by decide +kernel, by decide +kernel⟩, List.mem_of_getElem? (i := 482) (by decide +kernel), List.mem_of_getElem? (i := 590) (by decide +kernel), List.mem_of_getElem? (i := 591) (by decide +kernel)⟩
theorem lw_p11 : lw_okq (⟨"UpWithSheafModel", "valueOf", "(II)I"⟩, 17) := ⟨⟨by decide +kernel, by decide +kernel⟩, List.mem_of_getElem? (i := 482) (by decide +kernel), List.mem_of_getElem? (i := 594) (by decide +kernel), List.mem_of_getElem? (i := 595) (by decide +kernel)⟩
theorem lw_p12 : lw_okq (⟨"UpWithSheafModel", "oddsOf", "(III)I"⟩, 17) := ⟨⟨by decide +kernel, by decide +kernel⟩, List.mem_of_getElem? (i := 482) (by decide +kernel), List.mem_of_getElem? (i := 607) (by decide +kernel), List.mem_of_getElem? (i := 608) (by decide +kernel)⟩
theorem lw_p13 : lw_okq (⟨"UpWithSheafModel", "act", "(I)I"⟩, 17) := ⟨⟨by decide +kernel, by decide +kernel⟩, List.mem_of_getElem? (i := 482) (by decide +kernel), List.mem_of_getElem? (i := 615) (by decide +kernel), List.mem_of_getElem? (i := 616) (by decide +kernel)⟩
theorem lw_p14 : lw_okq (⟨"UpWithSheafModel", "keepAct", "()V"⟩, 17) := ⟨⟨by decide +kernel, by decide +kernel⟩, List.mem_of_getElem? (i := 482) (by decide +kernel), List.mem_of_getElem? (i := 619) (by decide +kernel), List.mem_of_getElem? (i := 620) (by decide +kernel)⟩
theorem lw_p15 : lw_okq (⟨"UpWithSheafModel", "make", "(II)V"⟩, 17) := ⟨⟨by decide +kernel, by decide +kernel⟩, List.mem_of_getElem? (i := 482) (by decide +kernel), List.mem_of_getElem? (i := 623) (by decide +kernel), List.mem_of_getElem? (i := 624) (by decide +kernel)⟩
def lw_privs_1 : List (MethodName × Nat) := [(⟨"UpWithSheaf$Text", "figureAt", "(I)I"⟩, 2), (⟨"UpWithSheaf$Contest", "nextBehind", "(I)I"⟩, 4), (⟨"UpWithSheaf", "act", "(I)I"⟩, 9), (⟨"UpWithSheaf$Contest", "raise", "()V"⟩, 4), (⟨"UpWithSheaf", "refusalAhead", "(II)I"⟩, 9), (⟨"UpWithSheaf$Sheets", "outHere", "(I)I"⟩, 2), (⟨"UpWithSheaf$Sheets", "goOn", "(ZZ)V"⟩, 2), (⟨"UpWithSheafModel", "fits", "(I)Z"⟩, 17), (⟨"UpWithSheafModel", "isThrower", "(I)Z"⟩, 17), (⟨"UpWithSheafModel", "mark", "(III)I"⟩, 17), (⟨"UpWithSheafModel", "rankOf", "(II)I"⟩, 17), (⟨"UpWithSheafModel", "valueOf", "(II)I"⟩, 17), (⟨"UpWithSheafModel", "oddsOf", "(III)I"⟩, 17), (⟨"UpWithSheafModel", "act", "(I)I"⟩, 17), (⟨"UpWithSheafModel", "keepAct", "()V"⟩, 17), (⟨"UpWithSheafModel", "make", "(II)V"⟩, 17)]
theorem lw_r1 : ∀ q ∈ lw_privs_1, lw_okq q := List.forall_mem_cons.mpr ⟨lw_p0, List.forall_mem_cons.mpr ⟨lw_p1, List.forall_mem_cons.mpr ⟨lw_p2, List.forall_mem_cons.mpr ⟨lw_p3, List.forall_mem_cons.mpr ⟨lw_p4, List.forall_mem_cons.mpr ⟨lw_p5, List.forall_mem_cons.mpr ⟨lw_p6, List.forall_mem_cons.mpr ⟨lw_p7, List.forall_mem_cons.mpr ⟨lw_p8, List.forall_mem_cons.mpr ⟨lw_p9, List.forall_mem_cons.mpr ⟨lw_p10, List.forall_mem_cons.mpr ⟨lw_p11, List.forall_mem_cons.mpr ⟨lw_p12, List.forall_mem_cons.mpr ⟨lw_p13, List.forall_mem_cons.mpr ⟨lw_p14, List.forall_mem_cons.mpr ⟨lw_p15, fun _ h => absurd h List.not_mem_nil⟩⟩⟩⟩⟩⟩⟩⟩⟩⟩⟩⟩⟩⟩⟩⟩
theorem lw_p16 : lw_okq (⟨"UpWithSheafModel", "set", "(IIII)V"⟩, 17) := ⟨⟨by decide +kernel, by decide +kernel⟩, List.mem_of_getElem? (i := 482) (by decide +kernel), List.mem_of_getElem? (i := 627) (by decide +kernel), List.mem_of_getElem? (i := 628) (by decide +kernel)⟩
theorem lw_p17 : lw_okq (⟨"UpWithSheafModel", "goOn", "(I)V"⟩, 17) := ⟨⟨by decide +kernel, by decide +kernel⟩, List.mem_of_getElem? (i := 482) (by decide +kernel), List.mem_of_getElem? (i := 631) (by decide +kernel), List.mem_of_getElem? (i := 632) (by decide +kernel)⟩
theorem lw_p18 : lw_okq (⟨"UpWithSheafModel", "nextIn", "(II)I"⟩, 17) := ⟨⟨by decide +kernel, by decide +kernel⟩, List.mem_of_getElem? (i := 482) (by decide +kernel), List.mem_of_getElem? (i := 635) (by decide +kernel), List.mem_of_getElem? (i := 636) (by decide +kernel)⟩
theorem lw_p19 : lw_okq (⟨"UpWithSheafModel", "copyNow", "()V"⟩, 17) := ⟨⟨by decide +kernel, by decide +kernel⟩, List.mem_of_getElem? (i := 482) (by decide +kernel), List.mem_of_getElem? (i := 655) (by decide +kernel), List.mem_of_getElem? (i := 656) (by decide +kernel)⟩
theorem lw_p20 : lw_okq (⟨"UpWithSheafModel", "isOut", "(I)Z"⟩, 17) := ⟨⟨by decide +kernel, by decide +kernel⟩, List.mem_of_getElem? (i := 482) (by decide +kernel), List.mem_of_getElem? (i := 663) (by decide +kernel), List.mem_of_getElem? (i := 664) (by decide +kernel)⟩
theorem lw_p21 : lw_okq (⟨"UpWithSheafModel", "clearsOf", "(I)I"⟩, 17) := ⟨⟨by decide +kernel, by decide +kernel⟩, List.mem_of_getElem? (i := 482) (by decide +kernel), List.mem_of_getElem? (i := 667) (by decide +kernel), List.mem_of_getElem? (i := 668) (by decide +kernel)⟩
theorem lw_p22 : lw_okq (⟨"UpWithSheafModel", "refused", "(II)I"⟩, 17) := ⟨⟨by decide +kernel, by decide +kernel⟩, List.mem_of_getElem? (i := 482) (by decide +kernel), List.mem_of_getElem? (i := 679) (by decide +kernel), List.mem_of_getElem? (i := 680) (by decide +kernel)⟩
theorem lw_p23 : lw_okq (⟨"UpWithSheafModel", "layMeans", "(II)V"⟩, 17) := ⟨⟨by decide +kernel, by decide +kernel⟩, List.mem_of_getElem? (i := 482) (by decide +kernel), List.mem_of_getElem? (i := 684) (by decide +kernel), List.mem_of_getElem? (i := 685) (by decide +kernel)⟩
theorem lw_p24 : lw_okq (⟨"UpWithSheafModel", "layMean", "(IIIII)V"⟩, 17) := ⟨⟨by decide +kernel, by decide +kernel⟩, List.mem_of_getElem? (i := 482) (by decide +kernel), List.mem_of_getElem? (i := 691) (by decide +kernel), List.mem_of_getElem? (i := 692) (by decide +kernel)⟩
theorem lw_p25 : lw_okq (⟨"UpWithSheafModel", "partsOf", "(III)J"⟩, 17) := ⟨⟨by decide +kernel, by decide +kernel⟩, List.mem_of_getElem? (i := 482) (by decide +kernel), List.mem_of_getElem? (i := 703) (by decide +kernel), List.mem_of_getElem? (i := 704) (by decide +kernel)⟩
theorem lw_p26 : lw_okq (⟨"UpWithSheafModel", "winners", "(I)I"⟩, 17) := ⟨⟨by decide +kernel, by decide +kernel⟩, List.mem_of_getElem? (i := 482) (by decide +kernel), List.mem_of_getElem? (i := 728) (by decide +kernel), List.mem_of_getElem? (i := 729) (by decide +kernel)⟩
theorem lw_p27 : lw_okq (⟨"UpWithSheafModel", "those", "(I)I"⟩, 17) := ⟨⟨by decide +kernel, by decide +kernel⟩, List.mem_of_getElem? (i := 482) (by decide +kernel), List.mem_of_getElem? (i := 744) (by decide +kernel), List.mem_of_getElem? (i := 745) (by decide +kernel)⟩
def lw_privs_2 : List (MethodName × Nat) := [(⟨"UpWithSheafModel", "set", "(IIII)V"⟩, 17), (⟨"UpWithSheafModel", "goOn", "(I)V"⟩, 17), (⟨"UpWithSheafModel", "nextIn", "(II)I"⟩, 17), (⟨"UpWithSheafModel", "copyNow", "()V"⟩, 17), (⟨"UpWithSheafModel", "isOut", "(I)Z"⟩, 17), (⟨"UpWithSheafModel", "clearsOf", "(I)I"⟩, 17), (⟨"UpWithSheafModel", "refused", "(II)I"⟩, 17), (⟨"UpWithSheafModel", "layMeans", "(II)V"⟩, 17), (⟨"UpWithSheafModel", "layMean", "(IIIII)V"⟩, 17), (⟨"UpWithSheafModel", "partsOf", "(III)J"⟩, 17), (⟨"UpWithSheafModel", "winners", "(I)I"⟩, 17), (⟨"UpWithSheafModel", "those", "(I)I"⟩, 17)]
theorem lw_r2 : ∀ q ∈ lw_privs_2, lw_okq q := List.forall_mem_cons.mpr ⟨lw_p16, List.forall_mem_cons.mpr ⟨lw_p17, List.forall_mem_cons.mpr ⟨lw_p18, List.forall_mem_cons.mpr ⟨lw_p19, List.forall_mem_cons.mpr ⟨lw_p20, List.forall_mem_cons.mpr ⟨lw_p21, List.forall_mem_cons.mpr ⟨lw_p22, List.forall_mem_cons.mpr ⟨lw_p23, List.forall_mem_cons.mpr ⟨lw_p24, List.forall_mem_cons.mpr ⟨lw_p25, List.forall_mem_cons.mpr ⟨lw_p26, List.forall_mem_cons.mpr ⟨lw_p27, fun _ h => absurd h List.not_mem_nil⟩⟩⟩⟩⟩⟩⟩⟩⟩⟩⟩⟩
def lw_privs : List (MethodName × Nat) := lw_privs_1 ++ (lw_privs_2)
def lw_tbl : List Cond := k2_sels lw_privs ++ tables_1
theorem lw_privs_ok : ∀ q ∈ lw_privs, lw_okq q := by
  show ∀ q ∈ lw_privs_1 ++ (lw_privs_2), lw_okq q
  exact List.forall_mem_append.mpr ⟨lw_r1, lw_r2⟩

def RX0 : String := "UpWithSheaf$Acts"
def TX0 : u_T := fun k => match k with
  | 0 => ("UpWithSheaf$Acts", "ahead", "[LUpWithSheaf$Contest;", true)
  | 1 => ("UpWithSheaf$Acts", "size", "I", false)
  | _ => ("UpWithSheaf$Acts", "next", "I", false)
def tyX0 : Nat → FieldType := fun k => match k with
  | 0 => .array (.object "UpWithSheaf$Contest")
  | 1 => .int
  | _ => .int
abbrev wsX00 : List Cond := u_ws RX0 TX0 3
theorem nmX0 : ∀ a, a < 3 → ∀ b, b < 3 → a ≠ b → (TX0 a).2.1 ≠ (TX0 b).2.1 := by decide +kernel
theorem tyX0_ok : ∀ k, k < 3 → parseFieldDescriptor (TX0 k).2.2.1 = some (tyX0 k) := by decide +kernel
abbrev cX0_init : ByteArray := prog_2_method_1_code
def yX0_init : MethodName := ⟨RX0, "<init>", "()V"⟩
abbrev cX0_forget : ByteArray := prog_2_method_2_code
def yX0_forget : MethodName := ⟨RX0, "forget", "()V"⟩
abbrev cX0_remember : ByteArray := prog_2_method_3_code
def yX0_remember : MethodName := ⟨RX0, "remember", "(LUpWithSheaf$Contest;)V"⟩
abbrev cX0_takeBack : ByteArray := prog_2_method_4_code
def yX0_takeBack : MethodName := ⟨RX0, "takeBack", "(LUpWithSheaf$Contest;)V"⟩
def RX1 : String := "UpWithSheaf$Ahead"
def TX1 : u_T := fun k => match k with
  | _ => ("", "", "", false)
def tyX1 : Nat → FieldType := fun k => match k with
  | _ => .int
abbrev wsX10 : List Cond := u_ws RX1 TX1 0
theorem nmX1 : ∀ a, a < 0 → ∀ b, b < 0 → a ≠ b → (TX1 a).2.1 ≠ (TX1 b).2.1 := by decide +kernel
theorem tyX1_ok : ∀ k, k < 0 → parseFieldDescriptor (TX1 k).2.2.1 = some (tyX1 k) := by decide +kernel
abbrev cX1_wholeOf : ByteArray := prog_3_method_2_code
def yX1_wholeOf : MethodName := ⟨RX1, "wholeOf", "(LUpWithSheaf$Thrower;)J"⟩
abbrev cX1_failing : ByteArray := prog_3_method_3_code
def yX1_failing : MethodName := ⟨RX1, "failing", "(LUpWithSheaf$Thrower;I)J"⟩
abbrev cX1_greatest : ByteArray := prog_3_method_4_code
def yX1_greatest : MethodName := ⟨RX1, "greatest", "(LUpWithSheaf$Thrower;IIIIII)J"⟩
abbrev cX1_byTrying : ByteArray := prog_3_method_5_code
def yX1_byTrying : MethodName := ⟨RX1, "byTrying", "(LUpWithSheaf$Thrower;IIIIII)J"⟩
abbrev cX1_bySparing : ByteArray := prog_3_method_6_code
def yX1_bySparing : MethodName := ⟨RX1, "bySparing", "(LUpWithSheaf$Thrower;IIIIII)J"⟩
abbrev cX1_unbeaten : ByteArray := prog_3_method_7_code
def yX1_unbeaten : MethodName := ⟨RX1, "unbeaten", "(LUpWithSheaf$Contest;I[LUpWithSheaf$Thrower;III)J"⟩
abbrev cX1_noOtherBeats : ByteArray := prog_3_method_8_code
def yX1_noOtherBeats : MethodName := ⟨RX1, "noOtherBeats", "(LUpWithSheaf$Contest;ILUpWithSheaf$Thrower;)Z"⟩
abbrev cX1_unitsLeft : ByteArray := prog_3_method_9_code
def yX1_unitsLeft : MethodName := ⟨RX1, "unitsLeft", "(I)J"⟩
def RX2 : String := "UpWithSheaf$Contest"
def TX2 : u_T := fun k => match k with
  | 0 => ("UpWithSheaf$Contest", "throwers", "[LUpWithSheaf$Thrower;", true)
  | 1 => ("UpWithSheaf$Contest", "size", "I", false)
  | 2 => ("UpWithSheaf$Contest", "bar", "I", false)
  | _ => ("UpWithSheaf$Contest", "turn", "I", false)
def tyX2 : Nat → FieldType := fun k => match k with
  | 0 => .array (.object "UpWithSheaf$Thrower")
  | 1 => .int
  | 2 => .int
  | _ => .int
abbrev wsX20 : List Cond := u_ws RX2 TX2 4
theorem nmX2 : ∀ a, a < 4 → ∀ b, b < 4 → a ≠ b → (TX2 a).2.1 ≠ (TX2 b).2.1 := by decide +kernel
theorem tyX2_ok : ∀ k, k < 4 → parseFieldDescriptor (TX2 k).2.2.1 = some (tyX2 k) := by decide +kernel
abbrev cX2_init : ByteArray := prog_4_method_1_code
def yX2_init : MethodName := ⟨RX2, "<init>", "()V"⟩
abbrev cX2_startFrom : ByteArray := prog_4_method_2_code
def yX2_startFrom : MethodName := ⟨RX2, "startFrom", "(LUpWithSheaf$Text;)V"⟩
abbrev cX2_copyFrom : ByteArray := prog_4_method_3_code
def yX2_copyFrom : MethodName := ⟨RX2, "copyFrom", "(LUpWithSheaf$Contest;)V"⟩
abbrev cX2_knows : ByteArray := prog_4_method_4_code
def yX2_knows : MethodName := ⟨RX2, "knows", "(I)Z"⟩
abbrev cX2_isEnded : ByteArray := prog_4_method_5_code
def yX2_isEnded : MethodName := ⟨RX2, "isEnded", "()Z"⟩
abbrev cX2_act : ByteArray := prog_4_method_6_code
def yX2_act : MethodName := ⟨RX2, "act", "(I)V"⟩
abbrev cX2_raise : ByteArray := prog_4_method_7_code
def yX2_raise : MethodName := ⟨RX2, "raise", "()V"⟩
abbrev cX2_nextBehind : ByteArray := prog_4_method_8_code
def yX2_nextBehind : MethodName := ⟨RX2, "nextBehind", "(I)I"⟩
abbrev cX2_oddsOfTurn : ByteArray := prog_4_method_9_code
def yX2_oddsOfTurn : MethodName := ⟨RX2, "oddsOfTurn", "()I"⟩
abbrev cX2_betterThan : ByteArray := prog_4_method_10_code
def yX2_betterThan : MethodName := ⟨RX2, "betterThan", "(LUpWithSheaf$Thrower;)I"⟩
abbrev cX2_leaders : ByteArray := prog_4_method_11_code
def yX2_leaders : MethodName := ⟨RX2, "leaders", "()I"⟩
abbrev cX2_who : ByteArray := prog_4_method_12_code
def yX2_who : MethodName := ⟨RX2, "who", "(I)I"⟩
abbrev cX2_notOut : ByteArray := prog_4_method_13_code
def yX2_notOut : MethodName := ⟨RX2, "notOut", "()I"⟩
def RX3 : String := "UpWithSheaf$Sheets"
def TX3 : u_T := fun k => match k with
  | 0 => ("UpWithSheaf$Sheets", "ways", "[[I", true)
  | _ => ("UpWithSheaf$Sheets", "then", "[[I", true)
def tyX3 : Nat → FieldType := fun k => match k with
  | 0 => .array (.array .int)
  | _ => .array (.array .int)
abbrev wsX30 : List Cond := u_ws RX3 TX3 2
theorem nmX3 : ∀ a, a < 2 → ∀ b, b < 2 → a ≠ b → (TX3 a).2.1 ≠ (TX3 b).2.1 := by decide +kernel
theorem tyX3_ok : ∀ k, k < 2 → parseFieldDescriptor (TX3 k).2.2.1 = some (tyX3 k) := by decide +kernel
abbrev cX3_init : ByteArray := prog_5_method_1_code
def yX3_init : MethodName := ⟨RX3, "<init>", "()V"⟩
abbrev cX3_such : ByteArray := prog_5_method_2_code
def yX3_such : MethodName := ⟨RX3, "such", "(III)I"⟩
abbrev cX3_outHere : ByteArray := prog_5_method_3_code
def yX3_outHere : MethodName := ⟨RX3, "outHere", "(I)I"⟩
abbrev cX3_goOn : ByteArray := prog_5_method_4_code
def yX3_goOn : MethodName := ⟨RX3, "goOn", "(ZZ)V"⟩
abbrev cX3_empty : ByteArray := prog_5_method_5_code
def yX3_empty : MethodName := ⟨RX3, "empty", "([[I)V"⟩
def RX4 : String := "UpWithSheaf$Text"
def TX4 : u_T := fun k => match k with
  | 0 => ("UpWithSheaf$Text", "bytes", "[I", true)
  | _ => ("UpWithSheaf$Text", "length", "I", false)
def tyX4 : Nat → FieldType := fun k => match k with
  | 0 => .array .int
  | _ => .int
abbrev wsX40 : List Cond := u_ws RX4 TX4 2
theorem nmX4 : ∀ a, a < 2 → ∀ b, b < 2 → a ≠ b → (TX4 a).2.1 ≠ (TX4 b).2.1 := by decide +kernel
theorem tyX4_ok : ∀ k, k < 2 → parseFieldDescriptor (TX4 k).2.2.1 = some (tyX4 k) := by decide +kernel
abbrev cX4_init : ByteArray := prog_6_method_1_code
def yX4_init : MethodName := ⟨RX4, "<init>", "()V"⟩
abbrev cX4_append : ByteArray := prog_6_method_2_code
def yX4_append : MethodName := ⟨RX4, "append", "(IJ)V"⟩
abbrev cX4_firstFault : ByteArray := prog_6_method_3_code
def yX4_firstFault : MethodName := ⟨RX4, "firstFault", "()I"⟩
abbrev cX4_canStand : ByteArray := prog_6_method_4_code
def yX4_canStand : MethodName := ⟨RX4, "canStand", "(II)Z"⟩
abbrev cX4_throwersTold : ByteArray := prog_6_method_5_code
def yX4_throwersTold : MethodName := ⟨RX4, "throwersTold", "()I"⟩
abbrev cX4_barTold : ByteArray := prog_6_method_6_code
def yX4_barTold : MethodName := ⟨RX4, "barTold", "()I"⟩
abbrev cX4_strengthTold : ByteArray := prog_6_method_7_code
def yX4_strengthTold : MethodName := ⟨RX4, "strengthTold", "(I)I"⟩
abbrev cX4_windTold : ByteArray := prog_6_method_8_code
def yX4_windTold : MethodName := ⟨RX4, "windTold", "(I)I"⟩
abbrev cX4_figureAt : ByteArray := prog_6_method_9_code
def yX4_figureAt : MethodName := ⟨RX4, "figureAt", "(I)I"⟩
def RX5 : String := "UpWithSheaf$Thrower"
def TX5 : u_T := fun k => match k with
  | 0 => ("UpWithSheaf$Thrower", "strength", "I", false)
  | 1 => ("UpWithSheaf$Thrower", "wind", "I", false)
  | 2 => ("UpWithSheaf$Thrower", "tries", "I", false)
  | 3 => ("UpWithSheaf$Thrower", "running", "I", false)
  | 4 => ("UpWithSheaf$Thrower", "best", "I", false)
  | 5 => ("UpWithSheaf$Thrower", "there", "I", false)
  | 6 => ("UpWithSheaf$Thrower", "misses", "I", false)
  | 7 => ("UpWithSheaf$Thrower", "how", "I", false)
  | _ => ("UpWithSheaf$Thrower", "here", "I", false)
def tyX5 : Nat → FieldType := fun k => match k with
  | 0 => .int
  | 1 => .int
  | 2 => .int
  | 3 => .int
  | 4 => .int
  | 5 => .int
  | 6 => .int
  | 7 => .int
  | _ => .int
abbrev wsX50 : List Cond := u_ws RX5 TX5 9
theorem nmX5 : ∀ a, a < 9 → ∀ b, b < 9 → a ≠ b → (TX5 a).2.1 ≠ (TX5 b).2.1 := by decide +kernel
theorem tyX5_ok : ∀ k, k < 9 → parseFieldDescriptor (TX5 k).2.2.1 = some (tyX5 k) := by decide +kernel
abbrev cX5_init : ByteArray := prog_7_method_1_code
def yX5_init : MethodName := ⟨RX5, "<init>", "()V"⟩
abbrev cX5_start : ByteArray := prog_7_method_2_code
def yX5_start : MethodName := ⟨RX5, "start", "(II)V"⟩
abbrev cX5_copyFrom : ByteArray := prog_7_method_3_code
def yX5_copyFrom : MethodName := ⟨RX5, "copyFrom", "(LUpWithSheaf$Thrower;)V"⟩
abbrev cX5_isOut : ByteArray := prog_7_method_4_code
def yX5_isOut : MethodName := ⟨RX5, "isOut", "()Z"⟩
abbrev cX5_mayTry : ByteArray := prog_7_method_5_code
def yX5_mayTry : MethodName := ⟨RX5, "mayTry", "()Z"⟩
abbrev cX5_attempt : ByteArray := prog_7_method_6_code
def yX5_attempt : MethodName := ⟨RX5, "attempt", "(ZI)V"⟩
abbrev cX5_rest : ByteArray := prog_7_method_7_code
def yX5_rest : MethodName := ⟨RX5, "rest", "()V"⟩
abbrev cX5_startHeight : ByteArray := prog_7_method_8_code
def yX5_startHeight : MethodName := ⟨RX5, "startHeight", "()V"⟩
abbrev cX5_oddsAt : ByteArray := prog_7_method_9_code
def yX5_oddsAt : MethodName := ⟨RX5, "oddsAt", "(II)I"⟩
abbrev cX5_isBetterThan : ByteArray := prog_7_method_10_code
def yX5_isBetterThan : MethodName := ⟨RX5, "isBetterThan", "(LUpWithSheaf$Thrower;)Z"⟩
abbrev cX5_told : ByteArray := prog_7_method_11_code
def yX5_told : MethodName := ⟨RX5, "told", "(I)I"⟩
def RX6 : String := "UpWithSheaf"
def TX6 : u_T := fun k => match k with
  | 0 => ("UpWithSheaf", "text", "LUpWithSheaf$Text;", true)
  | 1 => ("UpWithSheaf", "contest", "LUpWithSheaf$Contest;", true)
  | 2 => ("UpWithSheaf", "tried", "LUpWithSheaf$Contest;", true)
  | 3 => ("UpWithSheaf", "acts", "LUpWithSheaf$Acts;", true)
  | 4 => ("UpWithSheaf", "slots", "[LUpWithSheaf$Contest;", true)
  | 5 => ("UpWithSheaf", "isKept", "[Z", true)
  | 6 => ("UpWithSheaf", "path", "[LUpWithSheaf$Thrower;", true)
  | 7 => ("UpWithSheaf", "counter", "LUpWithSheaf$Sheets;", true)
  | _ => ("UpWithSheaf", "theSeed", "J", false)
def tyX6 : Nat → FieldType := fun k => match k with
  | 0 => .object "UpWithSheaf$Text"
  | 1 => .object "UpWithSheaf$Contest"
  | 2 => .object "UpWithSheaf$Contest"
  | 3 => .object "UpWithSheaf$Acts"
  | 4 => .array (.object "UpWithSheaf$Contest")
  | 5 => .array .boolean
  | 6 => .array (.object "UpWithSheaf$Thrower")
  | 7 => .object "UpWithSheaf$Sheets"
  | _ => .long
abbrev wsX60 : List Cond := u_ws RX6 TX6 9
theorem nmX6 : ∀ a, a < 9 → ∀ b, b < 9 → a ≠ b → (TX6 a).2.1 ≠ (TX6 b).2.1 := by decide +kernel
theorem tyX6_ok : ∀ k, k < 9 → parseFieldDescriptor (TX6 k).2.2.1 = some (tyX6 k) := by decide +kernel
abbrev cX6_init : ByteArray := prog_1_method_1_code
def yX6_init : MethodName := ⟨RX6, "<init>", "()V"⟩
abbrev cX6_write : ByteArray := prog_1_method_2_code
def yX6_write : MethodName := ⟨RX6, "write", "(IJ)I"⟩
abbrev cX6_wipe : ByteArray := prog_1_method_3_code
def yX6_wipe : MethodName := ⟨RX6, "wipe", "()I"⟩
abbrev cX6_fault : ByteArray := prog_1_method_4_code
def yX6_fault : MethodName := ⟨RX6, "fault", "()I"⟩
abbrev cX6_field : ByteArray := prog_1_method_5_code
def yX6_field : MethodName := ⟨RX6, "field", "()I"⟩
abbrev cX6_thrower : ByteArray := prog_1_method_6_code
def yX6_thrower : MethodName := ⟨RX6, "thrower", "(II)I"⟩
abbrev cX6_on : ByteArray := prog_1_method_7_code
def yX6_on : MethodName := ⟨RX6, "on", "()I"⟩
abbrev cX6_rank : ByteArray := prog_1_method_8_code
def yX6_rank : MethodName := ⟨RX6, "rank", "(I)I"⟩
abbrev cX6_odds : ByteArray := prog_1_method_9_code
def yX6_odds : MethodName := ⟨RX6, "odds", "(II)I"⟩
abbrev cX6_toss : ByteArray := prog_1_method_10_code
def yX6_toss : MethodName := ⟨RX6, "toss", "(Z)I"⟩
abbrev cX6_spare : ByteArray := prog_1_method_11_code
def yX6_spare : MethodName := ⟨RX6, "spare", "()I"⟩
abbrev cX6_act : ByteArray := prog_1_method_12_code
def yX6_act : MethodName := ⟨RX6, "act", "(I)I"⟩
abbrev cX6_undo : ByteArray := prog_1_method_13_code
def yX6_undo : MethodName := ⟨RX6, "undo", "()I"⟩
abbrev cX6_judge : ByteArray := prog_1_method_14_code
def yX6_judge : MethodName := ⟨RX6, "judge", "(II)I"⟩
abbrev cX6_figureOf : ByteArray := prog_1_method_15_code
def yX6_figureOf : MethodName := ⟨RX6, "figureOf", "(II)I"⟩
abbrev cX6_clears : ByteArray := prog_1_method_16_code
def yX6_clears : MethodName := ⟨RX6, "clears", "(IZ)I"⟩
abbrev cX6_mean : ByteArray := prog_1_method_17_code
def yX6_mean : MethodName := ⟨RX6, "mean", "(IIZ)J"⟩
abbrev cX6_wise : ByteArray := prog_1_method_18_code
def yX6_wise : MethodName := ⟨RX6, "wise", "(II)I"⟩
abbrev cX6_first : ByteArray := prog_1_method_19_code
def yX6_first : MethodName := ⟨RX6, "first", "(IIZ)J"⟩
abbrev cX6_alone : ByteArray := prog_1_method_20_code
def yX6_alone : MethodName := ⟨RX6, "alone", "(IIZ)I"⟩
abbrev cX6_refusalAhead : ByteArray := prog_1_method_21_code
def yX6_refusalAhead : MethodName := ⟨RX6, "refusalAhead", "(II)I"⟩
abbrev cX6_leastTerms : ByteArray := prog_1_method_22_code
def yX6_leastTerms : MethodName := ⟨RX6, "leastTerms", "(JJZ)J"⟩
abbrev cX6_commonDivisor : ByteArray := prog_1_method_23_code
def yX6_commonDivisor : MethodName := ⟨RX6, "commonDivisor", "(JJ)J"⟩
abbrev cX6_sheets : ByteArray := prog_1_method_24_code
def yX6_sheets : MethodName := ⟨RX6, "sheets", "(III)I"⟩
abbrev cX6_seed : ByteArray := prog_1_method_25_code
def yX6_seed : MethodName := ⟨RX6, "seed", "(J)J"⟩
abbrev cX6_fair : ByteArray := prog_1_method_26_code
def yX6_fair : MethodName := ⟨RX6, "fair", "()I"⟩
abbrev cX6_keep : ByteArray := prog_1_method_27_code
def yX6_keep : MethodName := ⟨RX6, "keep", "(I)I"⟩
abbrev cX6_again : ByteArray := prog_1_method_28_code
def yX6_again : MethodName := ⟨RX6, "again", "(I)I"⟩
abbrev cX6_count : ByteArray := prog_1_method_29_code
def yX6_count : MethodName := ⟨RX6, "count", "(I)I"⟩
def RX7 : String := "UpWithSheafModel"
def TX7 : u_T := fun k => match k with
  | 0 => ("UpWithSheafModel", "throwers", "I", false)
  | 1 => ("UpWithSheafModel", "strength", "[I", true)
  | 2 => ("UpWithSheafModel", "wind", "[I", true)
  | 3 => ("UpWithSheafModel", "text", "[I", true)
  | 4 => ("UpWithSheafModel", "length", "I", false)
  | 5 => ("UpWithSheafModel", "now", "[I", true)
  | 6 => ("UpWithSheafModel", "acts", "I", false)
  | 7 => ("UpWithSheafModel", "next", "I", false)
  | 8 => ("UpWithSheafModel", "row", "[I", true)
  | 9 => ("UpWithSheafModel", "means", "[J", true)
  | 10 => ("UpWithSheafModel", "tried", "J", false)
  | 11 => ("UpWithSheafModel", "spared", "J", false)
  | 12 => ("UpWithSheafModel", "ways", "[I", true)
  | 13 => ("UpWithSheafModel", "later", "[I", true)
  | 14 => ("UpWithSheafModel", "seed", "J", false)
  | 15 => ("UpWithSheafModel", "isKept", "[Z", true)
  | _ => ("UpWithSheafModel", "kept", "[I", true)
def tyX7 : Nat → FieldType := fun k => match k with
  | 0 => .int
  | 1 => .array .int
  | 2 => .array .int
  | 3 => .array .int
  | 4 => .int
  | 5 => .array .int
  | 6 => .int
  | 7 => .int
  | 8 => .array .int
  | 9 => .array .long
  | 10 => .long
  | 11 => .long
  | 12 => .array .int
  | 13 => .array .int
  | 14 => .long
  | 15 => .array .boolean
  | _ => .array .int
abbrev wsX70 : List Cond := u_ws RX7 TX7 17
theorem nmX7 : ∀ a, a < 17 → ∀ b, b < 17 → a ≠ b → (TX7 a).2.1 ≠ (TX7 b).2.1 := by decide +kernel
theorem tyX7_ok : ∀ k, k < 17 → parseFieldDescriptor (TX7 k).2.2.1 = some (tyX7 k) := by decide +kernel
abbrev cX7_init : ByteArray := prog_9_method_1_code
def yX7_init : MethodName := ⟨RX7, "<init>", "()V"⟩
abbrev cX7_in : ByteArray := prog_9_method_3_code
def yX7_in : MethodName := ⟨RX7, "in", "(JJJ)Z"⟩
abbrev cX7_write : ByteArray := prog_9_method_4_code
def yX7_write : MethodName := ⟨RX7, "write", "(IJ)I"⟩
abbrev cX7_wipe : ByteArray := prog_9_method_5_code
def yX7_wipe : MethodName := ⟨RX7, "wipe", "()I"⟩
abbrev cX7_fits : ByteArray := prog_9_method_6_code
def yX7_fits : MethodName := ⟨RX7, "fits", "(I)Z"⟩
abbrev cX7_fault : ByteArray := prog_9_method_7_code
def yX7_fault : MethodName := ⟨RX7, "fault", "()I"⟩
abbrev cX7_field : ByteArray := prog_9_method_8_code
def yX7_field : MethodName := ⟨RX7, "field", "()I"⟩
abbrev cX7_isThrower : ByteArray := prog_9_method_9_code
def yX7_isThrower : MethodName := ⟨RX7, "isThrower", "(I)Z"⟩
abbrev cX7_mark : ByteArray := prog_9_method_10_code
def yX7_mark : MethodName := ⟨RX7, "mark", "(III)I"⟩
abbrev cX7_set : ByteArray := prog_9_method_11_code
def yX7_set : MethodName := ⟨RX7, "set", "(IIII)V"⟩
abbrev cX7_thrower : ByteArray := prog_9_method_12_code
def yX7_thrower : MethodName := ⟨RX7, "thrower", "(II)I"⟩
abbrev cX7_on : ByteArray := prog_9_method_13_code
def yX7_on : MethodName := ⟨RX7, "on", "()I"⟩
abbrev cX7_value : ByteArray := prog_9_method_14_code
def yX7_value : MethodName := ⟨RX7, "value", "(III)I"⟩
abbrev cX7_valueOf : ByteArray := prog_9_method_15_code
def yX7_valueOf : MethodName := ⟨RX7, "valueOf", "(II)I"⟩
abbrev cX7_rankOf : ByteArray := prog_9_method_16_code
def yX7_rankOf : MethodName := ⟨RX7, "rankOf", "(II)I"⟩
abbrev cX7_rank : ByteArray := prog_9_method_17_code
def yX7_rank : MethodName := ⟨RX7, "rank", "(I)I"⟩
abbrev cX7_oddsOf : ByteArray := prog_9_method_18_code
def yX7_oddsOf : MethodName := ⟨RX7, "oddsOf", "(III)I"⟩
abbrev cX7_odds : ByteArray := prog_9_method_19_code
def yX7_odds : MethodName := ⟨RX7, "odds", "(II)I"⟩
abbrev cX7_keepAct : ByteArray := prog_9_method_20_code
def yX7_keepAct : MethodName := ⟨RX7, "keepAct", "()V"⟩
abbrev cX7_nextIn : ByteArray := prog_9_method_21_code
def yX7_nextIn : MethodName := ⟨RX7, "nextIn", "(II)I"⟩
abbrev cX7_goOn : ByteArray := prog_9_method_22_code
def yX7_goOn : MethodName := ⟨RX7, "goOn", "(I)V"⟩
abbrev cX7_make : ByteArray := prog_9_method_23_code
def yX7_make : MethodName := ⟨RX7, "make", "(II)V"⟩
abbrev cX7_act : ByteArray := prog_9_method_24_code
def yX7_act : MethodName := ⟨RX7, "act", "(I)I"⟩
abbrev cX7_toss : ByteArray := prog_9_method_25_code
def yX7_toss : MethodName := ⟨RX7, "toss", "(Z)I"⟩
abbrev cX7_spare : ByteArray := prog_9_method_26_code
def yX7_spare : MethodName := ⟨RX7, "spare", "()I"⟩
abbrev cX7_undo : ByteArray := prog_9_method_27_code
def yX7_undo : MethodName := ⟨RX7, "undo", "()I"⟩
abbrev cX7_tenTo : ByteArray := prog_9_method_28_code
def yX7_tenTo : MethodName := ⟨RX7, "tenTo", "(I)J"⟩
abbrev cX7_copyNow : ByteArray := prog_9_method_29_code
def yX7_copyNow : MethodName := ⟨RX7, "copyNow", "()V"⟩
abbrev cX7_judge : ByteArray := prog_9_method_30_code
def yX7_judge : MethodName := ⟨RX7, "judge", "(II)I"⟩
abbrev cX7_common : ByteArray := prog_9_method_31_code
def yX7_common : MethodName := ⟨RX7, "common", "(JJ)J"⟩
abbrev cX7_clearsOf : ByteArray := prog_9_method_32_code
def yX7_clearsOf : MethodName := ⟨RX7, "clearsOf", "(I)I"⟩
abbrev cX7_isOut : ByteArray := prog_9_method_33_code
def yX7_isOut : MethodName := ⟨RX7, "isOut", "(I)Z"⟩
abbrev cX7_clears : ByteArray := prog_9_method_34_code
def yX7_clears : MethodName := ⟨RX7, "clears", "(IZ)I"⟩
abbrev cX7_place : ByteArray := prog_9_method_35_code
def yX7_place : MethodName := ⟨RX7, "place", "(IIII)I"⟩
abbrev cX7_layMeans : ByteArray := prog_9_method_36_code
def yX7_layMeans : MethodName := ⟨RX7, "layMeans", "(II)V"⟩
abbrev cX7_layMean : ByteArray := prog_9_method_37_code
def yX7_layMean : MethodName := ⟨RX7, "layMean", "(IIIII)V"⟩
abbrev cX7_refused : ByteArray := prog_9_method_38_code
def yX7_refused : MethodName := ⟨RX7, "refused", "(II)I"⟩
abbrev cX7_mean : ByteArray := prog_9_method_39_code
def yX7_mean : MethodName := ⟨RX7, "mean", "(IIZ)J"⟩
abbrev cX7_wise : ByteArray := prog_9_method_40_code
def yX7_wise : MethodName := ⟨RX7, "wise", "(II)I"⟩
abbrev cX7_partsOf : ByteArray := prog_9_method_41_code
def yX7_partsOf : MethodName := ⟨RX7, "partsOf", "(III)J"⟩
abbrev cX7_first : ByteArray := prog_9_method_42_code
def yX7_first : MethodName := ⟨RX7, "first", "(IIZ)J"⟩
abbrev cX7_alone : ByteArray := prog_9_method_43_code
def yX7_alone : MethodName := ⟨RX7, "alone", "(IIZ)I"⟩
abbrev cX7_sheets : ByteArray := prog_9_method_44_code
def yX7_sheets : MethodName := ⟨RX7, "sheets", "(III)I"⟩
abbrev cX7_seed : ByteArray := prog_9_method_45_code
def yX7_seed : MethodName := ⟨RX7, "seed", "(J)J"⟩
abbrev cX7_winners : ByteArray := prog_9_method_46_code
def yX7_winners : MethodName := ⟨RX7, "winners", "(I)I"⟩
abbrev cX7_fair : ByteArray := prog_9_method_47_code
def yX7_fair : MethodName := ⟨RX7, "fair", "()I"⟩
abbrev cX7_keep : ByteArray := prog_9_method_48_code
def yX7_keep : MethodName := ⟨RX7, "keep", "(I)I"⟩
abbrev cX7_again : ByteArray := prog_9_method_49_code
def yX7_again : MethodName := ⟨RX7, "again", "(I)I"⟩
abbrev cX7_those : ByteArray := prog_9_method_50_code
def yX7_those : MethodName := ⟨RX7, "those", "(I)I"⟩
abbrev cX7_count : ByteArray := prog_9_method_51_code
def yX7_count : MethodName := ⟨RX7, "count", "(I)I"⟩
def RJ9 : String := "java/lang/Math"
def TJ9 : u_T := fun k => match k with
  | _ => ("", "", "", false)
def tyJ9 : Nat → FieldType := fun k => match k with
  | _ => .int
abbrev wsJ90 : List Cond := u_ws RJ9 TJ9 0
theorem nmJ9 : ∀ a, a < 0 → ∀ b, b < 0 → a ≠ b → (TJ9 a).2.1 ≠ (TJ9 b).2.1 := by decide +kernel
theorem tyJ9_ok : ∀ k, k < 0 → parseFieldDescriptor (TJ9 k).2.2.1 = some (tyJ9 k) := by decide +kernel
abbrev cJ9_max_7cf53 : ByteArray := prog_10_method_65_code
def yJ9_max_7cf53 : MethodName := ⟨RJ9, "max", "(II)I"⟩
abbrev cJ9_max_f86c9 : ByteArray := prog_10_method_66_code
def yJ9_max_f86c9 : MethodName := ⟨RJ9, "max", "(JJ)J"⟩
abbrev cJ9_min_7cf53 : ByteArray := prog_10_method_69_code
def yJ9_min_7cf53 : MethodName := ⟨RJ9, "min", "(II)I"⟩
def RJ10 : String := "java/lang/System"
def TJ10 : u_T := fun k => match k with
  | _ => ("", "", "", false)
def tyJ10 : Nat → FieldType := fun k => match k with
  | _ => .int
abbrev wsJ100 : List Cond := u_ws RJ10 TJ10 0
theorem nmJ10 : ∀ a, a < 0 → ∀ b, b < 0 → a ≠ b → (TJ10 a).2.1 ≠ (TJ10 b).2.1 := by decide +kernel
theorem tyJ10_ok : ∀ k, k < 0 → parseFieldDescriptor (TJ10 k).2.2.1 = some (tyJ10 k) := by decide +kernel
def RL : String := "UpWithSheafLaw"
abbrev cL_law : ByteArray := code
def yL_law : MethodName := ⟨RL, "law", "([I)Z"⟩
abbrev vwCl : List vw_C := [(RX0, TX0, 3), (RX2, TX2, 4), (RX3, TX3, 2), (RX4, TX4, 2), (RX5, TX5, 9), (RX6, TX6, 9), (RX7, TX7, 17)]
/-- the words that every method of ours takes along -/
def GW : List Cond := lw_tbl.filter goodWord
theorem GW_tbl : ∀ w ∈ GW, w ∈ lw_tbl := fun _ h => (List.mem_filter.mp h).1
theorem GW_of {w : Cond} (h : w ∈ lw_tbl) (g : goodWord w = true) : w ∈ GW := List.mem_filter.mpr ⟨h, g⟩
theorem GW_good : GoodIn GW GW := fun _ h => ⟨h, good_of_word (List.mem_filter.mp h).2⟩
theorem gt_1 {w : Cond} (i : Nat) (h : tables_1_1[i]? = some w) (g : goodWord w = true) : w ∈ GW := GW_of ((fun (h : w ∈ tables_1_1) => (List.mem_append_right _ (List.mem_append_left _ h))) (List.mem_of_getElem? h)) g
theorem gt_2 {w : Cond} (i : Nat) (h : tables_1_2[i]? = some w) (g : goodWord w = true) : w ∈ GW := GW_of ((fun (h : w ∈ tables_1_2) => (List.mem_append_right _ (List.mem_append_right _ (List.mem_append_left _ h)))) (List.mem_of_getElem? h)) g
theorem gt_3 {w : Cond} (i : Nat) (h : tables_1_3[i]? = some w) (g : goodWord w = true) : w ∈ GW := GW_of ((fun (h : w ∈ tables_1_3) => (List.mem_append_right _ (List.mem_append_right _ (List.mem_append_right _ (List.mem_append_left _ h))))) (List.mem_of_getElem? h)) g
theorem gt_4 {w : Cond} (i : Nat) (h : tables_1_4[i]? = some w) (g : goodWord w = true) : w ∈ GW := GW_of ((fun (h : w ∈ tables_1_4) => (List.mem_append_right _ (List.mem_append_right _ (List.mem_append_right _ (List.mem_append_right _ h))))) (List.mem_of_getElem? h)) g
theorem gt_s {w : Cond} (i : Nat) (h : (k2_sels lw_privs)[i]? = some w) (g : goodWord w = true) : w ∈ GW := GW_of (List.mem_append_left _ (List.mem_of_getElem? h)) g
end
section
/-! the abstract heap: address 0 the script, 1 the table TENS, from 2 on what is made; R: the machine at an instruction, in its words; Cal: a method's contract -/
abbrev eE : Type := Nat × Nat × Nat × (Nat → ClassId) × (Nat → Nat → Nat)
def ad (E : eE) (a : Nat) : Nat := if a = 0 then E.1 else if a = 1 then E.2.1 else E.2.2.1 + (a - 2)
def sh (E : eE) (v : Value) : Value := match v with
  | .ref a => .ref (ad E a)
  | v => v
def aD (E : eE) : va_G := (E.2.2.2.1, E.2.2.2.2)
abbrev aC : Type := (FieldType × Nat × (Nat → Value)) ⊕ (Nat × List Value)
abbrev Hp : Type := Nat → Option aC
def hset (h : Hp) (a : Nat) (e : aC) : Hp := fun b => if b = a then some e else h b
theorem hset_eq (h : Hp) (a : Nat) (e : aC) : hset h a e a = some e := if_pos rfl
theorem hset_ne (h : Hp) {a b : Nat} (e : aC) (n : b ≠ a) : hset h a e b = h b := if_neg n
theorem hset_hset (h : Hp) (a : Nat) (e e' : aC) : hset (hset h a e) a e' = hset h a e' := by
  funext b
  unfold hset
  by_cases hb : b = a
  · rw [if_pos hb, if_pos hb]
  · rw [if_neg hb, if_neg hb, if_neg hb]
theorem hset_self {h : Hp} {a : Nat} {e : aC} (hh : h a = some e) : hset h a e = h := by
  funext b
  unfold hset
  by_cases hb : b = a
  · rw [if_pos hb, hb, hh]
  · rw [if_neg hb]
theorem sh_cat (E : eE) (v : Value) : (sh E v).category = v.category := by cases v <;> rfl
def arAt (E : eE) (s : State) (a : Nat) (ty : FieldType) (n : Nat) (f : Nat → Value) (H : Heap) : Prop := ∃ cell : Cell, H[ad E a]? = some cell ∧ s.isArrayOf cell ty ∧ cell.vm ≠ .unknown ∧ n ≤ cell.slots.size ∧ cell.slots.size.toInt32 = Int32.ofNat n ∧ (∀ j, j < n → cell.slots[j]? = some (sh E (f j))) ∧ (2 ≤ a → ∃ cA, cell = arrV cA n (fun j => sh E (f j)) ∧ ArrOfT s cA ty ∧ va_RA s cA ty)
def cAt (E : eE) (s : State) (a : Nat) (e : aC) (H : Heap) : Prop := match e with
  | .inl x => arAt E s a x.1 x.2.1 x.2.2 H
  | .inr o => 2 ≤ a ∧ va_at (aD E) vwCl (ad E a, .inr (o.1, o.2.map (sh E))) H
def hR (E : eE) (s : State) (h : Hp) (z : Nat) (H : Heap) : Prop := 2 ≤ z ∧ E.1 < E.2.2.1 ∧ E.2.1 < E.2.2.1 ∧ H.size = E.2.2.1 + (z - 2) ∧ ∀ a e, h a = some e → a < z ∧ cAt E s a e H
theorem cAt.moved {E : eE} {u U : State} (hvm : u.vm.Alike U.vm) {a : Nat} {e : aC} {H : Heap} (h : cAt E u a e H) : cAt E U a e H := by
  cases e with
  | inl x =>
    obtain ⟨cell, h1, h2, h3, h4, h5, h6, h7⟩ := h
    exact ⟨cell, h1, State.isArrayOf_alike hvm h2, h3, h4, h5, h6, fun g => by obtain ⟨cA, e1, e2, e3⟩ := h7 g; exact ⟨cA, e1, arrOfT_moved hvm e2, e3.moved hvm⟩⟩
  | inr o => exact h
theorem hR.moved {E : eE} {u U : State} (hvm : u.vm.Alike U.vm) {h : Hp} {z : Nat} {H : Heap} (g : hR E u h z H) : hR E U h z H := ⟨g.1, g.2.1, g.2.2.1, g.2.2.2.1, fun a e he => ⟨(g.2.2.2.2 a e he).1, (g.2.2.2.2 a e he).2.moved hvm⟩⟩
theorem cAt.kept {E : eE} {u : State} {a : Nat} {e : aC} {H H1 : Heap} (h : cAt E u a e H) (hq : H1[ad E a]? = H[ad E a]?) : cAt E u a e H1 := by
  cases e with
  | inl x =>
    obtain ⟨cell, h1, h2⟩ := h
    exact ⟨cell, by rw [hq]; exact h1, h2⟩
  | inr o => exact ⟨h.1, h.2.kept hq⟩
theorem ad_ge {E : eE} {a : Nat} (h : 2 ≤ a) : ad E a = E.2.2.1 + (a - 2) := by
  unfold ad
  rw [if_neg (by omega), if_neg (by omega)]
theorem ad_lt {E : eE} {s : State} {h : Hp} {z : Nat} {H : Heap} (g : hR E s h z H) {a : Nat} (ha : a < 2) : ad E a < E.2.2.1 := by
  obtain ⟨-, g1, g2, -⟩ := g
  unfold ad
  by_cases h0 : a = 0
  · rw [if_pos h0]; exact g1
  · rw [if_neg h0, if_pos (by omega)]; exact g2
theorem ad_ne {E : eE} {s : State} {h : Hp} {z : Nat} {H : Heap} (g : hR E s h z H) {a b : Nat} (ha : 2 ≤ a) (n : b ≠ a) : ad E b ≠ ad E a := by
  rw [ad_ge ha]
  by_cases hb : 2 ≤ b
  · rw [ad_ge hb]; omega
  · have := ad_lt g (show b < 2 by omega)
    omega
/-- one cell is written -/
theorem hR.set {E : eE} {s : State} {h : Hp} {z : Nat} {H H1 : Heap} (g : hR E s h z H) {a : Nat} {e0 e : aC} (ha : 2 ≤ a) (he0 : h a = some e0) (he : cAt E s a e H1) (hz : H1.size = H.size) (ho : ∀ q : Nat, q ≠ ad E a → H1[q]? = H[q]?) : hR E s (hset h a e) z H1 := by
  refine ⟨g.1, g.2.1, g.2.2.1, by rw [hz]; exact g.2.2.2.1, fun b x hx => ?_⟩
  by_cases hb : b = a
  · subst hb
    rw [hset_eq] at hx
    cases hx
    exact ⟨(g.2.2.2.2 b e0 he0).1, he⟩
  · rw [hset_ne h e hb] at hx
    obtain ⟨g1, g2⟩ := g.2.2.2.2 b x hx
    exact ⟨g1, g2.kept (ho _ (ad_ne g ha hb))⟩
/-- one cell is made -/
theorem hR.push {E : eE} {s : State} {h : Hp} {z : Nat} {H H1 : Heap} (g : hR E s h z H) {e : aC} (he : cAt E s z e H1) (hz : H1.size = H.size + 1) (ho : ∀ q : Nat, q < H.size → H1[q]? = H[q]?) : hR E s (hset h z e) (z + 1) H1 := by
  obtain ⟨g0, g1, g2, g3, g4⟩ := g
  refine ⟨by omega, g1, g2, by omega, fun b x hx => ?_⟩
  by_cases hb : b = z
  · subst hb
    rw [hset_eq] at hx
    cases hx
    exact ⟨by omega, he⟩
  · rw [hset_ne h e hb] at hx
    obtain ⟨k1, k2⟩ := g4 b x hx
    refine ⟨by omega, k2.kept (ho _ ?_)⟩
    by_cases hb2 : 2 ≤ b
    · rw [ad_ge hb2]; omega
    · have := ad_lt (E := E) (s := s) (h := h) (z := z) (H := H) ⟨g0, g1, g2, g3, g4⟩ (show b < 2 by omega)
      omega
theorem hR.top {E : eE} {s : State} {h : Hp} {z : Nat} {H : Heap} (g : hR E s h z H) : ad E z = H.size := by rw [ad_ge g.1, g.2.2.2.1]
/-- the locals: a list; null: nothing is said -/
def tol (E : eE) : Nat → List Value → List (Nat × Value)
  | _, [] => []
  | i, .null :: r => tol E (i + 1) r
  | i, v :: r => (i, sh E v) :: tol E (i + 1) r
theorem tol_mem {E : eE} {q : Nat × Value} : ∀ (L : List Value) (i : Nat), q ∈ tol E i L ↔ ∃ (j : Nat) (v : Value), q.1 = i + j ∧ L[j]? = some v ∧ v ≠ .null ∧ q.2 = sh E v := by
  intro L
  induction L with
  | nil => intro i; simp [tol]
  | cons w r ih =>
    intro i
    have key : (∃ (j : Nat) (v : Value), q.1 = i + j ∧ (w :: r)[j]? = some v ∧ v ≠ .null ∧ q.2 = sh E v) ↔ (q.1 = i ∧ w ≠ .null ∧ q.2 = sh E w) ∨ (∃ (j : Nat) (v : Value), q.1 = i + 1 + j ∧ r[j]? = some v ∧ v ≠ .null ∧ q.2 = sh E v) := by
      constructor
      · rintro ⟨j, v, h1, h2, h3, h4⟩
        cases j with
        | zero =>
          rw [List.getElem?_cons_zero] at h2
          cases h2
          exact Or.inl ⟨by omega, h3, h4⟩
        | succ j =>
          rw [List.getElem?_cons_succ] at h2
          exact Or.inr ⟨j, v, by omega, h2, h3, h4⟩
      · rintro (⟨h1, h2, h3⟩ | ⟨j, v, h1, h2, h3, h4⟩)
        · exact ⟨0, w, by omega, List.getElem?_cons_zero, h2, h3⟩
        · exact ⟨j + 1, v, by omega, by rw [List.getElem?_cons_succ]; exact h2, h3, h4⟩
    rw [key, ← ih (i + 1)]
    cases w <;> simp [tol, Prod.ext_iff]
def lR (E : eE) (ls : Array Slot) (nL : Nat) (L : List Value) : Prop := lv_has ls nL (tol E 0 L)
theorem lR.at {E : eE} {ls : Array Slot} {nL : Nat} {L : List Value} (h : lR E ls nL L) {i : Nat} {v : Value} (hL : L[i]? = some v) (hv : v ≠ .null) : ls[i]? = some (.val (sh E v)) := h.2.2 (i, sh E v) ((tol_mem L 0).mpr ⟨i, v, by simp, hL, hv, rfl⟩)
def clr (v : Value) : Value := match v with
  | .long _ => .null
  | .double _ => .null
  | v => v
/-- storing a value of one word, of two -/
def stL1 : Nat → Value → List Value → List Value
  | 0, v, _ :: r => v :: r
  | 1, v, a :: _ :: r => clr a :: v :: r
  | i + 2, v, a :: r => a :: stL1 (i + 1) v r
  | _, _, _ => []
def stL2 : Nat → Value → List Value → List Value
  | 0, v, _ :: _ :: r => v :: .null :: r
  | 1, v, a :: _ :: _ :: r => clr a :: v :: .null :: r
  | i + 2, v, a :: r => a :: stL2 (i + 1) v r
  | _, _, _ => []
theorem clr_some {a w : Value} (h : clr a = w) (hw : w ≠ .null) : a = w ∧ ¬ w.category = 2 := by
  cases a <;> simp_all [clr] <;> subst h <;> simp [Value.category]
theorem stL1_get (v w : Value) : ∀ (i : Nat) (L : List Value) (j : Nat), (stL1 i v L)[j]? = some w → w ≠ .null → (j = i ∧ w = v) ∨ (j ≠ i ∧ L[j]? = some w ∧ ¬ (j + 1 = i ∧ w.category = 2))
  | 0, [], j, h, _ => by simp [stL1] at h
  | 0, a :: r, j, h, hw => by
    cases j with
    | zero => simp [stL1] at h; exact Or.inl ⟨rfl, h.symm⟩
    | succ j => simp [stL1] at h; exact Or.inr ⟨by omega, by simpa using h, by omega⟩
  | 1, [], j, h, _ => by simp [stL1] at h
  | 1, [a], j, h, _ => by simp [stL1] at h
  | 1, a :: b :: r, j, h, hw => by
    match j with
    | 0 =>
      simp [stL1] at h
      obtain ⟨e1, e2⟩ := clr_some h hw
      exact Or.inr ⟨by omega, by simp [e1], fun q => e2 q.2⟩
    | 1 => simp [stL1] at h; exact Or.inl ⟨rfl, h.symm⟩
    | j + 2 => simp [stL1] at h; exact Or.inr ⟨by omega, by simpa using h, by omega⟩
  | i + 2, [], j, h, _ => by simp [stL1] at h
  | i + 2, a :: r, j, h, hw => by
    cases j with
    | zero => simp [stL1] at h; exact Or.inr ⟨by omega, by simpa using h, by omega⟩
    | succ j =>
      simp only [stL1, List.getElem?_cons_succ] at h
      rcases stL1_get v w (i + 1) r j h hw with ⟨e1, e2⟩ | ⟨e1, e2, e3⟩
      · exact Or.inl ⟨by omega, e2⟩
      · exact Or.inr ⟨by omega, by simpa using e2, fun q => e3 ⟨by omega, q.2⟩⟩
theorem stL2_get (v w : Value) : ∀ (i : Nat) (L : List Value) (j : Nat), (stL2 i v L)[j]? = some w → w ≠ .null → (j = i ∧ w = v) ∨ (j ≠ i ∧ j ≠ i + 1 ∧ L[j]? = some w ∧ ¬ (j + 1 = i ∧ w.category = 2))
  | 0, [], j, h, _ => by simp [stL2] at h
  | 0, [a], j, h, _ => by simp [stL2] at h
  | 0, a :: b :: r, j, h, hw => by
    match j with
    | 0 => simp [stL2] at h; exact Or.inl ⟨rfl, h.symm⟩
    | 1 => simp [stL2] at h; exact absurd h.symm hw
    | j + 2 => simp [stL2] at h; exact Or.inr ⟨by omega, by omega, by simpa using h, by omega⟩
  | 1, [], j, h, _ => by simp [stL2] at h
  | 1, [a], j, h, _ => by simp [stL2] at h
  | 1, [a, b], j, h, _ => by simp [stL2] at h
  | 1, a :: b :: c :: r, j, h, hw => by
    match j with
    | 0 =>
      simp [stL2] at h
      obtain ⟨e1, e2⟩ := clr_some h hw
      exact Or.inr ⟨by omega, by omega, by simp [e1], fun q => e2 q.2⟩
    | 1 => simp [stL2] at h; exact Or.inl ⟨rfl, h.symm⟩
    | 2 => simp [stL2] at h; exact absurd h.symm hw
    | j + 3 => simp [stL2] at h; exact Or.inr ⟨by omega, by omega, by simpa using h, by omega⟩
  | i + 2, [], j, h, _ => by simp [stL2] at h
  | i + 2, a :: r, j, h, hw => by
    cases j with
    | zero => simp [stL2] at h; exact Or.inr ⟨by omega, by omega, by simpa using h, by omega⟩
    | succ j =>
      simp only [stL2, List.getElem?_cons_succ] at h
      rcases stL2_get v w (i + 1) r j h hw with ⟨e1, e2⟩ | ⟨e1, e1', e2, e3⟩
      · exact Or.inl ⟨by omega, e2⟩
      · exact Or.inr ⟨by omega, by omega, by simpa using e2, fun q => e3 ⟨by omega, q.2⟩⟩
theorem lR.st1 {E : eE} {ls' : Array Slot} {nL i : Nat} {v : Value} {L : List Value} (h : lv_has ls' nL ((i, sh E v) :: (tol E 0 L).filter (fun q => !(q.1 == i) && !(q.1 + 1 == i && q.2.category == 2)))) : lR E ls' nL (stL1 i v L) := by
  refine ⟨h.1, h.2.1, fun q hq => h.2.2 q ?_⟩
  obtain ⟨j, w, h1, h2, h3, h4⟩ := (tol_mem _ 0).mp hq
  obtain ⟨q1, q2⟩ := q
  simp only [Nat.zero_add] at h1
  dsimp only at h1 h4
  subst h1; subst h4
  rcases stL1_get v w i L q1 h2 h3 with ⟨e1, e2⟩ | ⟨e1, e2, e3⟩
  · subst e1; subst e2
    exact List.mem_cons_self
  · refine List.mem_cons_of_mem _ (List.mem_filter.mpr ⟨(tol_mem _ 0).mpr ⟨q1, w, by simp, e2, h3, rfl⟩, ?_⟩)
    simp only [sh_cat]
    simp only [Bool.and_eq_true, Bool.not_eq_true', beq_eq_false_iff_ne, ne_eq, Bool.and_eq_false_iff]
    refine ⟨e1, ?_⟩
    by_cases g : q1 + 1 = i
    · exact Or.inr fun k => e3 ⟨g, k⟩
    · exact Or.inl g
theorem lR.st2 {E : eE} {ls' : Array Slot} {nL i : Nat} {v : Value} {L : List Value} (h : lv_has ls' nL ((i, sh E v) :: (tol E 0 L).filter (fun q => !(q.1 == i) && (!(q.1 == i + 1) && !(q.1 + 1 == i && q.2.category == 2))))) : lR E ls' nL (stL2 i v L) := by
  refine ⟨h.1, h.2.1, fun q hq => h.2.2 q ?_⟩
  obtain ⟨j, w, h1, h2, h3, h4⟩ := (tol_mem _ 0).mp hq
  obtain ⟨q1, q2⟩ := q
  simp only [Nat.zero_add] at h1
  dsimp only at h1 h4
  subst h1; subst h4
  rcases stL2_get v w i L q1 h2 h3 with ⟨e1, e2⟩ | ⟨e1, e1', e2, e3⟩
  · subst e1; subst e2
    exact List.mem_cons_self
  · refine List.mem_cons_of_mem _ (List.mem_filter.mpr ⟨(tol_mem _ 0).mpr ⟨q1, w, by simp, e2, h3, rfl⟩, ?_⟩)
    simp only [sh_cat]
    simp only [Bool.and_eq_true, Bool.not_eq_true', beq_eq_false_iff_ne, ne_eq, Bool.and_eq_false_iff]
    refine ⟨e1, e1', ?_⟩
    by_cases g : q1 + 1 = i
    · exact Or.inr fun k => e3 ⟨g, k⟩
    · exact Or.inl g
/-- the arguments, as locals -/
def lay : Nat → List Value → List Value
  | n, [] => List.replicate n .null
  | n, .long x :: r => .long x :: .null :: lay (n - 2) r
  | n, .double x :: r => .double x :: .null :: lay (n - 2) r
  | n, v :: r => v :: lay (n - 1) r
def layN : List Value → Nat
  | [] => 0
  | .long _ :: r => layN r + 2
  | .double _ :: r => layN r + 2
  | _ :: r => layN r + 1
theorem layN_eq (E : eE) (A : List Value) : (lg_sl (A.map (sh E))).length = layN A := by
  induction A with
  | nil => rfl
  | cons v r ih =>
    have e : lg_sl ((v :: r).map (sh E)) = (if (sh E v).category = 2 then [.val (sh E v), .second] else [.val (sh E v)]) ++ lg_sl (r.map (sh E)) := by
      simp [lg_sl]
    rw [e, List.length_append, ih, sh_cat]
    cases v <;> simp [Value.category, layN] <;> omega
theorem tol_null (E : eE) : ∀ (n i : Nat), tol E i (List.replicate n .null) = []
  | 0, _ => rfl
  | n + 1, i => by rw [List.replicate_succ]; exact tol_null E n (i + 1)
theorem tol_lay (E : eE) : ∀ (A : List Value) (n i : Nat), ∀ q ∈ tol E i (lay n A), q ∈ lv_args i (A.map (sh E)) := by
  intro A
  induction A with
  | nil =>
    intro n i q hq
    rw [show lay n [] = List.replicate n .null from rfl, tol_null] at hq
    exact absurd hq List.not_mem_nil
  | cons v r ih =>
    intro n i q hq
    show q ∈ (i, sh E v) :: lv_args (if (sh E v).category = 2 then i + 2 else i + 1) (r.map (sh E))
    rw [sh_cat]
    cases v <;> simp only [lay, tol, Value.category] at hq ⊢ <;> first
      | (rcases List.mem_cons.mp hq with h | h
         · exact h ▸ List.mem_cons_self
         · exact List.mem_cons_of_mem _ (by simpa using ih _ _ q h))
      | exact List.mem_cons_of_mem _ (by simpa using ih _ _ q hq)
theorem lR_entry (E : eE) (A : List Value) {n : Nat} (h : layN A ≤ n) : lR E ((lg_sl (A.map (sh E)) ++ List.replicate (n - (lg_sl (A.map (sh E))).length) Slot.unset).toArray) n (lay n A) := by
  have g := lv_entry (A.map (sh E)) (n := n) (by rw [layN_eq]; exact h)
  exact ⟨g.1, g.2.1, fun q hq => g.2.2 q (tol_lay E A n 0 q hq)⟩
end
section
abbrev MD : Type := MethodName × ByteArray × Nat × Option FieldType
def Ins (M : MD) (pc : Nat) (i : Instr) (len pc' : Nat) : Prop := decode M.2.1 pc = .ok (i, len) ∧ pc + len = pc'
def NMl : List (String × Nat × MethodName × String) := [("UpWithSheaf", 11, ⟨"UpWithSheaf$Text", "<init>", "()V"⟩, "UpWithSheaf"), ("UpWithSheaf", 50, ⟨"UpWithSheaf$Sheets", "<init>", "()V"⟩, "UpWithSheaf"), ("UpWithSheaf", 157, ⟨"UpWithSheaf$Ahead", "greatest", "(LUpWithSheaf$Thrower;IIIIII)J"⟩, "UpWithSheaf"), ("UpWithSheaf", 161, ⟨"UpWithSheaf$Ahead", "byTrying", "(LUpWithSheaf$Thrower;IIIIII)J"⟩, "UpWithSheaf"), ("UpWithSheaf", 164, ⟨"UpWithSheaf$Ahead", "bySparing", "(LUpWithSheaf$Thrower;IIIIII)J"⟩, "UpWithSheaf"), ("UpWithSheaf", 170, ⟨"UpWithSheaf$Ahead", "unbeaten", "(LUpWithSheaf$Contest;I[LUpWithSheaf$Thrower;III)J"⟩, "UpWithSheaf")]
def va_AA (U : State) : Prop := (Cond.arrayOver (.array .int)).before #[] U = true
def XT (s : State) : Prop := (∀ q ∈ NMl, va_Nw (.methodLinkNest q.1 q.2.1 q.2.2.1 q.2.2.2) s) ∧ va_Nw (.fieldLinkNest "UpWithSheaf$Ahead" 82 "UpWithSheaf" "TENS" "[J" "UpWithSheaf") s ∧ va_AO "UpWithSheaf$Thrower" s ∧ va_AO "UpWithSheaf$Contest" s ∧ va_AA s
theorem va_AA.moved {u U : State} (hvm : u.vm.Alike U.vm) (h : va_AA u) : va_AA U := over_moved hvm h
theorem XT.warm {s U : State} (hW : s.WarmedH U.vm) (h : XT s) : XT U := ⟨fun q hq => (h.1 q hq).warmM hW, h.2.1.warmF hW, h.2.2.1.moved hW.alike, h.2.2.2.1.moved hW.alike, h.2.2.2.2.moved hW.alike⟩
theorem XT.same {s U : State} (hv : s.vm = U.vm) (h : XT s) : XT U := ⟨fun q hq => (h.1 q hq).same rfl hv, h.2.1.same rfl hv, h.2.2.1.moved (by rw [hv]; exact Vm.Alike.refl _), h.2.2.2.1.moved (by rw [hv]; exact Vm.Alike.refl _), h.2.2.2.2.moved (by rw [hv]; exact Vm.Alike.refl _)⟩
def wld (E : eE) (h : Hp) (z : Nat) (U : State) : Prop := hR E U h z U.heap ∧ va_K (aD E) vwCl [] U ∧ va_Z "UpWithSheaf" "TENS" "[J" (.ref E.2.1) (fun q => E.2.2.1 ≤ q) U U.heap ∧ XT U
def RetOK (ret : Option FieldType) (v : Option Value) (i : Instr) : Prop := match v with
  | none => ret = none ∧ i = .return_
  | some (.int x) => i = .ireturn ∧ (ret = some .int ∨ (ret = some .boolean ∧ (x = 0 ∨ x = 1)))
  | some (.long _) => i = .lreturn ∧ ret = some .long
  | _ => False
def RC (M : MD) (mc ms : Nat) (Q : Option Value → Hp → Nat → Prop) (p : Program) (l : Launch) (e : Env) (Rm : Room) (s : State) (m : MethodId) (args : Array Value) (below : List Frame) (meth : Method) (c : Code) (E : eE) (Qf : State → Prop) : Prop :=
  ∀ (v : Option Value) (h : Hp) (z k n pc : Nat) (H : Heap) (locs : List Loc) (ls : Array Slot) (i : Instr), Q v h z → RetOK M.2.2.2 v i → decode M.2.1 pc = .ok (i, 1) → hR E s h z H → va_S (fun q => E.2.2.1 ≤ q) s.heap H locs → k ≤ mc → n ≤ ms → W p l e Rm s m args below meth c H locs k n Qf (F0 m pc ls (v.toList.map (sh E)))
def Ox (M : MD) (d mc ms : Nat) (Q : Option Value → Hp → Nat → Prop) (p : Program) (l : Launch) (e : Env) (Rm : Room) (s : State) (m : MethodId) (args : Array Value) (below : List Frame) (meth : Method) (c : Code) (E : eE) (Qf : State → Prop) : Prop :=
  p.tables.exec = Jvm.exec ∧ c.code = M.2.1 ∧ c.maxLocals = M.2.2.1 ∧ s.vm.findClass M.1.cls = some m.cls ∧ (∀ w ∈ GW, w.before args s = true) ∧ (d ≤ Rm.frames ∧ 48 * d ≤ Rm.locals ∧ mc ≤ Rm.cells ∧ ms ≤ Rm.slots) ∧ (M.1.name = "<init>" → meth.name = "<init>") ∧ va_K (aD E) vwCl [] s ∧ va_Z "UpWithSheaf" "TENS" "[J" (.ref E.2.1) (fun q => E.2.2.1 ≤ q) s s.heap ∧ XT s ∧ E.2.2.1 ≤ s.heap.size ∧ RC M mc ms Q p l e Rm s m args below meth c E Qf
/-- the machine stands in method M at pc, with these locals, this stack, this heap (next cell z), k cells of n slots made; it comes to an end that Q says -/
def R (M : MD) (d mc ms : Nat) (Q : Option Value → Hp → Nat → Prop) (pc : Nat) (L S : List Value) (h : Hp) (z k n : Nat) : Prop :=
  ∀ (p : Program) (l : Launch) (e : Env) (Rm : Room) (s : State) (m : MethodId) (args : Array Value) (below : List Frame) (meth : Method) (c : Code) (E : eE) (Qf : State → Prop), Ox M d mc ms Q p l e Rm s m args below meth c E Qf → ∀ (H : Heap) (locs : List Loc) (ls : Array Slot), hR E s h z H → va_S (fun q => E.2.2.1 ≤ q) s.heap H locs → lR E ls M.2.2.1 L → k ≤ mc → n ≤ ms → W p l e Rm s m args below meth c H locs k n Qf (F0 m pc ls (S.map (sh E)))
def wM (M : MD) : List Cond := Cond.code M.1 M.2.1 M.2.2.1 M.2.2.2 :: GW
def rmd (d mc ms : Nat) : Room := { frames := d, cells := mc, slots := ms, locals := 48 * d }
def cPc (E : eE) (A : List Value) (h : Hp) (z : Nat) : Array Value → State → Prop := fun v U => v = (A.map (sh E)).toArray ∧ wld E h z U
def cQc (E : eE) (Q : Option Value → Hp → Nat → Prop) : Array Value → State → Outcome → State → Prop := fun _ st o t => ∃ (v : Option Value) (h : Hp) (z : Nat), o = .returned (v.map (sh E)) ∧ Q v h z ∧ hR E t h z t.heap ∧ va_F (fun q => E.2.2.1 ≤ q) st t
/-- a method's contract: with these arguments on this heap it returns, and Q says what -/
def Cal (M : MD) (d mc ms : Nat) (A : List Value) (h : Hp) (z : Nat) (Q : Option Value → Hp → Nat → Prop) : Prop := ∀ (l : Launch) (E : eE), Met l M.1 (wM M) (rmd d mc ms) (cPc E A h z) (cQc E Q) mc ms (fun q => E.2.2.1 ≤ q)
theorem R_mono {M : MD} {d mc ms pc : Nat} {Q Q' : Option Value → Hp → Nat → Prop} {L S : List Value} {h : Hp} {z k n : Nat} (hQ : ∀ v h z, Q v h z → Q' v h z) (K : R M d mc ms Q pc L S h z k n) : R M d mc ms Q' pc L S h z k n := by
  intro p l e Rm s m args below meth c E Qf O
  obtain ⟨hx, hb, hml, hown, hts, hrm, hin, hK, hZ, hX, hB, hRC⟩ := O
  exact K p l e Rm s m args below meth c E Qf ⟨hx, hb, hml, hown, hts, hrm, hin, hK, hZ, hX, hB, fun v h z k n pc H locs ls i q => hRC v h z k n pc H locs ls i (hQ _ _ _ q)⟩
theorem Cal_mono {M : MD} {d mc ms : Nat} {A : List Value} {h : Hp} {z : Nat} {Q Q' : Option Value → Hp → Nat → Prop} (hQ : ∀ v h z, Q v h z → Q' v h z) (K : Cal M d mc ms A h z Q) : Cal M d mc ms A h z Q' := by
  intro l E p e ha hc hk s m args below hf happ hpre hfree
  obtain ⟨t, o, h1, h2, h3, ⟨v, h', z', q1, q2, q3⟩, h5⟩ := K l E p e ha hc hk s m args below hf happ hpre hfree
  exact ⟨t, o, h1, h2, h3, ⟨v, h', z', q1, hQ _ _ _ q2, q3⟩, h5⟩
set_option maxHeartbeats 2000000 in
theorem Cal_of_R {M : MD} {d mc ms : Nat} {A L : List Value} {h : Hp} {z : Nat} {Q : Option Value → Hp → Nat → Prop} (hpl : plainName M.1.cls = true) (hL : lay M.2.2.1 A = L) (hn : layN A ≤ M.2.2.1) (K : R M d mc ms Q 0 L [] h z 0 0) : Cal M d mc ms A h z Q := by
  intro l E
  refine Met.ofW (cc := M.2.1) (maxL := M.2.2.1) (ret := M.2.2.2) hpl rfl ?_
  intro p e s m args below meth c s₁ B hml hv
  obtain ⟨rfl, hH, hK, hZ, hX⟩ := hv
  have hx := B.exec
  have hb := B.bytes
  have hr := B.returns
  have hts := atoms_spec (ws := wM M) B.pre
  have hown : s.vm.findClass M.1.cls = some m.cls := findClass_of_methodNamed B.named
  have hlocks := B.notSynchronized
  have hin : M.1.name = "<init>" → meth.name = "<init>" := fun q => by rw [(name_of_methodNamed B.named B.method).1]; exact q
  rw [lg_entry_eq]
  subst hL
  have hB : E.2.2.1 ≤ s.heap.size := by rw [hH.2.2.2.1]; omega
  refine K p l e _ s m _ below meth c E _ ⟨hx, hb, hml, hown, fun w hw => hts w (List.mem_cons_of_mem _ hw), ⟨Nat.le_refl _, Nat.le_refl _, Nat.le_refl _, Nat.le_refl _⟩, hin, hK, hZ, hX, hB, ?_⟩ s.heap [] _ hH va_S.rf (lR_entry E A hn) (Nat.zero_le _) (Nat.zero_le _)
  intro v h' z' k n pc H locs ls i hQ hR1 hdg hH1 hS hk hn
  refine W.widen hk hn ?_
  have hq : ∀ t : State, t.heap = H → s.WarmedH t.vm → cQc E Q (A.map (sh E)).toArray s (.returned (v.map (sh E))) t := fun t ht hW => ⟨v, h', z', rfl, hQ, by rw [ht]; exact hH1.moved hW.alike, hS.F ht⟩
  match v, hR1 with
  | none, hR1 =>
    obtain ⟨e1, rfl⟩ := hR1
    exact W.vret hx hb (by rw [hr]; exact e1) hq hS.2.2 hdg
  | some (.int x), hR1 =>
    obtain ⟨rfl, e1 | ⟨e1, e2⟩⟩ := hR1
    · exact W.iret hx hb (by rw [hr]; exact e1) hq hS.2.2 hdg
    · exact W.zret hx hb (by rw [hr]; exact e1) (by rcases e2 with rfl | rfl <;> rfl) hq hS.2.2 hdg
  | some (.long x), hR1 =>
    obtain ⟨rfl, e1⟩ := hR1
    exact W.lret hx hb (by rw [hr]; exact e1) hq hS.2.2 hdg
theorem r_iadd {M : MD} {d mc ms pc pc' z k n : Nat} {Q : Option Value → Hp → Nat → Prop} {L S : List Value} {h : Hp} {x y : Int32} (hi : Ins M pc .iadd 1 pc')  (K : R M d mc ms Q pc' L (.int (x + y) :: S) h z k n) : R M d mc ms Q pc L (.int y :: .int x :: S) h z k n := by
  intro p l e Rm s m args below meth c E Qf O H locs ls hH hS hL hk hn
  obtain ⟨hx, hb, hml, hown, hts, hrm, hin, hK, hZ, hX, hB, hRC⟩ := id O
  obtain ⟨hd, rfl⟩ := hi
  exact lv_iadd hx hb hd  (K p l e Rm s m args below meth c E Qf O H locs ls hH hS hL hk hn)
theorem r_isub {M : MD} {d mc ms pc pc' z k n : Nat} {Q : Option Value → Hp → Nat → Prop} {L S : List Value} {h : Hp} {x y : Int32} (hi : Ins M pc .isub 1 pc')  (K : R M d mc ms Q pc' L (.int (x - y) :: S) h z k n) : R M d mc ms Q pc L (.int y :: .int x :: S) h z k n := by
  intro p l e Rm s m args below meth c E Qf O H locs ls hH hS hL hk hn
  obtain ⟨hx, hb, hml, hown, hts, hrm, hin, hK, hZ, hX, hB, hRC⟩ := id O
  obtain ⟨hd, rfl⟩ := hi
  exact lv_isub hx hb hd  (K p l e Rm s m args below meth c E Qf O H locs ls hH hS hL hk hn)
theorem r_imul {M : MD} {d mc ms pc pc' z k n : Nat} {Q : Option Value → Hp → Nat → Prop} {L S : List Value} {h : Hp} {x y : Int32} (hi : Ins M pc .imul 1 pc')  (K : R M d mc ms Q pc' L (.int (x * y) :: S) h z k n) : R M d mc ms Q pc L (.int y :: .int x :: S) h z k n := by
  intro p l e Rm s m args below meth c E Qf O H locs ls hH hS hL hk hn
  obtain ⟨hx, hb, hml, hown, hts, hrm, hin, hK, hZ, hX, hB, hRC⟩ := id O
  obtain ⟨hd, rfl⟩ := hi
  exact lv_imul hx hb hd  (K p l e Rm s m args below meth c E Qf O H locs ls hH hS hL hk hn)
theorem r_iand {M : MD} {d mc ms pc pc' z k n : Nat} {Q : Option Value → Hp → Nat → Prop} {L S : List Value} {h : Hp} {x y : Int32} (hi : Ins M pc .iand 1 pc')  (K : R M d mc ms Q pc' L (.int (x &&& y) :: S) h z k n) : R M d mc ms Q pc L (.int y :: .int x :: S) h z k n := by
  intro p l e Rm s m args below meth c E Qf O H locs ls hH hS hL hk hn
  obtain ⟨hx, hb, hml, hown, hts, hrm, hin, hK, hZ, hX, hB, hRC⟩ := id O
  obtain ⟨hd, rfl⟩ := hi
  exact lv_iand hx hb hd  (K p l e Rm s m args below meth c E Qf O H locs ls hH hS hL hk hn)
theorem r_ior {M : MD} {d mc ms pc pc' z k n : Nat} {Q : Option Value → Hp → Nat → Prop} {L S : List Value} {h : Hp} {x y : Int32} (hi : Ins M pc .ior 1 pc')  (K : R M d mc ms Q pc' L (.int (x ||| y) :: S) h z k n) : R M d mc ms Q pc L (.int y :: .int x :: S) h z k n := by
  intro p l e Rm s m args below meth c E Qf O H locs ls hH hS hL hk hn
  obtain ⟨hx, hb, hml, hown, hts, hrm, hin, hK, hZ, hX, hB, hRC⟩ := id O
  obtain ⟨hd, rfl⟩ := hi
  exact lv_ior hx hb hd  (K p l e Rm s m args below meth c E Qf O H locs ls hH hS hL hk hn)
theorem r_ixor {M : MD} {d mc ms pc pc' z k n : Nat} {Q : Option Value → Hp → Nat → Prop} {L S : List Value} {h : Hp} {x y : Int32} (hi : Ins M pc .ixor 1 pc')  (K : R M d mc ms Q pc' L (.int (x ^^^ y) :: S) h z k n) : R M d mc ms Q pc L (.int y :: .int x :: S) h z k n := by
  intro p l e Rm s m args below meth c E Qf O H locs ls hH hS hL hk hn
  obtain ⟨hx, hb, hml, hown, hts, hrm, hin, hK, hZ, hX, hB, hRC⟩ := id O
  obtain ⟨hd, rfl⟩ := hi
  exact lv_ixor hx hb hd  (K p l e Rm s m args below meth c E Qf O H locs ls hH hS hL hk hn)
theorem r_ishl {M : MD} {d mc ms pc pc' z k n : Nat} {Q : Option Value → Hp → Nat → Prop} {L S : List Value} {h : Hp} {x y : Int32} (hi : Ins M pc .ishl 1 pc')  (K : R M d mc ms Q pc' L (.int (x <<< (y &&& 31)) :: S) h z k n) : R M d mc ms Q pc L (.int y :: .int x :: S) h z k n := by
  intro p l e Rm s m args below meth c E Qf O H locs ls hH hS hL hk hn
  obtain ⟨hx, hb, hml, hown, hts, hrm, hin, hK, hZ, hX, hB, hRC⟩ := id O
  obtain ⟨hd, rfl⟩ := hi
  exact lv_ishl hx hb hd  (K p l e Rm s m args below meth c E Qf O H locs ls hH hS hL hk hn)
theorem r_ishr {M : MD} {d mc ms pc pc' z k n : Nat} {Q : Option Value → Hp → Nat → Prop} {L S : List Value} {h : Hp} {x y : Int32} (hi : Ins M pc .ishr 1 pc')  (K : R M d mc ms Q pc' L (.int (x >>> (y &&& 31)) :: S) h z k n) : R M d mc ms Q pc L (.int y :: .int x :: S) h z k n := by
  intro p l e Rm s m args below meth c E Qf O H locs ls hH hS hL hk hn
  obtain ⟨hx, hb, hml, hown, hts, hrm, hin, hK, hZ, hX, hB, hRC⟩ := id O
  obtain ⟨hd, rfl⟩ := hi
  exact lv_ishr hx hb hd  (K p l e Rm s m args below meth c E Qf O H locs ls hH hS hL hk hn)
theorem r_idiv {M : MD} {d mc ms pc pc' z k n : Nat} {Q : Option Value → Hp → Nat → Prop} {L S : List Value} {h : Hp} {x y : Int32} (hi : Ins M pc .idiv 1 pc') (hne : ¬ y = 0) (K : R M d mc ms Q pc' L (.int (x / y) :: S) h z k n) : R M d mc ms Q pc L (.int y :: .int x :: S) h z k n := by
  intro p l e Rm s m args below meth c E Qf O H locs ls hH hS hL hk hn
  obtain ⟨hx, hb, hml, hown, hts, hrm, hin, hK, hZ, hX, hB, hRC⟩ := id O
  obtain ⟨hd, rfl⟩ := hi
  exact lv_idiv hx hb hd hne (K p l e Rm s m args below meth c E Qf O H locs ls hH hS hL hk hn)
theorem r_irem {M : MD} {d mc ms pc pc' z k n : Nat} {Q : Option Value → Hp → Nat → Prop} {L S : List Value} {h : Hp} {x y : Int32} (hi : Ins M pc .irem 1 pc') (hne : ¬ y = 0) (K : R M d mc ms Q pc' L (.int (x - x / y * y) :: S) h z k n) : R M d mc ms Q pc L (.int y :: .int x :: S) h z k n := by
  intro p l e Rm s m args below meth c E Qf O H locs ls hH hS hL hk hn
  obtain ⟨hx, hb, hml, hown, hts, hrm, hin, hK, hZ, hX, hB, hRC⟩ := id O
  obtain ⟨hd, rfl⟩ := hi
  exact lv_irem hx hb hd hne (K p l e Rm s m args below meth c E Qf O H locs ls hH hS hL hk hn)
theorem r_ladd {M : MD} {d mc ms pc pc' z k n : Nat} {Q : Option Value → Hp → Nat → Prop} {L S : List Value} {h : Hp} {x y : Int64} (hi : Ins M pc .ladd 1 pc')  (K : R M d mc ms Q pc' L (.long (x + y) :: S) h z k n) : R M d mc ms Q pc L (.long y :: .long x :: S) h z k n := by
  intro p l e Rm s m args below meth c E Qf O H locs ls hH hS hL hk hn
  obtain ⟨hx, hb, hml, hown, hts, hrm, hin, hK, hZ, hX, hB, hRC⟩ := id O
  obtain ⟨hd, rfl⟩ := hi
  exact lv_ladd hx hb hd  (K p l e Rm s m args below meth c E Qf O H locs ls hH hS hL hk hn)
theorem r_lsub {M : MD} {d mc ms pc pc' z k n : Nat} {Q : Option Value → Hp → Nat → Prop} {L S : List Value} {h : Hp} {x y : Int64} (hi : Ins M pc .lsub 1 pc')  (K : R M d mc ms Q pc' L (.long (x - y) :: S) h z k n) : R M d mc ms Q pc L (.long y :: .long x :: S) h z k n := by
  intro p l e Rm s m args below meth c E Qf O H locs ls hH hS hL hk hn
  obtain ⟨hx, hb, hml, hown, hts, hrm, hin, hK, hZ, hX, hB, hRC⟩ := id O
  obtain ⟨hd, rfl⟩ := hi
  exact lv_lsub hx hb hd  (K p l e Rm s m args below meth c E Qf O H locs ls hH hS hL hk hn)
theorem r_lmul {M : MD} {d mc ms pc pc' z k n : Nat} {Q : Option Value → Hp → Nat → Prop} {L S : List Value} {h : Hp} {x y : Int64} (hi : Ins M pc .lmul 1 pc')  (K : R M d mc ms Q pc' L (.long (x * y) :: S) h z k n) : R M d mc ms Q pc L (.long y :: .long x :: S) h z k n := by
  intro p l e Rm s m args below meth c E Qf O H locs ls hH hS hL hk hn
  obtain ⟨hx, hb, hml, hown, hts, hrm, hin, hK, hZ, hX, hB, hRC⟩ := id O
  obtain ⟨hd, rfl⟩ := hi
  exact lv_lmul hx hb hd  (K p l e Rm s m args below meth c E Qf O H locs ls hH hS hL hk hn)
theorem r_land {M : MD} {d mc ms pc pc' z k n : Nat} {Q : Option Value → Hp → Nat → Prop} {L S : List Value} {h : Hp} {x y : Int64} (hi : Ins M pc .land 1 pc')  (K : R M d mc ms Q pc' L (.long (x &&& y) :: S) h z k n) : R M d mc ms Q pc L (.long y :: .long x :: S) h z k n := by
  intro p l e Rm s m args below meth c E Qf O H locs ls hH hS hL hk hn
  obtain ⟨hx, hb, hml, hown, hts, hrm, hin, hK, hZ, hX, hB, hRC⟩ := id O
  obtain ⟨hd, rfl⟩ := hi
  exact lv_land hx hb hd  (K p l e Rm s m args below meth c E Qf O H locs ls hH hS hL hk hn)
theorem r_lor {M : MD} {d mc ms pc pc' z k n : Nat} {Q : Option Value → Hp → Nat → Prop} {L S : List Value} {h : Hp} {x y : Int64} (hi : Ins M pc .lor 1 pc')  (K : R M d mc ms Q pc' L (.long (x ||| y) :: S) h z k n) : R M d mc ms Q pc L (.long y :: .long x :: S) h z k n := by
  intro p l e Rm s m args below meth c E Qf O H locs ls hH hS hL hk hn
  obtain ⟨hx, hb, hml, hown, hts, hrm, hin, hK, hZ, hX, hB, hRC⟩ := id O
  obtain ⟨hd, rfl⟩ := hi
  exact lv_lor hx hb hd  (K p l e Rm s m args below meth c E Qf O H locs ls hH hS hL hk hn)
theorem r_lxor {M : MD} {d mc ms pc pc' z k n : Nat} {Q : Option Value → Hp → Nat → Prop} {L S : List Value} {h : Hp} {x y : Int64} (hi : Ins M pc .lxor 1 pc')  (K : R M d mc ms Q pc' L (.long (x ^^^ y) :: S) h z k n) : R M d mc ms Q pc L (.long y :: .long x :: S) h z k n := by
  intro p l e Rm s m args below meth c E Qf O H locs ls hH hS hL hk hn
  obtain ⟨hx, hb, hml, hown, hts, hrm, hin, hK, hZ, hX, hB, hRC⟩ := id O
  obtain ⟨hd, rfl⟩ := hi
  exact lv_lxor hx hb hd  (K p l e Rm s m args below meth c E Qf O H locs ls hH hS hL hk hn)
theorem r_ldiv {M : MD} {d mc ms pc pc' z k n : Nat} {Q : Option Value → Hp → Nat → Prop} {L S : List Value} {h : Hp} {x y : Int64} (hi : Ins M pc .ldiv 1 pc') (hne : ¬ y = 0) (K : R M d mc ms Q pc' L (.long (x / y) :: S) h z k n) : R M d mc ms Q pc L (.long y :: .long x :: S) h z k n := by
  intro p l e Rm s m args below meth c E Qf O H locs ls hH hS hL hk hn
  obtain ⟨hx, hb, hml, hown, hts, hrm, hin, hK, hZ, hX, hB, hRC⟩ := id O
  obtain ⟨hd, rfl⟩ := hi
  exact lv_ldiv hx hb hd hne (K p l e Rm s m args below meth c E Qf O H locs ls hH hS hL hk hn)
theorem r_lrem {M : MD} {d mc ms pc pc' z k n : Nat} {Q : Option Value → Hp → Nat → Prop} {L S : List Value} {h : Hp} {x y : Int64} (hi : Ins M pc .lrem 1 pc') (hne : ¬ y = 0) (K : R M d mc ms Q pc' L (.long (x - x / y * y) :: S) h z k n) : R M d mc ms Q pc L (.long y :: .long x :: S) h z k n := by
  intro p l e Rm s m args below meth c E Qf O H locs ls hH hS hL hk hn
  obtain ⟨hx, hb, hml, hown, hts, hrm, hin, hK, hZ, hX, hB, hRC⟩ := id O
  obtain ⟨hd, rfl⟩ := hi
  exact lv_lrem hx hb hd hne (K p l e Rm s m args below meth c E Qf O H locs ls hH hS hL hk hn)
theorem r_lcmp {M : MD} {d mc ms pc pc' z k n : Nat} {Q : Option Value → Hp → Nat → Prop} {L S : List Value} {h : Hp} {x y : Int64} (hi : Ins M pc .lcmp 1 pc')  (K : R M d mc ms Q pc' L (.int (lg_cmp x y) :: S) h z k n) : R M d mc ms Q pc L (.long y :: .long x :: S) h z k n := by
  intro p l e Rm s m args below meth c E Qf O H locs ls hH hS hL hk hn
  obtain ⟨hx, hb, hml, hown, hts, hrm, hin, hK, hZ, hX, hB, hRC⟩ := id O
  obtain ⟨hd, rfl⟩ := hi
  exact W.lcmp hx hb hd  (K p l e Rm s m args below meth c E Qf O H locs ls hH hS hL hk hn)
theorem r_i2l {M : MD} {d mc ms pc pc' z k n : Nat} {Q : Option Value → Hp → Nat → Prop} {L S : List Value} {h : Hp} {x : Int32} (hi : Ins M pc .i2l 1 pc')  (K : R M d mc ms Q pc' L (.long x.toInt64 :: S) h z k n) : R M d mc ms Q pc L (.int x :: S) h z k n := by
  intro p l e Rm s m args below meth c E Qf O H locs ls hH hS hL hk hn
  obtain ⟨hx, hb, hml, hown, hts, hrm, hin, hK, hZ, hX, hB, hRC⟩ := id O
  obtain ⟨hd, rfl⟩ := hi
  exact lv_i2l hx hb hd rfl (K p l e Rm s m args below meth c E Qf O H locs ls hH hS hL hk hn)
theorem r_l2i {M : MD} {d mc ms pc pc' z k n : Nat} {Q : Option Value → Hp → Nat → Prop} {L S : List Value} {h : Hp} {x : Int64} (hi : Ins M pc .l2i 1 pc')  (K : R M d mc ms Q pc' L (.int x.toInt32 :: S) h z k n) : R M d mc ms Q pc L (.long x :: S) h z k n := by
  intro p l e Rm s m args below meth c E Qf O H locs ls hH hS hL hk hn
  obtain ⟨hx, hb, hml, hown, hts, hrm, hin, hK, hZ, hX, hB, hRC⟩ := id O
  obtain ⟨hd, rfl⟩ := hi
  exact lv_l2i hx hb hd rfl (K p l e Rm s m args below meth c E Qf O H locs ls hH hS hL hk hn)
theorem r_ineg {M : MD} {d mc ms pc pc' z k n : Nat} {Q : Option Value → Hp → Nat → Prop} {L S : List Value} {h : Hp} {x : Int32} (hi : Ins M pc .ineg 1 pc')  (K : R M d mc ms Q pc' L (.int (-x) :: S) h z k n) : R M d mc ms Q pc L (.int x :: S) h z k n := by
  intro p l e Rm s m args below meth c E Qf O H locs ls hH hS hL hk hn
  obtain ⟨hx, hb, hml, hown, hts, hrm, hin, hK, hZ, hX, hB, hRC⟩ := id O
  obtain ⟨hd, rfl⟩ := hi
  exact lv_ineg hx hb hd  (K p l e Rm s m args below meth c E Qf O H locs ls hH hS hL hk hn)
theorem r_lushr {M : MD} {d mc ms pc pc' z k n : Nat} {Q : Option Value → Hp → Nat → Prop} {L S : List Value} {h : Hp} {x : Int64} {y : Int32} (hi : Ins M pc .lushr 1 pc')  (K : R M d mc ms Q pc' L (.long ((x.toUInt64 >>> (y.toInt64.toUInt64 &&& Int64.toUInt64 63)).toInt64) :: S) h z k n) : R M d mc ms Q pc L (.int y :: .long x :: S) h z k n := by
  intro p l e Rm s m args below meth c E Qf O H locs ls hH hS hL hk hn
  obtain ⟨hx, hb, hml, hown, hts, hrm, hin, hK, hZ, hX, hB, hRC⟩ := id O
  obtain ⟨hd, rfl⟩ := hi
  exact lv_lushr hx hb hd rfl (K p l e Rm s m args below meth c E Qf O H locs ls hH hS hL hk hn)
theorem r_lshl {M : MD} {d mc ms pc pc' z k n : Nat} {Q : Option Value → Hp → Nat → Prop} {L S : List Value} {h : Hp} {x : Int64} {y : Int32} (hi : Ins M pc .lshl 1 pc')  (K : R M d mc ms Q pc' L (.long (x <<< (y.toInt64 &&& 63)) :: S) h z k n) : R M d mc ms Q pc L (.int y :: .long x :: S) h z k n := by
  intro p l e Rm s m args below meth c E Qf O H locs ls hH hS hL hk hn
  obtain ⟨hx, hb, hml, hown, hts, hrm, hin, hK, hZ, hX, hB, hRC⟩ := id O
  obtain ⟨hd, rfl⟩ := hi
  exact lv_lshl hx hb hd rfl (K p l e Rm s m args below meth c E Qf O H locs ls hH hS hL hk hn)
theorem r_lshr {M : MD} {d mc ms pc pc' z k n : Nat} {Q : Option Value → Hp → Nat → Prop} {L S : List Value} {h : Hp} {x : Int64} {y : Int32} (hi : Ins M pc .lshr 1 pc')  (K : R M d mc ms Q pc' L (.long (x >>> (y.toInt64 &&& 63)) :: S) h z k n) : R M d mc ms Q pc L (.int y :: .long x :: S) h z k n := by
  intro p l e Rm s m args below meth c E Qf O H locs ls hH hS hL hk hn
  obtain ⟨hx, hb, hml, hown, hts, hrm, hin, hK, hZ, hX, hB, hRC⟩ := id O
  obtain ⟨hd, rfl⟩ := hi
  exact lv_lshr hx hb hd rfl (K p l e Rm s m args below meth c E Qf O H locs ls hH hS hL hk hn)
theorem r_iconst {M : MD} {d mc ms pc pc' z k n : Nat} {Q : Option Value → Hp → Nat → Prop} {L S : List Value} {h : Hp} {w : Int} {v : Int32} (hi : Ins M pc (.iconst w) 1 pc') (hv : Int32.ofInt w = v) (K : R M d mc ms Q pc' L (.int v :: S) h z k n) : R M d mc ms Q pc L S h z k n := by
  intro p l e Rm s m args below meth c E Qf O H locs ls hH hS hL hk hn
  obtain ⟨hx, hb, hml, hown, hts, hrm, hin, hK, hZ, hX, hB, hRC⟩ := id O
  obtain ⟨hd, rfl⟩ := hi
  exact lv_iconst hx hb hd hv (K p l e Rm s m args below meth c E Qf O H locs ls hH hS hL hk hn)
theorem r_bipush {M : MD} {d mc ms pc pc' z k n : Nat} {Q : Option Value → Hp → Nat → Prop} {L S : List Value} {h : Hp} {w : Int} {v : Int32} (hi : Ins M pc (.bipush w) 2 pc') (hv : (Int8.ofInt w).toInt32 = v) (K : R M d mc ms Q pc' L (.int v :: S) h z k n) : R M d mc ms Q pc L S h z k n := by
  intro p l e Rm s m args below meth c E Qf O H locs ls hH hS hL hk hn
  obtain ⟨hx, hb, hml, hown, hts, hrm, hin, hK, hZ, hX, hB, hRC⟩ := id O
  obtain ⟨hd, rfl⟩ := hi
  exact lv_bipush hx hb hd hv (K p l e Rm s m args below meth c E Qf O H locs ls hH hS hL hk hn)
theorem r_sipush {M : MD} {d mc ms pc pc' z k n : Nat} {Q : Option Value → Hp → Nat → Prop} {L S : List Value} {h : Hp} {w : Int} {v : Int32} (hi : Ins M pc (.sipush w) 3 pc') (hv : (Int16.ofInt w).toInt32 = v) (K : R M d mc ms Q pc' L (.int v :: S) h z k n) : R M d mc ms Q pc L S h z k n := by
  intro p l e Rm s m args below meth c E Qf O H locs ls hH hS hL hk hn
  obtain ⟨hx, hb, hml, hown, hts, hrm, hin, hK, hZ, hX, hB, hRC⟩ := id O
  obtain ⟨hd, rfl⟩ := hi
  exact lv_sipush hx hb hd hv (K p l e Rm s m args below meth c E Qf O H locs ls hH hS hL hk hn)
theorem r_lconst {M : MD} {d mc ms pc pc' z k n : Nat} {Q : Option Value → Hp → Nat → Prop} {L S : List Value} {h : Hp} {w : Fin 2} {v : Int64} (hi : Ins M pc (.lconst w) 1 pc') (hv : Int64.ofNat (w : Nat) = v) (K : R M d mc ms Q pc' L (.long v :: S) h z k n) : R M d mc ms Q pc L S h z k n := by
  intro p l e Rm s m args below meth c E Qf O H locs ls hH hS hL hk hn
  obtain ⟨hx, hb, hml, hown, hts, hrm, hin, hK, hZ, hX, hB, hRC⟩ := id O
  obtain ⟨hd, rfl⟩ := hi
  exact lv_lconst hx hb hd hv (K p l e Rm s m args below meth c E Qf O H locs ls hH hS hL hk hn)
theorem r_dup {M : MD} {d mc ms pc pc' z k n : Nat} {Q : Option Value → Hp → Nat → Prop} {L S : List Value} {h : Hp} {a : Value} (hi : Ins M pc .dup 1 pc') (hc : a.category = 1) (K : R M d mc ms Q pc' L (a :: a :: S) h z k n) : R M d mc ms Q pc L (a :: S) h z k n := by
  intro p l e Rm s m args below meth c E Qf O H locs ls hH hS hL hk hn
  obtain ⟨hx, hb, hml, hown, hts, hrm, hin, hK, hZ, hX, hB, hRC⟩ := id O
  obtain ⟨hd, rfl⟩ := hi
  exact lv_dup hx hb hd (by rw [sh_cat]; exact hc) (K p l e Rm s m args below meth c E Qf O H locs ls hH hS hL hk hn)
theorem r_dup2 {M : MD} {d mc ms pc pc' z k n : Nat} {Q : Option Value → Hp → Nat → Prop} {L S : List Value} {h : Hp} {a b : Value} (hi : Ins M pc .dup2 1 pc') (hc : a.category = 1) (hc2 : b.category = 1) (K : R M d mc ms Q pc' L (a :: b :: a :: b :: S) h z k n) : R M d mc ms Q pc L (a :: b :: S) h z k n := by
  intro p l e Rm s m args below meth c E Qf O H locs ls hH hS hL hk hn
  obtain ⟨hx, hb, hml, hown, hts, hrm, hin, hK, hZ, hX, hB, hRC⟩ := id O
  obtain ⟨hd, rfl⟩ := hi
  exact lv_dup2_11 hx hb hd (by rw [sh_cat]; exact hc) (by rw [sh_cat]; exact hc2) (K p l e Rm s m args below meth c E Qf O H locs ls hH hS hL hk hn)
theorem r_pop {M : MD} {d mc ms pc pc' z k n : Nat} {Q : Option Value → Hp → Nat → Prop} {L S : List Value} {h : Hp} {a : Value} (hi : Ins M pc .pop 1 pc') (hc : a.category = 1) (K : R M d mc ms Q pc' L S h z k n) : R M d mc ms Q pc L (a :: S) h z k n := by
  intro p l e Rm s m args below meth c E Qf O H locs ls hH hS hL hk hn
  obtain ⟨hx, hb, hml, hown, hts, hrm, hin, hK, hZ, hX, hB, hRC⟩ := id O
  obtain ⟨hd, rfl⟩ := hi
  exact lv_pop hx hb hd (by rw [sh_cat]; exact hc) (K p l e Rm s m args below meth c E Qf O H locs ls hH hS hL hk hn)
theorem r_ldc {M : MD} {d mc ms pc pc' z k n : Nat} {Q : Option Value → Hp → Nat → Prop} {L S : List Value} {h : Hp} {idx : Nat} {v : Int32} (hi : Ins M pc (.ldc idx) 2 pc') (hw : Cond.constant M.1.cls idx v ∈ GW) (K : R M d mc ms Q pc' L (.int v :: S) h z k n) : R M d mc ms Q pc L S h z k n := by
  intro p l e Rm s m args below meth c E Qf O H locs ls hH hS hL hk hn
  obtain ⟨hx, hb, hml, hown, hts, hrm, hin, hK, hZ, hX, hB, hRC⟩ := id O
  obtain ⟨hd, rfl⟩ := hi
  exact lv_ldc hx hb hown (hts _ hw) hd (K p l e Rm s m args below meth c E Qf O H locs ls hH hS hL hk hn)
theorem r_ldc2 {M : MD} {d mc ms pc pc' z k n : Nat} {Q : Option Value → Hp → Nat → Prop} {L S : List Value} {h : Hp} {idx : Nat} {v : Int64} (hi : Ins M pc (.ldc2_w idx) 3 pc') (hw : Cond.constantLong M.1.cls idx v ∈ GW) (K : R M d mc ms Q pc' L (.long v :: S) h z k n) : R M d mc ms Q pc L S h z k n := by
  intro p l e Rm s m args below meth c E Qf O H locs ls hH hS hL hk hn
  obtain ⟨hx, hb, hml, hown, hts, hrm, hin, hK, hZ, hX, hB, hRC⟩ := id O
  obtain ⟨hd, rfl⟩ := hi
  exact lv_ldc2 hx hb hown (hts _ hw) hd (K p l e Rm s m args below meth c E Qf O H locs ls hH hS hL hk hn)
def LdI (M : MD) (pc i pc' : Nat) : Prop := Ins M pc (.iload i) 2 pc' ∨ ∃ k : Fin 4, (k : Nat) = i ∧ Ins M pc (.iload_n k) 1 pc'
theorem r_iload {M : MD} {d mc ms pc pc' z k n : Nat} {Q : Option Value → Hp → Nat → Prop} {L S : List Value} {h : Hp} {i : Nat} {x : Int32} (hi : LdI M pc i pc') (hl : L[i]? = some (.int x)) (K : R M d mc ms Q pc' L (.int x :: S) h z k n) : R M d mc ms Q pc L S h z k n := by
  intro p l e Rm s m args below meth c E Qf O H locs ls hH hS hL hk hn
  obtain ⟨hx, hb, hml, hown, hts, hrm, hin, hK, hZ, hX, hB, hRC⟩ := id O
  have g := hL.at hl (fun q => by cases q)
  rcases hi with ⟨hd, rfl⟩ | ⟨w, hw, hd, rfl⟩
  · exact lv_iload hx hb hd g (K p l e Rm s m args below meth c E Qf O H locs ls hH hS hL hk hn)
  · exact lv_iload_n hx hb hd hw g (K p l e Rm s m args below meth c E Qf O H locs ls hH hS hL hk hn)
def LdL (M : MD) (pc i pc' : Nat) : Prop := Ins M pc (.lload i) 2 pc' ∨ ∃ k : Fin 4, (k : Nat) = i ∧ Ins M pc (.lload_n k) 1 pc'
theorem r_lload {M : MD} {d mc ms pc pc' z k n : Nat} {Q : Option Value → Hp → Nat → Prop} {L S : List Value} {h : Hp} {i : Nat} {x : Int64} (hi : LdL M pc i pc') (hl : L[i]? = some (.long x)) (K : R M d mc ms Q pc' L (.long x :: S) h z k n) : R M d mc ms Q pc L S h z k n := by
  intro p l e Rm s m args below meth c E Qf O H locs ls hH hS hL hk hn
  obtain ⟨hx, hb, hml, hown, hts, hrm, hin, hK, hZ, hX, hB, hRC⟩ := id O
  have g := hL.at hl (fun q => by cases q)
  rcases hi with ⟨hd, rfl⟩ | ⟨w, hw, hd, rfl⟩
  · exact lv_lload hx hb hd g (K p l e Rm s m args below meth c E Qf O H locs ls hH hS hL hk hn)
  · exact lv_lload_n hx hb hd hw g (K p l e Rm s m args below meth c E Qf O H locs ls hH hS hL hk hn)
def LdA (M : MD) (pc i pc' : Nat) : Prop := Ins M pc (.aload i) 2 pc' ∨ ∃ k : Fin 4, (k : Nat) = i ∧ Ins M pc (.aload_n k) 1 pc'
theorem r_aload {M : MD} {d mc ms pc pc' z k n : Nat} {Q : Option Value → Hp → Nat → Prop} {L S : List Value} {h : Hp} {i : Nat} {x : Nat} (hi : LdA M pc i pc') (hl : L[i]? = some (.ref x)) (K : R M d mc ms Q pc' L (.ref x :: S) h z k n) : R M d mc ms Q pc L S h z k n := by
  intro p l e Rm s m args below meth c E Qf O H locs ls hH hS hL hk hn
  obtain ⟨hx, hb, hml, hown, hts, hrm, hin, hK, hZ, hX, hB, hRC⟩ := id O
  have g := hL.at hl (fun q => by cases q)
  rcases hi with ⟨hd, rfl⟩ | ⟨w, hw, hd, rfl⟩
  · exact lv_aload hx hb hd g (K p l e Rm s m args below meth c E Qf O H locs ls hH hS hL hk hn)
  · exact lv_aload_n hx hb hd hw g (K p l e Rm s m args below meth c E Qf O H locs ls hH hS hL hk hn)
def StI (M : MD) (pc i pc' : Nat) : Prop := (Ins M pc (.istore i) 2 pc' ∨ ∃ k : Fin 4, (k : Nat) = i ∧ Ins M pc (.istore_n k) 1 pc') ∧ i + 1 ≤ M.2.2.1
theorem r_istoreG {M : MD} {d mc ms pc pc' z k n : Nat} {Q : Option Value → Hp → Nat → Prop} {L S : List Value} {h : Hp} {i : Nat} {x : Int32} {L' : List Value} (hi : StI M pc i pc') (hl : stL1 i (.int x) L = L') (K : R M d mc ms Q pc' L' S h z k n) : R M d mc ms Q pc L (.int x :: S) h z k n := by
  intro p l e Rm s m args below meth c E Qf O H locs ls hH hS hL hk hn
  obtain ⟨hx, hb, hml, hown, hts, hrm, hin, hK, hZ, hX, hB, hRC⟩ := id O
  subst hl
  obtain ⟨hi, hn2⟩ := hi
  rcases hi with ⟨hd, rfl⟩ | ⟨w, hw, hd, rfl⟩
  · exact lv_istore hx hb hd hL (by omega) rfl (fun ls' hL' => K p l e Rm s m args below meth c E Qf O H locs ls' hH hS (lR.st1 hL') hk hn)
  · exact lv_istore_n hx hb hd hw hL (by omega) rfl (fun ls' hL' => K p l e Rm s m args below meth c E Qf O H locs ls' hH hS (lR.st1 hL') hk hn)
def StL (M : MD) (pc i pc' : Nat) : Prop := (Ins M pc (.lstore i) 2 pc' ∨ ∃ k : Fin 4, (k : Nat) = i ∧ Ins M pc (.lstore_n k) 1 pc') ∧ i + 2 ≤ M.2.2.1
theorem r_lstoreG {M : MD} {d mc ms pc pc' z k n : Nat} {Q : Option Value → Hp → Nat → Prop} {L S : List Value} {h : Hp} {i : Nat} {x : Int64} {L' : List Value} (hi : StL M pc i pc') (hl : stL2 i (.long x) L = L') (K : R M d mc ms Q pc' L' S h z k n) : R M d mc ms Q pc L (.long x :: S) h z k n := by
  intro p l e Rm s m args below meth c E Qf O H locs ls hH hS hL hk hn
  obtain ⟨hx, hb, hml, hown, hts, hrm, hin, hK, hZ, hX, hB, hRC⟩ := id O
  subst hl
  obtain ⟨hi, hn2⟩ := hi
  rcases hi with ⟨hd, rfl⟩ | ⟨w, hw, hd, rfl⟩
  · exact lv_lstore hx hb hd hL (by omega) rfl (fun ls' hL' => K p l e Rm s m args below meth c E Qf O H locs ls' hH hS (lR.st2 hL') hk hn)
  · exact lv_lstore_n hx hb hd hw hL (by omega) rfl (fun ls' hL' => K p l e Rm s m args below meth c E Qf O H locs ls' hH hS (lR.st2 hL') hk hn)
def StA (M : MD) (pc i pc' : Nat) : Prop := (Ins M pc (.astore i) 2 pc' ∨ ∃ k : Fin 4, (k : Nat) = i ∧ Ins M pc (.astore_n k) 1 pc') ∧ i + 1 ≤ M.2.2.1
theorem r_astoreG {M : MD} {d mc ms pc pc' z k n : Nat} {Q : Option Value → Hp → Nat → Prop} {L S : List Value} {h : Hp} {i : Nat} {x : Nat} {L' : List Value} (hi : StA M pc i pc') (hl : stL1 i (.ref x) L = L') (K : R M d mc ms Q pc' L' S h z k n) : R M d mc ms Q pc L (.ref x :: S) h z k n := by
  intro p l e Rm s m args below meth c E Qf O H locs ls hH hS hL hk hn
  obtain ⟨hx, hb, hml, hown, hts, hrm, hin, hK, hZ, hX, hB, hRC⟩ := id O
  subst hl
  obtain ⟨hi, hn2⟩ := hi
  rcases hi with ⟨hd, rfl⟩ | ⟨w, hw, hd, rfl⟩
  · exact lv_astore hx hb hd hL (by omega) rfl (fun ls' hL' => K p l e Rm s m args below meth c E Qf O H locs ls' hH hS (lR.st1 hL') hk hn)
  · exact lv_astore_n hx hb hd hw hL (by omega) rfl (fun ls' hL' => K p l e Rm s m args below meth c E Qf O H locs ls' hH hS (lR.st1 hL') hk hn)
def Inc (M : MD) (pc i : Nat) (w : Int) (pc' : Nat) : Prop := Ins M pc (.iinc i w) 3 pc' ∧ i + 1 ≤ M.2.2.1
theorem r_iincG {M : MD} {d mc ms pc pc' z k n : Nat} {Q : Option Value → Hp → Nat → Prop} {L S : List Value} {h : Hp} {i : Nat} {w : Int} {x v : Int32} {L' : List Value} (hi : Inc M pc i w pc') (hl0 : L[i]? = some (.int x)) (hv : x + Int32.ofInt w = v) (hl : stL1 i (.int v) L = L') (K : R M d mc ms Q pc' L' S h z k n) : R M d mc ms Q pc L S h z k n := by
  intro p l e Rm s m args below meth c E Qf O H locs ls hH hS hL hk hn
  obtain ⟨hx, hb, hml, hown, hts, hrm, hin, hK, hZ, hX, hB, hRC⟩ := id O
  subst hl
  obtain ⟨⟨hd, rfl⟩, hn2⟩ := hi
  obtain ⟨kk, hkk⟩ := List.getElem?_of_mem ((tol_mem (E := E) (q := (i, .int x)) L 0).mpr ⟨i, .int x, by simp, hl0, (fun q => by cases q), rfl⟩)
  exact lv_iinc hx hb hd hL hkk hv (by omega) rfl (fun ls' hL' => K p l e Rm s m args below meth c E Qf O H locs ls' hH hS (lR.st1 (v := .int v) hL') hk hn)
theorem r_istore_0 {M : MD} {d mc ms pc pc' z k n : Nat} {Q : Option Value → Hp → Nat → Prop} {S : List Value} {h : Hp} {a0 : Value} {r : List Value} {x : Int32} (hi : StI M pc 0 pc') (K : R M d mc ms Q pc' (.int x :: r) S h z k n) : R M d mc ms Q pc (a0 :: r) (.int x :: S) h z k n := r_istoreG hi (by rfl) K
theorem r_astore_0 {M : MD} {d mc ms pc pc' z k n : Nat} {Q : Option Value → Hp → Nat → Prop} {S : List Value} {h : Hp} {a0 : Value} {r : List Value} {x : Nat} (hi : StA M pc 0 pc') (K : R M d mc ms Q pc' (.ref x :: r) S h z k n) : R M d mc ms Q pc (a0 :: r) (.ref x :: S) h z k n := r_astoreG hi (by rfl) K
theorem r_iinc_0 {M : MD} {d mc ms pc pc' z k n : Nat} {Q : Option Value → Hp → Nat → Prop} {S : List Value} {h : Hp} {r : List Value} {w : Int} {x v : Int32} (hi : Inc M pc 0 w pc') (hv : x + Int32.ofInt w = v) (K : R M d mc ms Q pc' (.int v :: r) S h z k n) : R M d mc ms Q pc (.int x :: r) S h z k n := r_iincG hi rfl hv (by rfl) K
theorem r_lstore_0 {M : MD} {d mc ms pc pc' z k n : Nat} {Q : Option Value → Hp → Nat → Prop} {S : List Value} {h : Hp} { b c : Value} {r : List Value} {x : Int64} (hi : StL M pc 0 pc') (K : R M d mc ms Q pc' (.long x :: .null :: r) S h z k n) : R M d mc ms Q pc (b :: c :: r) (.long x :: S) h z k n := r_lstoreG hi (by rfl) K
theorem r_istore_1 {M : MD} {d mc ms pc pc' z k n : Nat} {Q : Option Value → Hp → Nat → Prop} {S : List Value} {h : Hp} {a0 a1 : Value} {r : List Value} {x : Int32} (hi : StI M pc 1 pc') (hc : clr a0 = a0) (K : R M d mc ms Q pc' (a0 :: .int x :: r) S h z k n) : R M d mc ms Q pc (a0 :: a1 :: r) (.int x :: S) h z k n := r_istoreG hi (by simp only [stL1, hc]) K
theorem r_astore_1 {M : MD} {d mc ms pc pc' z k n : Nat} {Q : Option Value → Hp → Nat → Prop} {S : List Value} {h : Hp} {a0 a1 : Value} {r : List Value} {x : Nat} (hi : StA M pc 1 pc') (hc : clr a0 = a0) (K : R M d mc ms Q pc' (a0 :: .ref x :: r) S h z k n) : R M d mc ms Q pc (a0 :: a1 :: r) (.ref x :: S) h z k n := r_astoreG hi (by simp only [stL1, hc]) K
theorem r_iinc_1 {M : MD} {d mc ms pc pc' z k n : Nat} {Q : Option Value → Hp → Nat → Prop} {S : List Value} {h : Hp} {a0 : Value} {r : List Value} {w : Int} {x v : Int32} (hi : Inc M pc 1 w pc') (hv : x + Int32.ofInt w = v) (hc : clr a0 = a0) (K : R M d mc ms Q pc' (a0 :: .int v :: r) S h z k n) : R M d mc ms Q pc (a0 :: .int x :: r) S h z k n := r_iincG hi rfl hv (by simp only [stL1, hc]) K
theorem r_lstore_1 {M : MD} {d mc ms pc pc' z k n : Nat} {Q : Option Value → Hp → Nat → Prop} {S : List Value} {h : Hp} {a0 b c : Value} {r : List Value} {x : Int64} (hi : StL M pc 1 pc') (hc : clr a0 = a0) (K : R M d mc ms Q pc' (a0 :: .long x :: .null :: r) S h z k n) : R M d mc ms Q pc (a0 :: b :: c :: r) (.long x :: S) h z k n := r_lstoreG hi (by simp only [stL2, hc]) K
theorem r_istore_2 {M : MD} {d mc ms pc pc' z k n : Nat} {Q : Option Value → Hp → Nat → Prop} {S : List Value} {h : Hp} {a0 a1 a2 : Value} {r : List Value} {x : Int32} (hi : StI M pc 2 pc') (hc : clr a1 = a1) (K : R M d mc ms Q pc' (a0 :: a1 :: .int x :: r) S h z k n) : R M d mc ms Q pc (a0 :: a1 :: a2 :: r) (.int x :: S) h z k n := r_istoreG hi (by simp only [stL1, hc]) K
theorem r_astore_2 {M : MD} {d mc ms pc pc' z k n : Nat} {Q : Option Value → Hp → Nat → Prop} {S : List Value} {h : Hp} {a0 a1 a2 : Value} {r : List Value} {x : Nat} (hi : StA M pc 2 pc') (hc : clr a1 = a1) (K : R M d mc ms Q pc' (a0 :: a1 :: .ref x :: r) S h z k n) : R M d mc ms Q pc (a0 :: a1 :: a2 :: r) (.ref x :: S) h z k n := r_astoreG hi (by simp only [stL1, hc]) K
theorem r_iinc_2 {M : MD} {d mc ms pc pc' z k n : Nat} {Q : Option Value → Hp → Nat → Prop} {S : List Value} {h : Hp} {a0 a1 : Value} {r : List Value} {w : Int} {x v : Int32} (hi : Inc M pc 2 w pc') (hv : x + Int32.ofInt w = v) (hc : clr a1 = a1) (K : R M d mc ms Q pc' (a0 :: a1 :: .int v :: r) S h z k n) : R M d mc ms Q pc (a0 :: a1 :: .int x :: r) S h z k n := r_iincG hi rfl hv (by simp only [stL1, hc]) K
theorem r_lstore_2 {M : MD} {d mc ms pc pc' z k n : Nat} {Q : Option Value → Hp → Nat → Prop} {S : List Value} {h : Hp} {a0 a1 b c : Value} {r : List Value} {x : Int64} (hi : StL M pc 2 pc') (hc : clr a1 = a1) (K : R M d mc ms Q pc' (a0 :: a1 :: .long x :: .null :: r) S h z k n) : R M d mc ms Q pc (a0 :: a1 :: b :: c :: r) (.long x :: S) h z k n := r_lstoreG hi (by simp only [stL2, hc]) K
theorem r_istore_3 {M : MD} {d mc ms pc pc' z k n : Nat} {Q : Option Value → Hp → Nat → Prop} {S : List Value} {h : Hp} {a0 a1 a2 a3 : Value} {r : List Value} {x : Int32} (hi : StI M pc 3 pc') (hc : clr a2 = a2) (K : R M d mc ms Q pc' (a0 :: a1 :: a2 :: .int x :: r) S h z k n) : R M d mc ms Q pc (a0 :: a1 :: a2 :: a3 :: r) (.int x :: S) h z k n := r_istoreG hi (by simp only [stL1, hc]) K
theorem r_astore_3 {M : MD} {d mc ms pc pc' z k n : Nat} {Q : Option Value → Hp → Nat → Prop} {S : List Value} {h : Hp} {a0 a1 a2 a3 : Value} {r : List Value} {x : Nat} (hi : StA M pc 3 pc') (hc : clr a2 = a2) (K : R M d mc ms Q pc' (a0 :: a1 :: a2 :: .ref x :: r) S h z k n) : R M d mc ms Q pc (a0 :: a1 :: a2 :: a3 :: r) (.ref x :: S) h z k n := r_astoreG hi (by simp only [stL1, hc]) K
theorem r_iinc_3 {M : MD} {d mc ms pc pc' z k n : Nat} {Q : Option Value → Hp → Nat → Prop} {S : List Value} {h : Hp} {a0 a1 a2 : Value} {r : List Value} {w : Int} {x v : Int32} (hi : Inc M pc 3 w pc') (hv : x + Int32.ofInt w = v) (hc : clr a2 = a2) (K : R M d mc ms Q pc' (a0 :: a1 :: a2 :: .int v :: r) S h z k n) : R M d mc ms Q pc (a0 :: a1 :: a2 :: .int x :: r) S h z k n := r_iincG hi rfl hv (by simp only [stL1, hc]) K
theorem r_lstore_3 {M : MD} {d mc ms pc pc' z k n : Nat} {Q : Option Value → Hp → Nat → Prop} {S : List Value} {h : Hp} {a0 a1 a2 b c : Value} {r : List Value} {x : Int64} (hi : StL M pc 3 pc') (hc : clr a2 = a2) (K : R M d mc ms Q pc' (a0 :: a1 :: a2 :: .long x :: .null :: r) S h z k n) : R M d mc ms Q pc (a0 :: a1 :: a2 :: b :: c :: r) (.long x :: S) h z k n := r_lstoreG hi (by simp only [stL2, hc]) K
theorem r_istore_4 {M : MD} {d mc ms pc pc' z k n : Nat} {Q : Option Value → Hp → Nat → Prop} {S : List Value} {h : Hp} {a0 a1 a2 a3 a4 : Value} {r : List Value} {x : Int32} (hi : StI M pc 4 pc') (hc : clr a3 = a3) (K : R M d mc ms Q pc' (a0 :: a1 :: a2 :: a3 :: .int x :: r) S h z k n) : R M d mc ms Q pc (a0 :: a1 :: a2 :: a3 :: a4 :: r) (.int x :: S) h z k n := r_istoreG hi (by simp only [stL1, hc]) K
theorem r_astore_4 {M : MD} {d mc ms pc pc' z k n : Nat} {Q : Option Value → Hp → Nat → Prop} {S : List Value} {h : Hp} {a0 a1 a2 a3 a4 : Value} {r : List Value} {x : Nat} (hi : StA M pc 4 pc') (hc : clr a3 = a3) (K : R M d mc ms Q pc' (a0 :: a1 :: a2 :: a3 :: .ref x :: r) S h z k n) : R M d mc ms Q pc (a0 :: a1 :: a2 :: a3 :: a4 :: r) (.ref x :: S) h z k n := r_astoreG hi (by simp only [stL1, hc]) K
theorem r_iinc_4 {M : MD} {d mc ms pc pc' z k n : Nat} {Q : Option Value → Hp → Nat → Prop} {S : List Value} {h : Hp} {a0 a1 a2 a3 : Value} {r : List Value} {w : Int} {x v : Int32} (hi : Inc M pc 4 w pc') (hv : x + Int32.ofInt w = v) (hc : clr a3 = a3) (K : R M d mc ms Q pc' (a0 :: a1 :: a2 :: a3 :: .int v :: r) S h z k n) : R M d mc ms Q pc (a0 :: a1 :: a2 :: a3 :: .int x :: r) S h z k n := r_iincG hi rfl hv (by simp only [stL1, hc]) K
theorem r_lstore_4 {M : MD} {d mc ms pc pc' z k n : Nat} {Q : Option Value → Hp → Nat → Prop} {S : List Value} {h : Hp} {a0 a1 a2 a3 b c : Value} {r : List Value} {x : Int64} (hi : StL M pc 4 pc') (hc : clr a3 = a3) (K : R M d mc ms Q pc' (a0 :: a1 :: a2 :: a3 :: .long x :: .null :: r) S h z k n) : R M d mc ms Q pc (a0 :: a1 :: a2 :: a3 :: b :: c :: r) (.long x :: S) h z k n := r_lstoreG hi (by simp only [stL2, hc]) K
theorem r_istore_5 {M : MD} {d mc ms pc pc' z k n : Nat} {Q : Option Value → Hp → Nat → Prop} {S : List Value} {h : Hp} {a0 a1 a2 a3 a4 a5 : Value} {r : List Value} {x : Int32} (hi : StI M pc 5 pc') (hc : clr a4 = a4) (K : R M d mc ms Q pc' (a0 :: a1 :: a2 :: a3 :: a4 :: .int x :: r) S h z k n) : R M d mc ms Q pc (a0 :: a1 :: a2 :: a3 :: a4 :: a5 :: r) (.int x :: S) h z k n := r_istoreG hi (by simp only [stL1, hc]) K
theorem r_astore_5 {M : MD} {d mc ms pc pc' z k n : Nat} {Q : Option Value → Hp → Nat → Prop} {S : List Value} {h : Hp} {a0 a1 a2 a3 a4 a5 : Value} {r : List Value} {x : Nat} (hi : StA M pc 5 pc') (hc : clr a4 = a4) (K : R M d mc ms Q pc' (a0 :: a1 :: a2 :: a3 :: a4 :: .ref x :: r) S h z k n) : R M d mc ms Q pc (a0 :: a1 :: a2 :: a3 :: a4 :: a5 :: r) (.ref x :: S) h z k n := r_astoreG hi (by simp only [stL1, hc]) K
theorem r_iinc_5 {M : MD} {d mc ms pc pc' z k n : Nat} {Q : Option Value → Hp → Nat → Prop} {S : List Value} {h : Hp} {a0 a1 a2 a3 a4 : Value} {r : List Value} {w : Int} {x v : Int32} (hi : Inc M pc 5 w pc') (hv : x + Int32.ofInt w = v) (hc : clr a4 = a4) (K : R M d mc ms Q pc' (a0 :: a1 :: a2 :: a3 :: a4 :: .int v :: r) S h z k n) : R M d mc ms Q pc (a0 :: a1 :: a2 :: a3 :: a4 :: .int x :: r) S h z k n := r_iincG hi rfl hv (by simp only [stL1, hc]) K
theorem r_lstore_5 {M : MD} {d mc ms pc pc' z k n : Nat} {Q : Option Value → Hp → Nat → Prop} {S : List Value} {h : Hp} {a0 a1 a2 a3 a4 b c : Value} {r : List Value} {x : Int64} (hi : StL M pc 5 pc') (hc : clr a4 = a4) (K : R M d mc ms Q pc' (a0 :: a1 :: a2 :: a3 :: a4 :: .long x :: .null :: r) S h z k n) : R M d mc ms Q pc (a0 :: a1 :: a2 :: a3 :: a4 :: b :: c :: r) (.long x :: S) h z k n := r_lstoreG hi (by simp only [stL2, hc]) K
theorem r_istore_6 {M : MD} {d mc ms pc pc' z k n : Nat} {Q : Option Value → Hp → Nat → Prop} {S : List Value} {h : Hp} {a0 a1 a2 a3 a4 a5 a6 : Value} {r : List Value} {x : Int32} (hi : StI M pc 6 pc') (hc : clr a5 = a5) (K : R M d mc ms Q pc' (a0 :: a1 :: a2 :: a3 :: a4 :: a5 :: .int x :: r) S h z k n) : R M d mc ms Q pc (a0 :: a1 :: a2 :: a3 :: a4 :: a5 :: a6 :: r) (.int x :: S) h z k n := r_istoreG hi (by simp only [stL1, hc]) K
theorem r_astore_6 {M : MD} {d mc ms pc pc' z k n : Nat} {Q : Option Value → Hp → Nat → Prop} {S : List Value} {h : Hp} {a0 a1 a2 a3 a4 a5 a6 : Value} {r : List Value} {x : Nat} (hi : StA M pc 6 pc') (hc : clr a5 = a5) (K : R M d mc ms Q pc' (a0 :: a1 :: a2 :: a3 :: a4 :: a5 :: .ref x :: r) S h z k n) : R M d mc ms Q pc (a0 :: a1 :: a2 :: a3 :: a4 :: a5 :: a6 :: r) (.ref x :: S) h z k n := r_astoreG hi (by simp only [stL1, hc]) K
theorem r_iinc_6 {M : MD} {d mc ms pc pc' z k n : Nat} {Q : Option Value → Hp → Nat → Prop} {S : List Value} {h : Hp} {a0 a1 a2 a3 a4 a5 : Value} {r : List Value} {w : Int} {x v : Int32} (hi : Inc M pc 6 w pc') (hv : x + Int32.ofInt w = v) (hc : clr a5 = a5) (K : R M d mc ms Q pc' (a0 :: a1 :: a2 :: a3 :: a4 :: a5 :: .int v :: r) S h z k n) : R M d mc ms Q pc (a0 :: a1 :: a2 :: a3 :: a4 :: a5 :: .int x :: r) S h z k n := r_iincG hi rfl hv (by simp only [stL1, hc]) K
theorem r_lstore_6 {M : MD} {d mc ms pc pc' z k n : Nat} {Q : Option Value → Hp → Nat → Prop} {S : List Value} {h : Hp} {a0 a1 a2 a3 a4 a5 b c : Value} {r : List Value} {x : Int64} (hi : StL M pc 6 pc') (hc : clr a5 = a5) (K : R M d mc ms Q pc' (a0 :: a1 :: a2 :: a3 :: a4 :: a5 :: .long x :: .null :: r) S h z k n) : R M d mc ms Q pc (a0 :: a1 :: a2 :: a3 :: a4 :: a5 :: b :: c :: r) (.long x :: S) h z k n := r_lstoreG hi (by simp only [stL2, hc]) K
theorem r_istore_7 {M : MD} {d mc ms pc pc' z k n : Nat} {Q : Option Value → Hp → Nat → Prop} {S : List Value} {h : Hp} {a0 a1 a2 a3 a4 a5 a6 a7 : Value} {r : List Value} {x : Int32} (hi : StI M pc 7 pc') (hc : clr a6 = a6) (K : R M d mc ms Q pc' (a0 :: a1 :: a2 :: a3 :: a4 :: a5 :: a6 :: .int x :: r) S h z k n) : R M d mc ms Q pc (a0 :: a1 :: a2 :: a3 :: a4 :: a5 :: a6 :: a7 :: r) (.int x :: S) h z k n := r_istoreG hi (by simp only [stL1, hc]) K
theorem r_astore_7 {M : MD} {d mc ms pc pc' z k n : Nat} {Q : Option Value → Hp → Nat → Prop} {S : List Value} {h : Hp} {a0 a1 a2 a3 a4 a5 a6 a7 : Value} {r : List Value} {x : Nat} (hi : StA M pc 7 pc') (hc : clr a6 = a6) (K : R M d mc ms Q pc' (a0 :: a1 :: a2 :: a3 :: a4 :: a5 :: a6 :: .ref x :: r) S h z k n) : R M d mc ms Q pc (a0 :: a1 :: a2 :: a3 :: a4 :: a5 :: a6 :: a7 :: r) (.ref x :: S) h z k n := r_astoreG hi (by simp only [stL1, hc]) K
theorem r_iinc_7 {M : MD} {d mc ms pc pc' z k n : Nat} {Q : Option Value → Hp → Nat → Prop} {S : List Value} {h : Hp} {a0 a1 a2 a3 a4 a5 a6 : Value} {r : List Value} {w : Int} {x v : Int32} (hi : Inc M pc 7 w pc') (hv : x + Int32.ofInt w = v) (hc : clr a6 = a6) (K : R M d mc ms Q pc' (a0 :: a1 :: a2 :: a3 :: a4 :: a5 :: a6 :: .int v :: r) S h z k n) : R M d mc ms Q pc (a0 :: a1 :: a2 :: a3 :: a4 :: a5 :: a6 :: .int x :: r) S h z k n := r_iincG hi rfl hv (by simp only [stL1, hc]) K
theorem r_lstore_7 {M : MD} {d mc ms pc pc' z k n : Nat} {Q : Option Value → Hp → Nat → Prop} {S : List Value} {h : Hp} {a0 a1 a2 a3 a4 a5 a6 b c : Value} {r : List Value} {x : Int64} (hi : StL M pc 7 pc') (hc : clr a6 = a6) (K : R M d mc ms Q pc' (a0 :: a1 :: a2 :: a3 :: a4 :: a5 :: a6 :: .long x :: .null :: r) S h z k n) : R M d mc ms Q pc (a0 :: a1 :: a2 :: a3 :: a4 :: a5 :: a6 :: b :: c :: r) (.long x :: S) h z k n := r_lstoreG hi (by simp only [stL2, hc]) K
theorem r_istore_8 {M : MD} {d mc ms pc pc' z k n : Nat} {Q : Option Value → Hp → Nat → Prop} {S : List Value} {h : Hp} {a0 a1 a2 a3 a4 a5 a6 a7 a8 : Value} {r : List Value} {x : Int32} (hi : StI M pc 8 pc') (hc : clr a7 = a7) (K : R M d mc ms Q pc' (a0 :: a1 :: a2 :: a3 :: a4 :: a5 :: a6 :: a7 :: .int x :: r) S h z k n) : R M d mc ms Q pc (a0 :: a1 :: a2 :: a3 :: a4 :: a5 :: a6 :: a7 :: a8 :: r) (.int x :: S) h z k n := r_istoreG hi (by simp only [stL1, hc]) K
theorem r_astore_8 {M : MD} {d mc ms pc pc' z k n : Nat} {Q : Option Value → Hp → Nat → Prop} {S : List Value} {h : Hp} {a0 a1 a2 a3 a4 a5 a6 a7 a8 : Value} {r : List Value} {x : Nat} (hi : StA M pc 8 pc') (hc : clr a7 = a7) (K : R M d mc ms Q pc' (a0 :: a1 :: a2 :: a3 :: a4 :: a5 :: a6 :: a7 :: .ref x :: r) S h z k n) : R M d mc ms Q pc (a0 :: a1 :: a2 :: a3 :: a4 :: a5 :: a6 :: a7 :: a8 :: r) (.ref x :: S) h z k n := r_astoreG hi (by simp only [stL1, hc]) K
theorem r_iinc_8 {M : MD} {d mc ms pc pc' z k n : Nat} {Q : Option Value → Hp → Nat → Prop} {S : List Value} {h : Hp} {a0 a1 a2 a3 a4 a5 a6 a7 : Value} {r : List Value} {w : Int} {x v : Int32} (hi : Inc M pc 8 w pc') (hv : x + Int32.ofInt w = v) (hc : clr a7 = a7) (K : R M d mc ms Q pc' (a0 :: a1 :: a2 :: a3 :: a4 :: a5 :: a6 :: a7 :: .int v :: r) S h z k n) : R M d mc ms Q pc (a0 :: a1 :: a2 :: a3 :: a4 :: a5 :: a6 :: a7 :: .int x :: r) S h z k n := r_iincG hi rfl hv (by simp only [stL1, hc]) K
theorem r_lstore_8 {M : MD} {d mc ms pc pc' z k n : Nat} {Q : Option Value → Hp → Nat → Prop} {S : List Value} {h : Hp} {a0 a1 a2 a3 a4 a5 a6 a7 b c : Value} {r : List Value} {x : Int64} (hi : StL M pc 8 pc') (hc : clr a7 = a7) (K : R M d mc ms Q pc' (a0 :: a1 :: a2 :: a3 :: a4 :: a5 :: a6 :: a7 :: .long x :: .null :: r) S h z k n) : R M d mc ms Q pc (a0 :: a1 :: a2 :: a3 :: a4 :: a5 :: a6 :: a7 :: b :: c :: r) (.long x :: S) h z k n := r_lstoreG hi (by simp only [stL2, hc]) K
theorem r_istore_9 {M : MD} {d mc ms pc pc' z k n : Nat} {Q : Option Value → Hp → Nat → Prop} {S : List Value} {h : Hp} {a0 a1 a2 a3 a4 a5 a6 a7 a8 a9 : Value} {r : List Value} {x : Int32} (hi : StI M pc 9 pc') (hc : clr a8 = a8) (K : R M d mc ms Q pc' (a0 :: a1 :: a2 :: a3 :: a4 :: a5 :: a6 :: a7 :: a8 :: .int x :: r) S h z k n) : R M d mc ms Q pc (a0 :: a1 :: a2 :: a3 :: a4 :: a5 :: a6 :: a7 :: a8 :: a9 :: r) (.int x :: S) h z k n := r_istoreG hi (by simp only [stL1, hc]) K
theorem r_astore_9 {M : MD} {d mc ms pc pc' z k n : Nat} {Q : Option Value → Hp → Nat → Prop} {S : List Value} {h : Hp} {a0 a1 a2 a3 a4 a5 a6 a7 a8 a9 : Value} {r : List Value} {x : Nat} (hi : StA M pc 9 pc') (hc : clr a8 = a8) (K : R M d mc ms Q pc' (a0 :: a1 :: a2 :: a3 :: a4 :: a5 :: a6 :: a7 :: a8 :: .ref x :: r) S h z k n) : R M d mc ms Q pc (a0 :: a1 :: a2 :: a3 :: a4 :: a5 :: a6 :: a7 :: a8 :: a9 :: r) (.ref x :: S) h z k n := r_astoreG hi (by simp only [stL1, hc]) K
theorem r_iinc_9 {M : MD} {d mc ms pc pc' z k n : Nat} {Q : Option Value → Hp → Nat → Prop} {S : List Value} {h : Hp} {a0 a1 a2 a3 a4 a5 a6 a7 a8 : Value} {r : List Value} {w : Int} {x v : Int32} (hi : Inc M pc 9 w pc') (hv : x + Int32.ofInt w = v) (hc : clr a8 = a8) (K : R M d mc ms Q pc' (a0 :: a1 :: a2 :: a3 :: a4 :: a5 :: a6 :: a7 :: a8 :: .int v :: r) S h z k n) : R M d mc ms Q pc (a0 :: a1 :: a2 :: a3 :: a4 :: a5 :: a6 :: a7 :: a8 :: .int x :: r) S h z k n := r_iincG hi rfl hv (by simp only [stL1, hc]) K
theorem r_lstore_9 {M : MD} {d mc ms pc pc' z k n : Nat} {Q : Option Value → Hp → Nat → Prop} {S : List Value} {h : Hp} {a0 a1 a2 a3 a4 a5 a6 a7 a8 b c : Value} {r : List Value} {x : Int64} (hi : StL M pc 9 pc') (hc : clr a8 = a8) (K : R M d mc ms Q pc' (a0 :: a1 :: a2 :: a3 :: a4 :: a5 :: a6 :: a7 :: a8 :: .long x :: .null :: r) S h z k n) : R M d mc ms Q pc (a0 :: a1 :: a2 :: a3 :: a4 :: a5 :: a6 :: a7 :: a8 :: b :: c :: r) (.long x :: S) h z k n := r_lstoreG hi (by simp only [stL2, hc]) K
theorem r_istore_10 {M : MD} {d mc ms pc pc' z k n : Nat} {Q : Option Value → Hp → Nat → Prop} {S : List Value} {h : Hp} {a0 a1 a2 a3 a4 a5 a6 a7 a8 a9 a10 : Value} {r : List Value} {x : Int32} (hi : StI M pc 10 pc') (hc : clr a9 = a9) (K : R M d mc ms Q pc' (a0 :: a1 :: a2 :: a3 :: a4 :: a5 :: a6 :: a7 :: a8 :: a9 :: .int x :: r) S h z k n) : R M d mc ms Q pc (a0 :: a1 :: a2 :: a3 :: a4 :: a5 :: a6 :: a7 :: a8 :: a9 :: a10 :: r) (.int x :: S) h z k n := r_istoreG hi (by simp only [stL1, hc]) K
theorem r_astore_10 {M : MD} {d mc ms pc pc' z k n : Nat} {Q : Option Value → Hp → Nat → Prop} {S : List Value} {h : Hp} {a0 a1 a2 a3 a4 a5 a6 a7 a8 a9 a10 : Value} {r : List Value} {x : Nat} (hi : StA M pc 10 pc') (hc : clr a9 = a9) (K : R M d mc ms Q pc' (a0 :: a1 :: a2 :: a3 :: a4 :: a5 :: a6 :: a7 :: a8 :: a9 :: .ref x :: r) S h z k n) : R M d mc ms Q pc (a0 :: a1 :: a2 :: a3 :: a4 :: a5 :: a6 :: a7 :: a8 :: a9 :: a10 :: r) (.ref x :: S) h z k n := r_astoreG hi (by simp only [stL1, hc]) K
theorem r_iinc_10 {M : MD} {d mc ms pc pc' z k n : Nat} {Q : Option Value → Hp → Nat → Prop} {S : List Value} {h : Hp} {a0 a1 a2 a3 a4 a5 a6 a7 a8 a9 : Value} {r : List Value} {w : Int} {x v : Int32} (hi : Inc M pc 10 w pc') (hv : x + Int32.ofInt w = v) (hc : clr a9 = a9) (K : R M d mc ms Q pc' (a0 :: a1 :: a2 :: a3 :: a4 :: a5 :: a6 :: a7 :: a8 :: a9 :: .int v :: r) S h z k n) : R M d mc ms Q pc (a0 :: a1 :: a2 :: a3 :: a4 :: a5 :: a6 :: a7 :: a8 :: a9 :: .int x :: r) S h z k n := r_iincG hi rfl hv (by simp only [stL1, hc]) K
theorem r_lstore_10 {M : MD} {d mc ms pc pc' z k n : Nat} {Q : Option Value → Hp → Nat → Prop} {S : List Value} {h : Hp} {a0 a1 a2 a3 a4 a5 a6 a7 a8 a9 b c : Value} {r : List Value} {x : Int64} (hi : StL M pc 10 pc') (hc : clr a9 = a9) (K : R M d mc ms Q pc' (a0 :: a1 :: a2 :: a3 :: a4 :: a5 :: a6 :: a7 :: a8 :: a9 :: .long x :: .null :: r) S h z k n) : R M d mc ms Q pc (a0 :: a1 :: a2 :: a3 :: a4 :: a5 :: a6 :: a7 :: a8 :: a9 :: b :: c :: r) (.long x :: S) h z k n := r_lstoreG hi (by simp only [stL2, hc]) K
theorem r_istore_11 {M : MD} {d mc ms pc pc' z k n : Nat} {Q : Option Value → Hp → Nat → Prop} {S : List Value} {h : Hp} {a0 a1 a2 a3 a4 a5 a6 a7 a8 a9 a10 a11 : Value} {r : List Value} {x : Int32} (hi : StI M pc 11 pc') (hc : clr a10 = a10) (K : R M d mc ms Q pc' (a0 :: a1 :: a2 :: a3 :: a4 :: a5 :: a6 :: a7 :: a8 :: a9 :: a10 :: .int x :: r) S h z k n) : R M d mc ms Q pc (a0 :: a1 :: a2 :: a3 :: a4 :: a5 :: a6 :: a7 :: a8 :: a9 :: a10 :: a11 :: r) (.int x :: S) h z k n := r_istoreG hi (by simp only [stL1, hc]) K
theorem r_astore_11 {M : MD} {d mc ms pc pc' z k n : Nat} {Q : Option Value → Hp → Nat → Prop} {S : List Value} {h : Hp} {a0 a1 a2 a3 a4 a5 a6 a7 a8 a9 a10 a11 : Value} {r : List Value} {x : Nat} (hi : StA M pc 11 pc') (hc : clr a10 = a10) (K : R M d mc ms Q pc' (a0 :: a1 :: a2 :: a3 :: a4 :: a5 :: a6 :: a7 :: a8 :: a9 :: a10 :: .ref x :: r) S h z k n) : R M d mc ms Q pc (a0 :: a1 :: a2 :: a3 :: a4 :: a5 :: a6 :: a7 :: a8 :: a9 :: a10 :: a11 :: r) (.ref x :: S) h z k n := r_astoreG hi (by simp only [stL1, hc]) K
theorem r_iinc_11 {M : MD} {d mc ms pc pc' z k n : Nat} {Q : Option Value → Hp → Nat → Prop} {S : List Value} {h : Hp} {a0 a1 a2 a3 a4 a5 a6 a7 a8 a9 a10 : Value} {r : List Value} {w : Int} {x v : Int32} (hi : Inc M pc 11 w pc') (hv : x + Int32.ofInt w = v) (hc : clr a10 = a10) (K : R M d mc ms Q pc' (a0 :: a1 :: a2 :: a3 :: a4 :: a5 :: a6 :: a7 :: a8 :: a9 :: a10 :: .int v :: r) S h z k n) : R M d mc ms Q pc (a0 :: a1 :: a2 :: a3 :: a4 :: a5 :: a6 :: a7 :: a8 :: a9 :: a10 :: .int x :: r) S h z k n := r_iincG hi rfl hv (by simp only [stL1, hc]) K
theorem r_lstore_11 {M : MD} {d mc ms pc pc' z k n : Nat} {Q : Option Value → Hp → Nat → Prop} {S : List Value} {h : Hp} {a0 a1 a2 a3 a4 a5 a6 a7 a8 a9 a10 b c : Value} {r : List Value} {x : Int64} (hi : StL M pc 11 pc') (hc : clr a10 = a10) (K : R M d mc ms Q pc' (a0 :: a1 :: a2 :: a3 :: a4 :: a5 :: a6 :: a7 :: a8 :: a9 :: a10 :: .long x :: .null :: r) S h z k n) : R M d mc ms Q pc (a0 :: a1 :: a2 :: a3 :: a4 :: a5 :: a6 :: a7 :: a8 :: a9 :: a10 :: b :: c :: r) (.long x :: S) h z k n := r_lstoreG hi (by simp only [stL2, hc]) K
theorem r_istore_12 {M : MD} {d mc ms pc pc' z k n : Nat} {Q : Option Value → Hp → Nat → Prop} {S : List Value} {h : Hp} {a0 a1 a2 a3 a4 a5 a6 a7 a8 a9 a10 a11 a12 : Value} {r : List Value} {x : Int32} (hi : StI M pc 12 pc') (hc : clr a11 = a11) (K : R M d mc ms Q pc' (a0 :: a1 :: a2 :: a3 :: a4 :: a5 :: a6 :: a7 :: a8 :: a9 :: a10 :: a11 :: .int x :: r) S h z k n) : R M d mc ms Q pc (a0 :: a1 :: a2 :: a3 :: a4 :: a5 :: a6 :: a7 :: a8 :: a9 :: a10 :: a11 :: a12 :: r) (.int x :: S) h z k n := r_istoreG hi (by simp only [stL1, hc]) K
theorem r_astore_12 {M : MD} {d mc ms pc pc' z k n : Nat} {Q : Option Value → Hp → Nat → Prop} {S : List Value} {h : Hp} {a0 a1 a2 a3 a4 a5 a6 a7 a8 a9 a10 a11 a12 : Value} {r : List Value} {x : Nat} (hi : StA M pc 12 pc') (hc : clr a11 = a11) (K : R M d mc ms Q pc' (a0 :: a1 :: a2 :: a3 :: a4 :: a5 :: a6 :: a7 :: a8 :: a9 :: a10 :: a11 :: .ref x :: r) S h z k n) : R M d mc ms Q pc (a0 :: a1 :: a2 :: a3 :: a4 :: a5 :: a6 :: a7 :: a8 :: a9 :: a10 :: a11 :: a12 :: r) (.ref x :: S) h z k n := r_astoreG hi (by simp only [stL1, hc]) K
theorem r_iinc_12 {M : MD} {d mc ms pc pc' z k n : Nat} {Q : Option Value → Hp → Nat → Prop} {S : List Value} {h : Hp} {a0 a1 a2 a3 a4 a5 a6 a7 a8 a9 a10 a11 : Value} {r : List Value} {w : Int} {x v : Int32} (hi : Inc M pc 12 w pc') (hv : x + Int32.ofInt w = v) (hc : clr a11 = a11) (K : R M d mc ms Q pc' (a0 :: a1 :: a2 :: a3 :: a4 :: a5 :: a6 :: a7 :: a8 :: a9 :: a10 :: a11 :: .int v :: r) S h z k n) : R M d mc ms Q pc (a0 :: a1 :: a2 :: a3 :: a4 :: a5 :: a6 :: a7 :: a8 :: a9 :: a10 :: a11 :: .int x :: r) S h z k n := r_iincG hi rfl hv (by simp only [stL1, hc]) K
theorem r_lstore_12 {M : MD} {d mc ms pc pc' z k n : Nat} {Q : Option Value → Hp → Nat → Prop} {S : List Value} {h : Hp} {a0 a1 a2 a3 a4 a5 a6 a7 a8 a9 a10 a11 b c : Value} {r : List Value} {x : Int64} (hi : StL M pc 12 pc') (hc : clr a11 = a11) (K : R M d mc ms Q pc' (a0 :: a1 :: a2 :: a3 :: a4 :: a5 :: a6 :: a7 :: a8 :: a9 :: a10 :: a11 :: .long x :: .null :: r) S h z k n) : R M d mc ms Q pc (a0 :: a1 :: a2 :: a3 :: a4 :: a5 :: a6 :: a7 :: a8 :: a9 :: a10 :: a11 :: b :: c :: r) (.long x :: S) h z k n := r_lstoreG hi (by simp only [stL2, hc]) K
theorem r_istore_13 {M : MD} {d mc ms pc pc' z k n : Nat} {Q : Option Value → Hp → Nat → Prop} {S : List Value} {h : Hp} {a0 a1 a2 a3 a4 a5 a6 a7 a8 a9 a10 a11 a12 a13 : Value} {r : List Value} {x : Int32} (hi : StI M pc 13 pc') (hc : clr a12 = a12) (K : R M d mc ms Q pc' (a0 :: a1 :: a2 :: a3 :: a4 :: a5 :: a6 :: a7 :: a8 :: a9 :: a10 :: a11 :: a12 :: .int x :: r) S h z k n) : R M d mc ms Q pc (a0 :: a1 :: a2 :: a3 :: a4 :: a5 :: a6 :: a7 :: a8 :: a9 :: a10 :: a11 :: a12 :: a13 :: r) (.int x :: S) h z k n := r_istoreG hi (by simp only [stL1, hc]) K
theorem r_astore_13 {M : MD} {d mc ms pc pc' z k n : Nat} {Q : Option Value → Hp → Nat → Prop} {S : List Value} {h : Hp} {a0 a1 a2 a3 a4 a5 a6 a7 a8 a9 a10 a11 a12 a13 : Value} {r : List Value} {x : Nat} (hi : StA M pc 13 pc') (hc : clr a12 = a12) (K : R M d mc ms Q pc' (a0 :: a1 :: a2 :: a3 :: a4 :: a5 :: a6 :: a7 :: a8 :: a9 :: a10 :: a11 :: a12 :: .ref x :: r) S h z k n) : R M d mc ms Q pc (a0 :: a1 :: a2 :: a3 :: a4 :: a5 :: a6 :: a7 :: a8 :: a9 :: a10 :: a11 :: a12 :: a13 :: r) (.ref x :: S) h z k n := r_astoreG hi (by simp only [stL1, hc]) K
theorem r_iinc_13 {M : MD} {d mc ms pc pc' z k n : Nat} {Q : Option Value → Hp → Nat → Prop} {S : List Value} {h : Hp} {a0 a1 a2 a3 a4 a5 a6 a7 a8 a9 a10 a11 a12 : Value} {r : List Value} {w : Int} {x v : Int32} (hi : Inc M pc 13 w pc') (hv : x + Int32.ofInt w = v) (hc : clr a12 = a12) (K : R M d mc ms Q pc' (a0 :: a1 :: a2 :: a3 :: a4 :: a5 :: a6 :: a7 :: a8 :: a9 :: a10 :: a11 :: a12 :: .int v :: r) S h z k n) : R M d mc ms Q pc (a0 :: a1 :: a2 :: a3 :: a4 :: a5 :: a6 :: a7 :: a8 :: a9 :: a10 :: a11 :: a12 :: .int x :: r) S h z k n := r_iincG hi rfl hv (by simp only [stL1, hc]) K
theorem r_lstore_13 {M : MD} {d mc ms pc pc' z k n : Nat} {Q : Option Value → Hp → Nat → Prop} {S : List Value} {h : Hp} {a0 a1 a2 a3 a4 a5 a6 a7 a8 a9 a10 a11 a12 b c : Value} {r : List Value} {x : Int64} (hi : StL M pc 13 pc') (hc : clr a12 = a12) (K : R M d mc ms Q pc' (a0 :: a1 :: a2 :: a3 :: a4 :: a5 :: a6 :: a7 :: a8 :: a9 :: a10 :: a11 :: a12 :: .long x :: .null :: r) S h z k n) : R M d mc ms Q pc (a0 :: a1 :: a2 :: a3 :: a4 :: a5 :: a6 :: a7 :: a8 :: a9 :: a10 :: a11 :: a12 :: b :: c :: r) (.long x :: S) h z k n := r_lstoreG hi (by simp only [stL2, hc]) K
theorem r_istore_14 {M : MD} {d mc ms pc pc' z k n : Nat} {Q : Option Value → Hp → Nat → Prop} {S : List Value} {h : Hp} {a0 a1 a2 a3 a4 a5 a6 a7 a8 a9 a10 a11 a12 a13 a14 : Value} {r : List Value} {x : Int32} (hi : StI M pc 14 pc') (hc : clr a13 = a13) (K : R M d mc ms Q pc' (a0 :: a1 :: a2 :: a3 :: a4 :: a5 :: a6 :: a7 :: a8 :: a9 :: a10 :: a11 :: a12 :: a13 :: .int x :: r) S h z k n) : R M d mc ms Q pc (a0 :: a1 :: a2 :: a3 :: a4 :: a5 :: a6 :: a7 :: a8 :: a9 :: a10 :: a11 :: a12 :: a13 :: a14 :: r) (.int x :: S) h z k n := r_istoreG hi (by simp only [stL1, hc]) K
theorem r_astore_14 {M : MD} {d mc ms pc pc' z k n : Nat} {Q : Option Value → Hp → Nat → Prop} {S : List Value} {h : Hp} {a0 a1 a2 a3 a4 a5 a6 a7 a8 a9 a10 a11 a12 a13 a14 : Value} {r : List Value} {x : Nat} (hi : StA M pc 14 pc') (hc : clr a13 = a13) (K : R M d mc ms Q pc' (a0 :: a1 :: a2 :: a3 :: a4 :: a5 :: a6 :: a7 :: a8 :: a9 :: a10 :: a11 :: a12 :: a13 :: .ref x :: r) S h z k n) : R M d mc ms Q pc (a0 :: a1 :: a2 :: a3 :: a4 :: a5 :: a6 :: a7 :: a8 :: a9 :: a10 :: a11 :: a12 :: a13 :: a14 :: r) (.ref x :: S) h z k n := r_astoreG hi (by simp only [stL1, hc]) K
theorem r_iinc_14 {M : MD} {d mc ms pc pc' z k n : Nat} {Q : Option Value → Hp → Nat → Prop} {S : List Value} {h : Hp} {a0 a1 a2 a3 a4 a5 a6 a7 a8 a9 a10 a11 a12 a13 : Value} {r : List Value} {w : Int} {x v : Int32} (hi : Inc M pc 14 w pc') (hv : x + Int32.ofInt w = v) (hc : clr a13 = a13) (K : R M d mc ms Q pc' (a0 :: a1 :: a2 :: a3 :: a4 :: a5 :: a6 :: a7 :: a8 :: a9 :: a10 :: a11 :: a12 :: a13 :: .int v :: r) S h z k n) : R M d mc ms Q pc (a0 :: a1 :: a2 :: a3 :: a4 :: a5 :: a6 :: a7 :: a8 :: a9 :: a10 :: a11 :: a12 :: a13 :: .int x :: r) S h z k n := r_iincG hi rfl hv (by simp only [stL1, hc]) K
theorem r_lstore_14 {M : MD} {d mc ms pc pc' z k n : Nat} {Q : Option Value → Hp → Nat → Prop} {S : List Value} {h : Hp} {a0 a1 a2 a3 a4 a5 a6 a7 a8 a9 a10 a11 a12 a13 b c : Value} {r : List Value} {x : Int64} (hi : StL M pc 14 pc') (hc : clr a13 = a13) (K : R M d mc ms Q pc' (a0 :: a1 :: a2 :: a3 :: a4 :: a5 :: a6 :: a7 :: a8 :: a9 :: a10 :: a11 :: a12 :: a13 :: .long x :: .null :: r) S h z k n) : R M d mc ms Q pc (a0 :: a1 :: a2 :: a3 :: a4 :: a5 :: a6 :: a7 :: a8 :: a9 :: a10 :: a11 :: a12 :: a13 :: b :: c :: r) (.long x :: S) h z k n := r_lstoreG hi (by simp only [stL2, hc]) K
theorem r_istore_15 {M : MD} {d mc ms pc pc' z k n : Nat} {Q : Option Value → Hp → Nat → Prop} {S : List Value} {h : Hp} {a0 a1 a2 a3 a4 a5 a6 a7 a8 a9 a10 a11 a12 a13 a14 a15 : Value} {r : List Value} {x : Int32} (hi : StI M pc 15 pc') (hc : clr a14 = a14) (K : R M d mc ms Q pc' (a0 :: a1 :: a2 :: a3 :: a4 :: a5 :: a6 :: a7 :: a8 :: a9 :: a10 :: a11 :: a12 :: a13 :: a14 :: .int x :: r) S h z k n) : R M d mc ms Q pc (a0 :: a1 :: a2 :: a3 :: a4 :: a5 :: a6 :: a7 :: a8 :: a9 :: a10 :: a11 :: a12 :: a13 :: a14 :: a15 :: r) (.int x :: S) h z k n := r_istoreG hi (by simp only [stL1, hc]) K
theorem r_astore_15 {M : MD} {d mc ms pc pc' z k n : Nat} {Q : Option Value → Hp → Nat → Prop} {S : List Value} {h : Hp} {a0 a1 a2 a3 a4 a5 a6 a7 a8 a9 a10 a11 a12 a13 a14 a15 : Value} {r : List Value} {x : Nat} (hi : StA M pc 15 pc') (hc : clr a14 = a14) (K : R M d mc ms Q pc' (a0 :: a1 :: a2 :: a3 :: a4 :: a5 :: a6 :: a7 :: a8 :: a9 :: a10 :: a11 :: a12 :: a13 :: a14 :: .ref x :: r) S h z k n) : R M d mc ms Q pc (a0 :: a1 :: a2 :: a3 :: a4 :: a5 :: a6 :: a7 :: a8 :: a9 :: a10 :: a11 :: a12 :: a13 :: a14 :: a15 :: r) (.ref x :: S) h z k n := r_astoreG hi (by simp only [stL1, hc]) K
theorem r_iinc_15 {M : MD} {d mc ms pc pc' z k n : Nat} {Q : Option Value → Hp → Nat → Prop} {S : List Value} {h : Hp} {a0 a1 a2 a3 a4 a5 a6 a7 a8 a9 a10 a11 a12 a13 a14 : Value} {r : List Value} {w : Int} {x v : Int32} (hi : Inc M pc 15 w pc') (hv : x + Int32.ofInt w = v) (hc : clr a14 = a14) (K : R M d mc ms Q pc' (a0 :: a1 :: a2 :: a3 :: a4 :: a5 :: a6 :: a7 :: a8 :: a9 :: a10 :: a11 :: a12 :: a13 :: a14 :: .int v :: r) S h z k n) : R M d mc ms Q pc (a0 :: a1 :: a2 :: a3 :: a4 :: a5 :: a6 :: a7 :: a8 :: a9 :: a10 :: a11 :: a12 :: a13 :: a14 :: .int x :: r) S h z k n := r_iincG hi rfl hv (by simp only [stL1, hc]) K
theorem r_lstore_15 {M : MD} {d mc ms pc pc' z k n : Nat} {Q : Option Value → Hp → Nat → Prop} {S : List Value} {h : Hp} {a0 a1 a2 a3 a4 a5 a6 a7 a8 a9 a10 a11 a12 a13 a14 b c : Value} {r : List Value} {x : Int64} (hi : StL M pc 15 pc') (hc : clr a14 = a14) (K : R M d mc ms Q pc' (a0 :: a1 :: a2 :: a3 :: a4 :: a5 :: a6 :: a7 :: a8 :: a9 :: a10 :: a11 :: a12 :: a13 :: a14 :: .long x :: .null :: r) S h z k n) : R M d mc ms Q pc (a0 :: a1 :: a2 :: a3 :: a4 :: a5 :: a6 :: a7 :: a8 :: a9 :: a10 :: a11 :: a12 :: a13 :: a14 :: b :: c :: r) (.long x :: S) h z k n := r_lstoreG hi (by simp only [stL2, hc]) K
theorem r_istore_16 {M : MD} {d mc ms pc pc' z k n : Nat} {Q : Option Value → Hp → Nat → Prop} {S : List Value} {h : Hp} {a0 a1 a2 a3 a4 a5 a6 a7 a8 a9 a10 a11 a12 a13 a14 a15 a16 : Value} {r : List Value} {x : Int32} (hi : StI M pc 16 pc') (hc : clr a15 = a15) (K : R M d mc ms Q pc' (a0 :: a1 :: a2 :: a3 :: a4 :: a5 :: a6 :: a7 :: a8 :: a9 :: a10 :: a11 :: a12 :: a13 :: a14 :: a15 :: .int x :: r) S h z k n) : R M d mc ms Q pc (a0 :: a1 :: a2 :: a3 :: a4 :: a5 :: a6 :: a7 :: a8 :: a9 :: a10 :: a11 :: a12 :: a13 :: a14 :: a15 :: a16 :: r) (.int x :: S) h z k n := r_istoreG hi (by simp only [stL1, hc]) K
theorem r_astore_16 {M : MD} {d mc ms pc pc' z k n : Nat} {Q : Option Value → Hp → Nat → Prop} {S : List Value} {h : Hp} {a0 a1 a2 a3 a4 a5 a6 a7 a8 a9 a10 a11 a12 a13 a14 a15 a16 : Value} {r : List Value} {x : Nat} (hi : StA M pc 16 pc') (hc : clr a15 = a15) (K : R M d mc ms Q pc' (a0 :: a1 :: a2 :: a3 :: a4 :: a5 :: a6 :: a7 :: a8 :: a9 :: a10 :: a11 :: a12 :: a13 :: a14 :: a15 :: .ref x :: r) S h z k n) : R M d mc ms Q pc (a0 :: a1 :: a2 :: a3 :: a4 :: a5 :: a6 :: a7 :: a8 :: a9 :: a10 :: a11 :: a12 :: a13 :: a14 :: a15 :: a16 :: r) (.ref x :: S) h z k n := r_astoreG hi (by simp only [stL1, hc]) K
theorem r_iinc_16 {M : MD} {d mc ms pc pc' z k n : Nat} {Q : Option Value → Hp → Nat → Prop} {S : List Value} {h : Hp} {a0 a1 a2 a3 a4 a5 a6 a7 a8 a9 a10 a11 a12 a13 a14 a15 : Value} {r : List Value} {w : Int} {x v : Int32} (hi : Inc M pc 16 w pc') (hv : x + Int32.ofInt w = v) (hc : clr a15 = a15) (K : R M d mc ms Q pc' (a0 :: a1 :: a2 :: a3 :: a4 :: a5 :: a6 :: a7 :: a8 :: a9 :: a10 :: a11 :: a12 :: a13 :: a14 :: a15 :: .int v :: r) S h z k n) : R M d mc ms Q pc (a0 :: a1 :: a2 :: a3 :: a4 :: a5 :: a6 :: a7 :: a8 :: a9 :: a10 :: a11 :: a12 :: a13 :: a14 :: a15 :: .int x :: r) S h z k n := r_iincG hi rfl hv (by simp only [stL1, hc]) K
theorem r_lstore_16 {M : MD} {d mc ms pc pc' z k n : Nat} {Q : Option Value → Hp → Nat → Prop} {S : List Value} {h : Hp} {a0 a1 a2 a3 a4 a5 a6 a7 a8 a9 a10 a11 a12 a13 a14 a15 b c : Value} {r : List Value} {x : Int64} (hi : StL M pc 16 pc') (hc : clr a15 = a15) (K : R M d mc ms Q pc' (a0 :: a1 :: a2 :: a3 :: a4 :: a5 :: a6 :: a7 :: a8 :: a9 :: a10 :: a11 :: a12 :: a13 :: a14 :: a15 :: .long x :: .null :: r) S h z k n) : R M d mc ms Q pc (a0 :: a1 :: a2 :: a3 :: a4 :: a5 :: a6 :: a7 :: a8 :: a9 :: a10 :: a11 :: a12 :: a13 :: a14 :: a15 :: b :: c :: r) (.long x :: S) h z k n := r_lstoreG hi (by simp only [stL2, hc]) K
theorem r_istore_17 {M : MD} {d mc ms pc pc' z k n : Nat} {Q : Option Value → Hp → Nat → Prop} {S : List Value} {h : Hp} {a0 a1 a2 a3 a4 a5 a6 a7 a8 a9 a10 a11 a12 a13 a14 a15 a16 a17 : Value} {r : List Value} {x : Int32} (hi : StI M pc 17 pc') (hc : clr a16 = a16) (K : R M d mc ms Q pc' (a0 :: a1 :: a2 :: a3 :: a4 :: a5 :: a6 :: a7 :: a8 :: a9 :: a10 :: a11 :: a12 :: a13 :: a14 :: a15 :: a16 :: .int x :: r) S h z k n) : R M d mc ms Q pc (a0 :: a1 :: a2 :: a3 :: a4 :: a5 :: a6 :: a7 :: a8 :: a9 :: a10 :: a11 :: a12 :: a13 :: a14 :: a15 :: a16 :: a17 :: r) (.int x :: S) h z k n := r_istoreG hi (by simp only [stL1, hc]) K
theorem r_astore_17 {M : MD} {d mc ms pc pc' z k n : Nat} {Q : Option Value → Hp → Nat → Prop} {S : List Value} {h : Hp} {a0 a1 a2 a3 a4 a5 a6 a7 a8 a9 a10 a11 a12 a13 a14 a15 a16 a17 : Value} {r : List Value} {x : Nat} (hi : StA M pc 17 pc') (hc : clr a16 = a16) (K : R M d mc ms Q pc' (a0 :: a1 :: a2 :: a3 :: a4 :: a5 :: a6 :: a7 :: a8 :: a9 :: a10 :: a11 :: a12 :: a13 :: a14 :: a15 :: a16 :: .ref x :: r) S h z k n) : R M d mc ms Q pc (a0 :: a1 :: a2 :: a3 :: a4 :: a5 :: a6 :: a7 :: a8 :: a9 :: a10 :: a11 :: a12 :: a13 :: a14 :: a15 :: a16 :: a17 :: r) (.ref x :: S) h z k n := r_astoreG hi (by simp only [stL1, hc]) K
theorem r_iinc_17 {M : MD} {d mc ms pc pc' z k n : Nat} {Q : Option Value → Hp → Nat → Prop} {S : List Value} {h : Hp} {a0 a1 a2 a3 a4 a5 a6 a7 a8 a9 a10 a11 a12 a13 a14 a15 a16 : Value} {r : List Value} {w : Int} {x v : Int32} (hi : Inc M pc 17 w pc') (hv : x + Int32.ofInt w = v) (hc : clr a16 = a16) (K : R M d mc ms Q pc' (a0 :: a1 :: a2 :: a3 :: a4 :: a5 :: a6 :: a7 :: a8 :: a9 :: a10 :: a11 :: a12 :: a13 :: a14 :: a15 :: a16 :: .int v :: r) S h z k n) : R M d mc ms Q pc (a0 :: a1 :: a2 :: a3 :: a4 :: a5 :: a6 :: a7 :: a8 :: a9 :: a10 :: a11 :: a12 :: a13 :: a14 :: a15 :: a16 :: .int x :: r) S h z k n := r_iincG hi rfl hv (by simp only [stL1, hc]) K
theorem r_lstore_17 {M : MD} {d mc ms pc pc' z k n : Nat} {Q : Option Value → Hp → Nat → Prop} {S : List Value} {h : Hp} {a0 a1 a2 a3 a4 a5 a6 a7 a8 a9 a10 a11 a12 a13 a14 a15 a16 b c : Value} {r : List Value} {x : Int64} (hi : StL M pc 17 pc') (hc : clr a16 = a16) (K : R M d mc ms Q pc' (a0 :: a1 :: a2 :: a3 :: a4 :: a5 :: a6 :: a7 :: a8 :: a9 :: a10 :: a11 :: a12 :: a13 :: a14 :: a15 :: a16 :: .long x :: .null :: r) S h z k n) : R M d mc ms Q pc (a0 :: a1 :: a2 :: a3 :: a4 :: a5 :: a6 :: a7 :: a8 :: a9 :: a10 :: a11 :: a12 :: a13 :: a14 :: a15 :: a16 :: b :: c :: r) (.long x :: S) h z k n := r_lstoreG hi (by simp only [stL2, hc]) K
def Jmp (M : MD) (pc : Nat) (i : Int → Instr) (tgt pc' : Nat) : Prop := ∃ off : Int, Ins M pc (i off) 3 pc' ∧ (pc : Int) + off = (tgt : Int)
theorem r_goto {M : MD} {d mc ms pc pc' z k n : Nat} {Q : Option Value → Hp → Nat → Prop} {L S : List Value} {h : Hp} {tgt : Nat} (hi : Jmp M pc .goto tgt pc') (K : R M d mc ms Q tgt L S h z k n) : R M d mc ms Q pc L S h z k n := by
  intro p l e Rm s m args below meth c E Qf O H locs ls hH hS hL hk hn
  obtain ⟨hx, hb, hml, hown, hts, hrm, hin, hK, hZ, hX, hB, hRC⟩ := id O
  obtain ⟨off, ⟨hd, rfl⟩, ht⟩ := hi
  exact lv_goto hx hb hd ht (K p l e Rm s m args below meth c E Qf O H locs ls hH hS hL hk hn)
theorem r_icmp_eq {M : MD} {d mc ms pc pc' z k n : Nat} {Q : Option Value → Hp → Nat → Prop} {L S : List Value} {h : Hp} {x y : Int32} {tgt : Nat} (hi : Jmp M pc (.if_icmp .eq) tgt pc') (Kt : x = y → R M d mc ms Q tgt L S h z k n) (Kf : ¬ x = y → R M d mc ms Q pc' L S h z k n) : R M d mc ms Q pc L (.int y :: .int x :: S) h z k n := by
  intro p l e Rm s m args below meth c E Qf O H locs ls hH hS hL hk hn
  obtain ⟨hx, hb, hml, hown, hts, hrm, hin, hK, hZ, hX, hB, hRC⟩ := id O
  obtain ⟨off, ⟨hd, rfl⟩, ht⟩ := hi
  exact lv_icmp_eq hx hb hd ht (fun g => Kt g p l e Rm s m args below meth c E Qf O H locs ls hH hS hL hk hn) (fun g => Kf g p l e Rm s m args below meth c E Qf O H locs ls hH hS hL hk hn)
theorem r_if_eq {M : MD} {d mc ms pc pc' z k n : Nat} {Q : Option Value → Hp → Nat → Prop} {L S : List Value} {h : Hp} {x : Int32} {tgt : Nat} (hi : Jmp M pc (.ifCond .eq) tgt pc') (Kt : x = 0 → R M d mc ms Q tgt L S h z k n) (Kf : ¬ x = 0 → R M d mc ms Q pc' L S h z k n) : R M d mc ms Q pc L (.int x :: S) h z k n := by
  intro p l e Rm s m args below meth c E Qf O H locs ls hH hS hL hk hn
  obtain ⟨hx, hb, hml, hown, hts, hrm, hin, hK, hZ, hX, hB, hRC⟩ := id O
  obtain ⟨off, ⟨hd, rfl⟩, ht⟩ := hi
  exact lv_if_eq hx hb hd ht (fun g => Kt g p l e Rm s m args below meth c E Qf O H locs ls hH hS hL hk hn) (fun g => Kf g p l e Rm s m args below meth c E Qf O H locs ls hH hS hL hk hn)
theorem r_icmp_ne {M : MD} {d mc ms pc pc' z k n : Nat} {Q : Option Value → Hp → Nat → Prop} {L S : List Value} {h : Hp} {x y : Int32} {tgt : Nat} (hi : Jmp M pc (.if_icmp .ne) tgt pc') (Kt : ¬ x = y → R M d mc ms Q tgt L S h z k n) (Kf : x = y → R M d mc ms Q pc' L S h z k n) : R M d mc ms Q pc L (.int y :: .int x :: S) h z k n := by
  intro p l e Rm s m args below meth c E Qf O H locs ls hH hS hL hk hn
  obtain ⟨hx, hb, hml, hown, hts, hrm, hin, hK, hZ, hX, hB, hRC⟩ := id O
  obtain ⟨off, ⟨hd, rfl⟩, ht⟩ := hi
  exact lv_icmp_ne hx hb hd ht (fun g => Kt g p l e Rm s m args below meth c E Qf O H locs ls hH hS hL hk hn) (fun g => Kf g p l e Rm s m args below meth c E Qf O H locs ls hH hS hL hk hn)
theorem r_if_ne {M : MD} {d mc ms pc pc' z k n : Nat} {Q : Option Value → Hp → Nat → Prop} {L S : List Value} {h : Hp} {x : Int32} {tgt : Nat} (hi : Jmp M pc (.ifCond .ne) tgt pc') (Kt : ¬ x = 0 → R M d mc ms Q tgt L S h z k n) (Kf : x = 0 → R M d mc ms Q pc' L S h z k n) : R M d mc ms Q pc L (.int x :: S) h z k n := by
  intro p l e Rm s m args below meth c E Qf O H locs ls hH hS hL hk hn
  obtain ⟨hx, hb, hml, hown, hts, hrm, hin, hK, hZ, hX, hB, hRC⟩ := id O
  obtain ⟨off, ⟨hd, rfl⟩, ht⟩ := hi
  exact lv_if_ne hx hb hd ht (fun g => Kt g p l e Rm s m args below meth c E Qf O H locs ls hH hS hL hk hn) (fun g => Kf g p l e Rm s m args below meth c E Qf O H locs ls hH hS hL hk hn)
theorem r_icmp_lt {M : MD} {d mc ms pc pc' z k n : Nat} {Q : Option Value → Hp → Nat → Prop} {L S : List Value} {h : Hp} {x y : Int32} {tgt : Nat} (hi : Jmp M pc (.if_icmp .lt) tgt pc') (Kt : x < y → R M d mc ms Q tgt L S h z k n) (Kf : ¬ x < y → R M d mc ms Q pc' L S h z k n) : R M d mc ms Q pc L (.int y :: .int x :: S) h z k n := by
  intro p l e Rm s m args below meth c E Qf O H locs ls hH hS hL hk hn
  obtain ⟨hx, hb, hml, hown, hts, hrm, hin, hK, hZ, hX, hB, hRC⟩ := id O
  obtain ⟨off, ⟨hd, rfl⟩, ht⟩ := hi
  exact lv_icmp_lt hx hb hd ht (fun g => Kt g p l e Rm s m args below meth c E Qf O H locs ls hH hS hL hk hn) (fun g => Kf g p l e Rm s m args below meth c E Qf O H locs ls hH hS hL hk hn)
theorem r_if_lt {M : MD} {d mc ms pc pc' z k n : Nat} {Q : Option Value → Hp → Nat → Prop} {L S : List Value} {h : Hp} {x : Int32} {tgt : Nat} (hi : Jmp M pc (.ifCond .lt) tgt pc') (Kt : x < 0 → R M d mc ms Q tgt L S h z k n) (Kf : ¬ x < 0 → R M d mc ms Q pc' L S h z k n) : R M d mc ms Q pc L (.int x :: S) h z k n := by
  intro p l e Rm s m args below meth c E Qf O H locs ls hH hS hL hk hn
  obtain ⟨hx, hb, hml, hown, hts, hrm, hin, hK, hZ, hX, hB, hRC⟩ := id O
  obtain ⟨off, ⟨hd, rfl⟩, ht⟩ := hi
  exact lv_if_lt hx hb hd ht (fun g => Kt g p l e Rm s m args below meth c E Qf O H locs ls hH hS hL hk hn) (fun g => Kf g p l e Rm s m args below meth c E Qf O H locs ls hH hS hL hk hn)
theorem r_icmp_ge {M : MD} {d mc ms pc pc' z k n : Nat} {Q : Option Value → Hp → Nat → Prop} {L S : List Value} {h : Hp} {x y : Int32} {tgt : Nat} (hi : Jmp M pc (.if_icmp .ge) tgt pc') (Kt : y ≤ x → R M d mc ms Q tgt L S h z k n) (Kf : ¬ y ≤ x → R M d mc ms Q pc' L S h z k n) : R M d mc ms Q pc L (.int y :: .int x :: S) h z k n := by
  intro p l e Rm s m args below meth c E Qf O H locs ls hH hS hL hk hn
  obtain ⟨hx, hb, hml, hown, hts, hrm, hin, hK, hZ, hX, hB, hRC⟩ := id O
  obtain ⟨off, ⟨hd, rfl⟩, ht⟩ := hi
  exact lv_icmp_ge hx hb hd ht (fun g => Kt g p l e Rm s m args below meth c E Qf O H locs ls hH hS hL hk hn) (fun g => Kf g p l e Rm s m args below meth c E Qf O H locs ls hH hS hL hk hn)
theorem r_if_ge {M : MD} {d mc ms pc pc' z k n : Nat} {Q : Option Value → Hp → Nat → Prop} {L S : List Value} {h : Hp} {x : Int32} {tgt : Nat} (hi : Jmp M pc (.ifCond .ge) tgt pc') (Kt : 0 ≤ x → R M d mc ms Q tgt L S h z k n) (Kf : ¬ 0 ≤ x → R M d mc ms Q pc' L S h z k n) : R M d mc ms Q pc L (.int x :: S) h z k n := by
  intro p l e Rm s m args below meth c E Qf O H locs ls hH hS hL hk hn
  obtain ⟨hx, hb, hml, hown, hts, hrm, hin, hK, hZ, hX, hB, hRC⟩ := id O
  obtain ⟨off, ⟨hd, rfl⟩, ht⟩ := hi
  exact lv_if_ge hx hb hd ht (fun g => Kt g p l e Rm s m args below meth c E Qf O H locs ls hH hS hL hk hn) (fun g => Kf g p l e Rm s m args below meth c E Qf O H locs ls hH hS hL hk hn)
theorem r_icmp_gt {M : MD} {d mc ms pc pc' z k n : Nat} {Q : Option Value → Hp → Nat → Prop} {L S : List Value} {h : Hp} {x y : Int32} {tgt : Nat} (hi : Jmp M pc (.if_icmp .gt) tgt pc') (Kt : y < x → R M d mc ms Q tgt L S h z k n) (Kf : ¬ y < x → R M d mc ms Q pc' L S h z k n) : R M d mc ms Q pc L (.int y :: .int x :: S) h z k n := by
  intro p l e Rm s m args below meth c E Qf O H locs ls hH hS hL hk hn
  obtain ⟨hx, hb, hml, hown, hts, hrm, hin, hK, hZ, hX, hB, hRC⟩ := id O
  obtain ⟨off, ⟨hd, rfl⟩, ht⟩ := hi
  exact lv_icmp_gt hx hb hd ht (fun g => Kt g p l e Rm s m args below meth c E Qf O H locs ls hH hS hL hk hn) (fun g => Kf g p l e Rm s m args below meth c E Qf O H locs ls hH hS hL hk hn)
theorem r_if_gt {M : MD} {d mc ms pc pc' z k n : Nat} {Q : Option Value → Hp → Nat → Prop} {L S : List Value} {h : Hp} {x : Int32} {tgt : Nat} (hi : Jmp M pc (.ifCond .gt) tgt pc') (Kt : 0 < x → R M d mc ms Q tgt L S h z k n) (Kf : ¬ 0 < x → R M d mc ms Q pc' L S h z k n) : R M d mc ms Q pc L (.int x :: S) h z k n := by
  intro p l e Rm s m args below meth c E Qf O H locs ls hH hS hL hk hn
  obtain ⟨hx, hb, hml, hown, hts, hrm, hin, hK, hZ, hX, hB, hRC⟩ := id O
  obtain ⟨off, ⟨hd, rfl⟩, ht⟩ := hi
  exact lv_if_gt hx hb hd ht (fun g => Kt g p l e Rm s m args below meth c E Qf O H locs ls hH hS hL hk hn) (fun g => Kf g p l e Rm s m args below meth c E Qf O H locs ls hH hS hL hk hn)
theorem r_icmp_le {M : MD} {d mc ms pc pc' z k n : Nat} {Q : Option Value → Hp → Nat → Prop} {L S : List Value} {h : Hp} {x y : Int32} {tgt : Nat} (hi : Jmp M pc (.if_icmp .le) tgt pc') (Kt : x ≤ y → R M d mc ms Q tgt L S h z k n) (Kf : ¬ x ≤ y → R M d mc ms Q pc' L S h z k n) : R M d mc ms Q pc L (.int y :: .int x :: S) h z k n := by
  intro p l e Rm s m args below meth c E Qf O H locs ls hH hS hL hk hn
  obtain ⟨hx, hb, hml, hown, hts, hrm, hin, hK, hZ, hX, hB, hRC⟩ := id O
  obtain ⟨off, ⟨hd, rfl⟩, ht⟩ := hi
  exact lv_icmp_le hx hb hd ht (fun g => Kt g p l e Rm s m args below meth c E Qf O H locs ls hH hS hL hk hn) (fun g => Kf g p l e Rm s m args below meth c E Qf O H locs ls hH hS hL hk hn)
theorem r_if_le {M : MD} {d mc ms pc pc' z k n : Nat} {Q : Option Value → Hp → Nat → Prop} {L S : List Value} {h : Hp} {x : Int32} {tgt : Nat} (hi : Jmp M pc (.ifCond .le) tgt pc') (Kt : x ≤ 0 → R M d mc ms Q tgt L S h z k n) (Kf : ¬ x ≤ 0 → R M d mc ms Q pc' L S h z k n) : R M d mc ms Q pc L (.int x :: S) h z k n := by
  intro p l e Rm s m args below meth c E Qf O H locs ls hH hS hL hk hn
  obtain ⟨hx, hb, hml, hown, hts, hrm, hin, hK, hZ, hX, hB, hRC⟩ := id O
  obtain ⟨off, ⟨hd, rfl⟩, ht⟩ := hi
  exact lv_if_le hx hb hd ht (fun g => Kt g p l e Rm s m args below meth c E Qf O H locs ls hH hS hL hk hn) (fun g => Kf g p l e Rm s m args below meth c E Qf O H locs ls hH hS hL hk hn)
theorem r_tabIn {M : MD} {d mc ms pc pc' z k n : Nat} {Q : Option Value → Hp → Nat → Prop} {L S : List Value} {h : Hp} {dflt lo hi : Int} {offs : Array Int} {len : Nat} {x : Int32} {off : Int} {tgt : Nat} (hi' : Ins M pc (.tableswitch dflt lo hi offs) len pc') (h1 : ¬ x.toInt < lo) (h2 : ¬ hi < x.toInt) (ho : offs[(x.toInt - lo).toNat]? = some off) (ht : (pc : Int) + off = (tgt : Int)) (K : R M d mc ms Q tgt L S h z k n) : R M d mc ms Q pc L (.int x :: S) h z k n := by
  intro p l e Rm s m args below meth c E Qf O H locs ls hH hS hL hk hn
  obtain ⟨hx, hb, hml, hown, hts, hrm, hin, hK, hZ, hX, hB, hRC⟩ := id O
  obtain ⟨hd, rfl⟩ := hi'
  exact lv_tableIn hx hb hd h1 h2 ho ht (K p l e Rm s m args below meth c E Qf O H locs ls hH hS hL hk hn)
theorem r_tabOut {M : MD} {d mc ms pc pc' z k n : Nat} {Q : Option Value → Hp → Nat → Prop} {L S : List Value} {h : Hp} {dflt lo hi : Int} {offs : Array Int} {len : Nat} {x : Int32} {tgt : Nat} (hi' : Ins M pc (.tableswitch dflt lo hi offs) len pc') (h1 : x.toInt < lo ∨ hi < x.toInt) (ht : (pc : Int) + dflt = (tgt : Int)) (K : R M d mc ms Q tgt L S h z k n) : R M d mc ms Q pc L (.int x :: S) h z k n := by
  intro p l e Rm s m args below meth c E Qf O H locs ls hH hS hL hk hn
  obtain ⟨hx, hb, hml, hown, hts, hrm, hin, hK, hZ, hX, hB, hRC⟩ := id O
  obtain ⟨hd, rfl⟩ := hi'
  exact lv_tableOut hx hb hd h1 ht (K p l e Rm s m args below meth c E Qf O H locs ls hH hS hL hk hn)
theorem r_look {M : MD} {d mc ms pc pc' z k n : Nat} {Q : Option Value → Hp → Nat → Prop} {L S : List Value} {h : Hp} {dflt : Int} {ps : Array (Int × Int)} {len : Nat} {x : Int32} {off : Int} {tgt : Nat} (hi' : Ins M pc (.lookupswitch dflt ps) len pc') (hp : (ps.toList.zip (ps.toList.drop 1)).all (fun (a, next) => a.1 < next.1) = true) (ho : Op.lookupswitch.offset ps.toList dflt x.toInt = off) (ht : (pc : Int) + off = (tgt : Int)) (K : R M d mc ms Q tgt L S h z k n) : R M d mc ms Q pc L (.int x :: S) h z k n := by
  intro p l e Rm s m args below meth c E Qf O H locs ls hH hS hL hk hn
  obtain ⟨hx, hb, hml, hown, hts, hrm, hin, hK, hZ, hX, hB, hRC⟩ := id O
  obtain ⟨hd, rfl⟩ := hi'
  exact lv_lookup hx hb hd hp ho ht (K p l e Rm s m args below meth c E Qf O H locs ls hH hS hL hk hn)
theorem r_iret {M : MD} {d mc ms pc pc' z k n : Nat} {Q : Option Value → Hp → Nat → Prop} {L : List Value} {h : Hp} {x : Int32} (hi : Ins M pc .ireturn 1 pc') (hr : M.2.2.2 = some .int) (hq : Q (some (.int x)) h z) : R M d mc ms Q pc L [.int x] h z k n := by
  intro p l e Rm s m args below meth c E Qf O H locs ls hH hS hL hk hn
  obtain ⟨hx, hb, hml, hown, hts, hrm, hin, hK, hZ, hX, hB, hRC⟩ := id O
  exact hRC (some (.int x)) h z k n pc H locs ls .ireturn hq ⟨rfl, Or.inl hr⟩ hi.1 hH hS hk hn
theorem r_zret {M : MD} {d mc ms pc pc' z k n : Nat} {Q : Option Value → Hp → Nat → Prop} {L : List Value} {h : Hp} {x : Int32} (hi : Ins M pc .ireturn 1 pc') (hr : M.2.2.2 = some .boolean) (h01 : x = 0 ∨ x = 1) (hq : Q (some (.int x)) h z) : R M d mc ms Q pc L [.int x] h z k n := by
  intro p l e Rm s m args below meth c E Qf O H locs ls hH hS hL hk hn
  obtain ⟨hx, hb, hml, hown, hts, hrm, hin, hK, hZ, hX, hB, hRC⟩ := id O
  exact hRC (some (.int x)) h z k n pc H locs ls .ireturn hq ⟨rfl, Or.inr ⟨hr, h01⟩⟩ hi.1 hH hS hk hn
theorem r_lret {M : MD} {d mc ms pc pc' z k n : Nat} {Q : Option Value → Hp → Nat → Prop} {L : List Value} {h : Hp} {x : Int64} (hi : Ins M pc .lreturn 1 pc') (hr : M.2.2.2 = some .long) (hq : Q (some (.long x)) h z) : R M d mc ms Q pc L [.long x] h z k n := by
  intro p l e Rm s m args below meth c E Qf O H locs ls hH hS hL hk hn
  obtain ⟨hx, hb, hml, hown, hts, hrm, hin, hK, hZ, hX, hB, hRC⟩ := id O
  exact hRC (some (.long x)) h z k n pc H locs ls .lreturn hq ⟨rfl, hr⟩ hi.1 hH hS hk hn
theorem r_vret {M : MD} {d mc ms pc pc' z k n : Nat} {Q : Option Value → Hp → Nat → Prop} {L : List Value} {h : Hp} (hi : Ins M pc .return_ 1 pc') (hr : M.2.2.2 = none) (hq : Q none h z) : R M d mc ms Q pc L [] h z k n := by
  intro p l e Rm s m args below meth c E Qf O H locs ls hH hS hL hk hn
  obtain ⟨hx, hb, hml, hown, hts, hrm, hin, hK, hZ, hX, hB, hRC⟩ := id O
  exact hRC none h z k n pc H locs ls .return_ hq ⟨hr, rfl⟩ hi.1 hH hS hk hn
end
section
def FL (M : MD) (idx ci j : Nat) : Prop := ∃ (C : String) (T : u_T) (N : Nat), vwCl[ci]? = some (C, T, N) ∧ j < N ∧ (∀ w ∈ u_ws C T N, w ∈ GW) ∧ Cond.fieldLink M.1.cls idx (T j).1 (T j).2.1 (T j).2.2.1 ∈ GW
def FP (M : MD) (idx ci j : Nat) (ty : FieldType) : Prop := ∃ (C : String) (T : u_T) (N : Nat) (ty0 : Nat → FieldType), (vwCl[ci]? = some (C, T, N) ∧ j < N ∧ (∀ w ∈ u_ws C T N, w ∈ GW) ∧ Cond.fieldLink M.1.cls idx (T j).1 (T j).2.1 (T j).2.2.1 ∈ GW) ∧ (∀ k, k < N → parseFieldDescriptor (T k).2.2.1 = some (ty0 k)) ∧ (∀ a, a < N → ∀ b, b < N → a ≠ b → (T a).2.1 ≠ (T b).2.1) ∧ ty0 j = ty ∧ ((T j).2.2.2 = false ∨ ((T j).2.2.2 = true ∧ M.1.name = "<init>" ∧ (T j).1 = M.1.cls))
def fitV (ty : FieldType) (v : Value) : Prop := narrow ty v = v ∧ fits ty v = true
theorem fitV_sh {E : eE} {ty : FieldType} {v : Value} (h : fitV ty v) : fitV ty (sh E v) := by
  cases v <;> first | exact h | (obtain ⟨h1, h2⟩ := h; cases ty <;> first | exact ⟨rfl, rfl⟩ | (exfalso; revert h2; simp [fits]; done) | exact ⟨h1, h2⟩)
theorem va_S.put1 {E : eE} {s : State} {h : Hp} {z : Nat} {H0 H H1 : Heap} {locs : List Loc} (hS : va_S (fun q => E.2.2.1 ≤ q) H0 H locs) {a k : Nat} (ha : 2 ≤ a) (hz : H1.size = H.size) (ho : ∀ q : Nat, q ≠ ad E a → H1[q]? = H[q]?) : va_S (fun q => E.2.2.1 ≤ q) H0 H1 (locs ++ [⟨ad E a, k⟩]) := hS.put hz ho (by rw [ad_ge ha]; exact Nat.le_add_right _ _)
theorem va_S.push1 {E : eE} {H0 H H1 : Heap} {locs : List Loc} (hS : va_S (fun q => E.2.2.1 ≤ q) H0 H locs) (hz : H.size ≤ H1.size) (ho : ∀ q : Nat, q < H.size → H1[q]? = H[q]?) : va_S (fun q => E.2.2.1 ≤ q) H0 H1 locs := ⟨Nat.le_trans hS.1 hz, fun q g1 g2 => (ho q (Nat.lt_of_lt_of_le g1 hS.1)).trans (hS.2.1 q g1 g2), hS.2.2⟩
theorem r_getfield {M : MD} {d mc ms pc pc' z k n : Nat} {Q : Option Value → Hp → Nat → Prop} {L S : List Value} {h : Hp} {idx ci j a : Nat} {fs : List Value} {v : Value} (hi : Ins M pc (.getfield idx) 3 pc') (hl : FL M idx ci j) (hh : h a = some (.inr (ci, fs))) (hv : fs[j]? = some v) (K : R M d mc ms Q pc' L (v :: S) h z k n) : R M d mc ms Q pc L (.ref a :: S) h z k n := by
  intro p l e Rm s m args below meth c E Qf O H locs ls hH hS hL hk hn
  obtain ⟨hx, hb, hml, hown, hts, hrm, hin, hK, hZ, hX, hB, hRC⟩ := id O
  obtain ⟨hd, rfl⟩ := hi
  obtain ⟨C, T, N, f1, f2, f3, f4⟩ := hl
  obtain ⟨-, g2, g3⟩ := hH.2.2.2.2 a _ hh
  exact va_get (D := aD E) (cl := vwCl) (tys := []) (ws := [(ad E a, .inr (ci, fs.map (sh E)))]) (v := sh E v) hx hb hts (fun w hw => f3 w hw) hown hK (fun k q hq => by
    have h0 : k < 1 := (List.getElem?_eq_some_iff.mp hq).1
    rw [show k = 0 by omega] at hq
    cases hq
    exact g3) 0 rfl f1 j f2 (hts _ f4) (fun _ h9 => h9) (by rw [List.getElem?_map, hv]; rfl) hd (K p l e Rm s m args below meth c E Qf O H locs ls hH hS hL hk hn)
theorem r_putfield {M : MD} {d mc ms pc pc' z k n : Nat} {Q : Option Value → Hp → Nat → Prop} {L S : List Value} {h : Hp} {idx ci j a : Nat} {fs : List Value} {v : Value} {ty : FieldType} (hi : Ins M pc (.putfield idx) 3 pc') (hl : FP M idx ci j ty) (ha : 2 ≤ a) (hh : h a = some (.inr (ci, fs))) (hlen : j < fs.length) (hfit : fitV ty v) (K : R M d mc ms Q pc' L S (hset h a (.inr (ci, fs.set j v))) z k n) : R M d mc ms Q pc L (v :: .ref a :: S) h z k n := by
  intro p l e Rm s m args below meth c E Qf O H locs ls hH hS hL hk hn
  obtain ⟨hx, hb, hml, hown, hts, hrm, hin, hK, hZ, hX, hB, hRC⟩ := id O
  obtain ⟨hd, rfl⟩ := hi
  obtain ⟨C, T, N, ty0, ⟨f1, f2, f3, f4⟩, f5, f6, f7, f8⟩ := hl
  obtain ⟨-, g2, g3⟩ := hH.2.2.2.2 a _ hh
  obtain ⟨hn1, hfit1⟩ := fitV_sh (E := E) hfit
  have hap := va_apart (own := M.1.cls) hts (fun w hw => f3 w hw) ty0 f5 f6 hK f1
  obtain ⟨r, h1, cell, q1, q2, q3, q4⟩ := g3
  have hr : r = (C, T, N) := Option.some.inj (h1.symm.trans f1)
  subst hr
  obtain ⟨hSl, hfc, kC, hkC, hkind⟩ := hK.1 ci _ f1
  obtain ⟨cf, kf, fi, f, hi, hsl⟩ := hSl j f2
  have hdj : parseFieldDescriptor (T j).2.2.1 = some ty := by rw [← f7]; exact f5 j f2
  have hst := (u_facts hfc hkC (u_lays hts (fun w hw => f3 w hw) f2) hi).1
  have hlay := hts _ (f3 _ (u_in_lay f2))
  unfold u_lay at hlay
  have fin : ∀ (H' : Heap), H'[ad E a]? = some (cell.setSlot (aD E |>.2 ci j) (sh E v)) → H'.size = H.size → (∀ q, q ≠ ad E a → H'[q]? = H[q]?) → W p l e Rm s m args below meth c H' (locs ++ [⟨ad E a, (aD E).2 ci j⟩]) k n Qf (F0 m (pc + 3) ls (S.map (sh E))) := by
    intro H' e1 e2 e3
    refine K p l e Rm s m args below meth c E Qf O H' _ ls (hH.set g2 hh ⟨g2, _, h1, ?_⟩ e2 e3) (va_S.put1 (s := s) (h := h) (z := z) hS g2 e2 e3) hL hk hn
    rw [List.map_set]
    exact t_OB.to (V := updV (vp_V (fs.map (sh E))) j (sh E v)) ⟨_, e1, q2, q3, t_set q4 hap f2 (sh E v)⟩ (fun i _ => vp_updV_set (by rw [List.length_map]; exact hlen) (sh E v) i)
  rcases f8 with hfin | ⟨hfin, hin1, hdecl⟩
  · rw [if_neg (by rw [hfin]; decide)] at hlay
    have h6 := u_store hfc hkC hkind hlay hi hdj hn1 hfit1
    refine W.putK hx hb (f := f) ⟨hown, hts _ f4, ⟨_, _, _, hi⟩, hst⟩ (by rw [q2]; exact h6) q1 q3 (by rw [hsl]; exact k2_hasslot (q4 j f2)) rfl rfl hd fun H' e1 e2 e3 => ?_
    rw [hsl] at e1 ⊢
    exact fin H' e1 e2 e3
  · rw [if_pos hfin] at hlay
    have hcf : m.cls = cf := by
      obtain ⟨_, _, c', _, _, _, -, -, hf', -, -, -, hown2, -⟩ := Cond.laysFinal_spec hlay
      have e1 : c' = cf := by have := hi.symm.trans hf'; simp at this; exact this.1.symm
      rw [hdecl] at hown2
      rw [← e1]; exact Option.some.inj (hown.symm.trans hown2)
    have h6 := u_fits hfc hkC hkind (Or.inr hlay) hi hdj hn1 hfit1
    refine W.putFinK hx hb hown (hts _ f4) hi hst hcf (hin hin1) (by rw [q2]; exact h6) q1 q3 (by rw [hsl]; exact k2_hasslot (q4 j f2)) rfl rfl hd fun H' e1 e2 e3 => ?_
    rw [hsl] at e1 ⊢
    exact fin H' e1 e2 e3
theorem r_iaload {M : MD} {d mc ms pc pc' z k n : Nat} {Q : Option Value → Hp → Nat → Prop} {L S : List Value} {h : Hp} {a w : Nat} {f : Nat → Value} {i : Int32} {x : Int32} (hi : Ins M pc .iaload 1 pc') (hh : h a = some (.inl (.int, w, f))) (hin' : vp_in i w) (hv : f i.toNatClampNeg = .int x) (K : R M d mc ms Q pc' L (.int x :: S) h z k n) : R M d mc ms Q pc L (.int i :: .ref a :: S) h z k n := by
  intro p l e Rm s m args below meth c E Qf O H locs ls hH hS hL hk hn
  obtain ⟨hx, hb, hml, hown, hts, hrm, hin, hK, hZ, hX, hB, hRC⟩ := id O
  obtain ⟨hd, rfl⟩ := hi
  obtain ⟨-, cell, h1, h2, h3, h4, h5, h6, h7⟩ := hH.2.2.2.2 a _ hh
  have hlt : i.toNatClampNeg < w := Nat.not_le.mp fun q => hin' (Or.inr q)
  exact W.iald hx hb h1 h2 h3 (fun q => q.elim (fun q => hin' (Or.inl q)) (fun q => by dsimp only at h4; omega)) (by rw [h6 _ hlt]; exact congrArg (fun v => some (sh E v)) hv) rfl rfl hd (K p l e Rm s m args below meth c E Qf O H locs ls hH hS hL hk hn)
theorem r_laload {M : MD} {d mc ms pc pc' z k n : Nat} {Q : Option Value → Hp → Nat → Prop} {L S : List Value} {h : Hp} {a w : Nat} {f : Nat → Value} {i : Int32} {x : Int64} (hi : Ins M pc .laload 1 pc') (hh : h a = some (.inl (.long, w, f))) (hin' : vp_in i w) (hv : f i.toNatClampNeg = .long x) (K : R M d mc ms Q pc' L (.long x :: S) h z k n) : R M d mc ms Q pc L (.int i :: .ref a :: S) h z k n := by
  intro p l e Rm s m args below meth c E Qf O H locs ls hH hS hL hk hn
  obtain ⟨hx, hb, hml, hown, hts, hrm, hin, hK, hZ, hX, hB, hRC⟩ := id O
  obtain ⟨hd, rfl⟩ := hi
  obtain ⟨-, cell, h1, h2, h3, h4, h5, h6, h7⟩ := hH.2.2.2.2 a _ hh
  have hlt : i.toNatClampNeg < w := Nat.not_le.mp fun q => hin' (Or.inr q)
  exact W.lald hx hb h1 h2 h3 (fun q => q.elim (fun q => hin' (Or.inl q)) (fun q => by dsimp only at h4; omega)) (by rw [h6 _ hlt]; exact congrArg (fun v => some (sh E v)) hv) rfl rfl hd (K p l e Rm s m args below meth c E Qf O H locs ls hH hS hL hk hn)
theorem r_baload {M : MD} {d mc ms pc pc' z k n : Nat} {Q : Option Value → Hp → Nat → Prop} {L S : List Value} {h : Hp} {a w : Nat} {f : Nat → Value} {i : Int32} {x : Int32} (hi : Ins M pc .baload 1 pc') (hh : h a = some (.inl (.boolean, w, f))) (hin' : vp_in i w) (hv : f i.toNatClampNeg = .int x) (K : R M d mc ms Q pc' L (.int x :: S) h z k n) : R M d mc ms Q pc L (.int i :: .ref a :: S) h z k n := by
  intro p l e Rm s m args below meth c E Qf O H locs ls hH hS hL hk hn
  obtain ⟨hx, hb, hml, hown, hts, hrm, hin, hK, hZ, hX, hB, hRC⟩ := id O
  obtain ⟨hd, rfl⟩ := hi
  obtain ⟨-, cell, h1, h2, h3, h4, h5, h6, h7⟩ := hH.2.2.2.2 a _ hh
  have hlt : i.toNatClampNeg < w := Nat.not_le.mp fun q => hin' (Or.inr q)
  exact W.zald hx hb h1 h2 h3 (fun q => q.elim (fun q => hin' (Or.inl q)) (fun q => by dsimp only at h4; omega)) (by rw [h6 _ hlt]; exact congrArg (fun v => some (sh E v)) hv) rfl rfl hd (K p l e Rm s m args below meth c E Qf O H locs ls hH hS hL hk hn)
theorem r_aaload {M : MD} {d mc ms pc pc' z k n : Nat} {Q : Option Value → Hp → Nat → Prop} {L S : List Value} {h : Hp} {a w : Nat} {ty : FieldType} {f : Nat → Value} {i : Int32} {x : Nat} (hi : Ins M pc .aaload 1 pc') (hty : ty.isReference = true) (hh : h a = some (.inl (ty, w, f))) (hin' : vp_in i w) (hv : f i.toNatClampNeg = .ref x) (K : R M d mc ms Q pc' L (.ref x :: S) h z k n) : R M d mc ms Q pc L (.int i :: .ref a :: S) h z k n := by
  intro p l e Rm s m args below meth c E Qf O H locs ls hH hS hL hk hn
  obtain ⟨hx, hb, hml, hown, hts, hrm, hin, hK, hZ, hX, hB, hRC⟩ := id O
  obtain ⟨hd, rfl⟩ := hi
  obtain ⟨-, cell, h1, h2, h3, h4, h5, h6, h7⟩ := hH.2.2.2.2 a _ hh
  have hlt : i.toNatClampNeg < w := Nat.not_le.mp fun q => hin' (Or.inr q)
  exact W.aald hx hb h1 h2 hty h3 (fun q => q.elim (fun q => hin' (Or.inl q)) (fun q => by dsimp only at h4; omega)) (by rw [h6 _ hlt]; exact congrArg (fun v => some (sh E v)) hv) rfl rfl hd (K p l e Rm s m args below meth c E Qf O H locs ls hH hS hL hk hn)
theorem r_arraylength {M : MD} {d mc ms pc pc' z k n : Nat} {Q : Option Value → Hp → Nat → Prop} {L S : List Value} {h : Hp} {a w : Nat} {ty : FieldType} {f : Nat → Value} {v : Int32} (hi : Ins M pc .arraylength 1 pc') (hh : h a = some (.inl (ty, w, f))) (hv : Int32.ofNat w = v) (K : R M d mc ms Q pc' L (.int v :: S) h z k n) : R M d mc ms Q pc L (.ref a :: S) h z k n := by
  intro p l e Rm s m args below meth c E Qf O H locs ls hH hS hL hk hn
  obtain ⟨hx, hb, hml, hown, hts, hrm, hin, hK, hZ, hX, hB, hRC⟩ := id O
  obtain ⟨hd, rfl⟩ := hi
  obtain ⟨-, cell, h1, h2, h3, h4, h5, h6, h7⟩ := hH.2.2.2.2 a _ hh
  exact W.alen hx hb h1 h2 (by rw [h5]; exact hv) rfl rfl hd (K p l e Rm s m args below meth c E Qf O H locs ls hH hS hL hk hn)
theorem arAt_upd {E : eE} {s : State} {a w : Nat} {ty : FieldType} {f : Nat → Value} {H' : Heap} {cA : ClassId} {i : Nat} {v : Value} (hw : (arrV cA w (fun j => sh E (f j))).slots.size.toInt32 = Int32.ofNat w) (e2 : ArrOfT s cA ty) (e3 : va_RA s cA ty) (e : H'[ad E a]? = some ((arrV cA w (fun j => sh E (f j))).setSlot i (sh E v))) : arAt E s a ty w (updV f i v) H' := by
  rw [arrV_store] at e
  have hf : updV (fun j => sh E (f j)) i (sh E v) = fun j => sh E (updV f i v j) := by
    funext j
    unfold updV
    by_cases hj : j = i
    · rw [if_pos hj, if_pos hj]
    · rw [if_neg hj, if_neg hj]
  rw [hf] at e
  rw [arrV_size] at hw
  exact ⟨_, e, e2 _ _, (fun q => by cases q), by rw [arrV_size]; exact Nat.le_refl _, by rw [arrV_size], fun j hj => arrV_read _ _ hj, fun _ => ⟨cA, rfl, e2, e3⟩⟩
theorem r_iastore {M : MD} {d mc ms pc pc' z k n : Nat} {Q : Option Value → Hp → Nat → Prop} {L S : List Value} {h : Hp} {a w : Nat} {f : Nat → Value} {i : Int32} {x : Int32} (hi : Ins M pc .iastore 1 pc') (ha : 2 ≤ a) (hh : h a = some (.inl (.int, w, f))) (hin' : vp_in i w)  (K : R M d mc ms Q pc' L S (hset h a (.inl (.int, w, updV f i.toNatClampNeg (.int x)))) z k n) : R M d mc ms Q pc L (.int x :: .int i :: .ref a :: S) h z k n := by
  intro p l e Rm s m args below meth c E Qf O H locs ls hH hS hL hk hn
  obtain ⟨hx, hb, hml, hown, hts, hrm, hin, hK, hZ, hX, hB, hRC⟩ := id O
  obtain ⟨hd, rfl⟩ := hi
  obtain ⟨-, cell, h1, h2, h3, h4, h5, h6, h7⟩ := hH.2.2.2.2 a _ hh
  obtain ⟨cA, rfl, e2, e3⟩ := h7 ha
  refine W.iast hx hb h1 h2 h3 (by rw [arrV_size]; exact hin') rfl rfl hd fun H' e1 z1 o1 => ?_
  exact K p l e Rm s m args below meth c E Qf O H' _ ls (hH.set ha hh (arAt_upd (v := .int x) h5 e2 e3 e1) z1 o1) (va_S.put1 (s := s) (h := h) (z := z) hS ha z1 o1) hL hk hn
theorem r_lastore {M : MD} {d mc ms pc pc' z k n : Nat} {Q : Option Value → Hp → Nat → Prop} {L S : List Value} {h : Hp} {a w : Nat} {f : Nat → Value} {i : Int32} {x : Int64} (hi : Ins M pc .lastore 1 pc') (ha : 2 ≤ a) (hh : h a = some (.inl (.long, w, f))) (hin' : vp_in i w)  (K : R M d mc ms Q pc' L S (hset h a (.inl (.long, w, updV f i.toNatClampNeg (.long x)))) z k n) : R M d mc ms Q pc L (.long x :: .int i :: .ref a :: S) h z k n := by
  intro p l e Rm s m args below meth c E Qf O H locs ls hH hS hL hk hn
  obtain ⟨hx, hb, hml, hown, hts, hrm, hin, hK, hZ, hX, hB, hRC⟩ := id O
  obtain ⟨hd, rfl⟩ := hi
  obtain ⟨-, cell, h1, h2, h3, h4, h5, h6, h7⟩ := hH.2.2.2.2 a _ hh
  obtain ⟨cA, rfl, e2, e3⟩ := h7 ha
  refine W.last hx hb h1 h2 h3 (by rw [arrV_size]; exact hin') rfl rfl hd fun H' e1 z1 o1 => ?_
  exact K p l e Rm s m args below meth c E Qf O H' _ ls (hH.set ha hh (arAt_upd (v := .long x) h5 e2 e3 e1) z1 o1) (va_S.put1 (s := s) (h := h) (z := z) hS ha z1 o1) hL hk hn
theorem r_bastore {M : MD} {d mc ms pc pc' z k n : Nat} {Q : Option Value → Hp → Nat → Prop} {L S : List Value} {h : Hp} {a w : Nat} {f : Nat → Value} {i : Int32} {x : Int32} (hi : Ins M pc .bastore 1 pc') (ha : 2 ≤ a) (hh : h a = some (.inl (.boolean, w, f))) (hin' : vp_in i w) (h01 : x = 0 ∨ x = 1) (K : R M d mc ms Q pc' L S (hset h a (.inl (.boolean, w, updV f i.toNatClampNeg (.int x)))) z k n) : R M d mc ms Q pc L (.int x :: .int i :: .ref a :: S) h z k n := by
  intro p l e Rm s m args below meth c E Qf O H locs ls hH hS hL hk hn
  obtain ⟨hx, hb, hml, hown, hts, hrm, hin, hK, hZ, hX, hB, hRC⟩ := id O
  obtain ⟨hd, rfl⟩ := hi
  obtain ⟨-, cell, h1, h2, h3, h4, h5, h6, h7⟩ := hH.2.2.2.2 a _ hh
  obtain ⟨cA, rfl, e2, e3⟩ := h7 ha
  refine W.zast hx hb h1 h2 h3 (by rw [arrV_size]; exact hin') rfl rfl hd fun H' e1 z1 o1 => ?_
  rw [show narrow .boolean (.int x) = .int x by rcases h01 with rfl | rfl <;> rfl] at e1
  exact K p l e Rm s m args below meth c E Qf O H' _ ls (hH.set ha hh (arAt_upd (v := .int x) h5 e2 e3 e1) z1 o1) (va_S.put1 (s := s) (h := h) (z := z) hS ha z1 o1) hL hk hn
theorem r_aastore {M : MD} {d mc ms pc pc' z k n : Nat} {Q : Option Value → Hp → Nat → Prop} {L S : List Value} {h : Hp} {a w b ci : Nat} {C : String} {T : u_T} {N : Nat} {fs : List Value} {f : Nat → Value} {i : Int32} (hi : Ins M pc .aastore 1 pc') (ha : 2 ≤ a) (hh : h a = some (.inl (.object C, w, f))) (hin' : vp_in i w) (hb2 : h b = some (.inr (ci, fs))) (hci : vwCl[ci]? = some (C, T, N)) (K : R M d mc ms Q pc' L S (hset h a (.inl (.object C, w, updV f i.toNatClampNeg (.ref b)))) z k n) : R M d mc ms Q pc L (.ref b :: .int i :: .ref a :: S) h z k n := by
  intro p l e Rm s m args below meth c E Qf O H locs ls hH hS hL hk hn
  obtain ⟨hx, hb, hml, hown, hts, hrm, hin, hK, hZ, hX, hB, hRC⟩ := id O
  obtain ⟨hd, rfl⟩ := hi
  obtain ⟨-, cell, h1, h2, h3, h4, h5, h6, h7⟩ := hH.2.2.2.2 a _ hh
  obtain ⟨cA, rfl, e2, e3⟩ := h7 ha
  obtain ⟨-, g2, r', hr', cellV, g1, g3, g4, -⟩ := hH.2.2.2.2 b _ hb2
  have hlt : i.toNatClampNeg < w := Nat.not_le.mp fun q => hin' (Or.inr q)
  have hcls := (hK.1 ci _ hci).2
  obtain ⟨kA, comp, k1, k2, k3, -⟩ := id e3
  have hcomp : comp = (aD E).1 ci := Option.some.inj (k3.symm.trans hcls.1)
  subst hcomp
  obtain ⟨kC, hkC, -⟩ := hcls.2
  refine W.aast hx hb h1 (fun q h => by cases h) (fun h => by cases h) k1 k2 rfl hkC ⟨fun q => hin' (Or.inl q), by rw [arrV_size]; exact hlt⟩ g1 (fun q h => by rw [g4] at h; cases h) (by rw [g3]; exact hkC) (by rw [g3]; exact va_assign hcls) rfl rfl hd fun H' e1 z1 o1 => ?_
  exact K p l e Rm s m args below meth c E Qf O H' _ ls (hH.set ha hh (arAt_upd (v := .ref b) h5 e2 e3 e1) z1 o1) (va_S.put1 (s := s) (h := h) (z := z) hS ha z1 o1) hL hk hn
theorem arAt_new {E : eE} {s : State} {h : Hp} {z w : Nat} {ty : FieldType} {H H' : Heap} {cA : ClassId} {v : Value} (hH : hR E s h z H) (hsz : w < 2 ^ 31) (hv : sh E v = v) (e : H'[H.size]? = some (arrV cA w (fun _ => v))) (e2 : ArrOfT s cA ty) (e3 : va_RA s cA ty) : arAt E s z ty w (fun _ => v) H' := by
  have hf : (fun _ : Nat => v) = fun j => sh E ((fun _ : Nat => v) j) := by funext j; exact hv.symm
  rw [hf] at e
  refine ⟨_, by rw [hH.top]; exact e, e2 _ _, (fun q => by cases q), by rw [arrV_size]; exact Nat.le_refl _, by rw [arrV_size], fun j hj => arrV_read _ _ hj, fun _ => ⟨cA, rfl, e2, e3⟩⟩
theorem r_newarray {M : MD} {d mc ms pc pc' z k n : Nat} {Q : Option Value → Hp → Nat → Prop} {L S : List Value} {h : Hp} {atype : ArrayType} {w : Nat} {i : Int32} (hi : Ins M pc (.newarray atype) 2 pc') (hw : Cond.arrayClass (newarray.typeOf atype) ∈ GW) (hi0 : ¬ i < 0) (hiw : i.toNatClampNeg = w) (hlim : w ≤ 65536) (hk1 : k + 1 ≤ mc) (hn1 : n + w ≤ ms) (K : R M d mc ms Q pc' L (.ref z :: S) (hset h z (.inl (newarray.typeOf atype, w, fun _ => defaultValue (newarray.typeOf atype)))) (z + 1) (k + 1) (n + w)) : R M d mc ms Q pc L (.int i :: S) h z k n := by
  intro p l e Rm s m args below meth c E Qf O H locs ls hH hS hL hk hn
  obtain ⟨hx, hb, hml, hown, hts, hrm, hin, hK, hZ, hX, hB, hRC⟩ := id O
  obtain ⟨hd, rfl⟩ := hi
  have hcb : componentBytes (newarray.typeOf atype) ≤ 8 := by cases atype <;> decide
  refine va_newaK hx hb (hts _ hw) rfl hd rfl hi0 hiw (Nat.le_trans (Nat.mul_le_mul hlim hcb) (by decide)) (by omega) (by omega) rfl fun H1 cA e1 z1 o1 hAr hNm => ?_
  have hz0 : ad E z = H.size := hH.top
  have hst : (.ref H.size : Value) = sh E (.ref z) := by show _ = Value.ref (ad E z); rw [hz0]
  rw [hst]
  exact K p l e Rm s m args below meth c E Qf O H1 _ ls (hH.push (arAt_new hH (Nat.lt_of_le_of_lt hlim (by decide)) (by cases atype <;> rfl) e1 hAr (by cases atype <;> exact hNm)) z1 o1) (va_S.push1 hS (by omega) o1) hL hk1 hn1
theorem r_anewarray {M : MD} {d mc ms pc pc' z k n : Nat} {Q : Option Value → Hp → Nat → Prop} {L S : List Value} {h : Hp} {idx : Nat} {C : String} {w : Nat} {i : Int32} (hi : Ins M pc (.anewarray idx) 3 pc') (hw : Cond.classLink M.1.cls idx C ∈ GW) (hAO : ∀ s, XT s → va_AO C s) (hi0 : ¬ i < 0) (hiw : i.toNatClampNeg = w) (hlim : w ≤ 65536) (hk1 : k + 1 ≤ mc) (hn1 : n + w ≤ ms) (K : R M d mc ms Q pc' L (.ref z :: S) (hset h z (.inl (.object C, w, fun _ => .null))) (z + 1) (k + 1) (n + w)) : R M d mc ms Q pc L (.int i :: S) h z k n := by
  intro p l e Rm s m args below meth c E Qf O H locs ls hH hS hL hk hn
  obtain ⟨hx, hb, hml, hown, hts, hrm, hin, hK, hZ, hX, hB, hRC⟩ := id O
  obtain ⟨hd, rfl⟩ := hi
  subst hiw
  refine W.anew hx hb hown (hts _ hw) (va_AO.use (hAO s hX)) rfl hd rfl hi0 (by omega) (by omega) (by omega) fun cA kA comp f1 f2 f3 f4 => ?_
  generalize hH1 : H.push { cls := cA, slots := Array.replicate i.toNatClampNeg .null, vm := .none } = H1
  have e1 : H1[H.size]? = some (arrV cA i.toNatClampNeg (fun _ => .null)) := by rw [← hH1, Array.getElem?_push_size, ← arrV_new]
  have z1 : H1.size = H.size + 1 := by rw [← hH1, Array.size_push]
  have o1 : ∀ q : Nat, q < H.size → H1[q]? = H[q]? := fun q hq => by rw [← hH1, Array.getElem?_push, if_neg (Nat.ne_of_lt hq)]
  have hAr : ArrOfT s cA (.object C) := fun N z => ⟨(fun k h => by cases h), kA, f2, comp, f3⟩
  have hz0 : ad E z = H.size := hH.top
  have hst : (.ref H.size : Value) = sh E (.ref z) := by show _ = Value.ref (ad E z); rw [hz0]
  show W p l e Rm s m args below meth c H1 locs (k + 1) (n + i.toNatClampNeg) Qf (F0 m (pc + 3) ls (.ref H.size :: S.map (sh E)))
  rw [hst]
  exact K p l e Rm s m args below meth c E Qf O H1 _ ls (hH.push (arAt_new hH (Nat.lt_of_le_of_lt hlim (by decide)) rfl e1 hAr ⟨kA, comp, f2, f3, f4, f1⟩) z1 o1) (va_S.push1 hS (by omega) o1) hL hk1 hn1
theorem r_new {M : MD} {d mc ms pc pc' z k n : Nat} {Q : Option Value → Hp → Nat → Prop} {L S : List Value} {h : Hp} {idx ci N : Nat} {C : String} {T : u_T} {ty : Nat → FieldType} {fs : List Value} (hi : Ins M pc (.new idx) 3 pc') (hci : vwCl[ci]? = some (C, T, N)) (hw : Cond.classLink M.1.cls idx C ∈ GW ∧ Cond.instantiable C N ∈ GW ∧ Cond.initialized C ∈ GW ∧ (∀ w ∈ u_ws C T N, w ∈ GW)) (hty : ∀ k, k < N → parseFieldDescriptor (T k).2.2.1 = some (ty k)) (hfs : fs = (List.range N).map (fun j => defaultValue (ty j))) (hk1 : k + 1 ≤ mc) (hn1 : n + N ≤ ms) (K : R M d mc ms Q pc' L (.ref z :: S) (hset h z (.inr (ci, fs))) (z + 1) (k + 1) (n + N)) : R M d mc ms Q pc L S h z k n := by
  intro p l e Rm s m args below meth c E Qf O H locs ls hH hS hL hk hn
  obtain ⟨hx, hb, hml, hown, hts, hrm, hin, hK, hZ, hX, hB, hRC⟩ := id O
  obtain ⟨hd, rfl⟩ := hi
  obtain ⟨w1, w2, w3, w4⟩ := hw
  have hKn := hK.1 ci _ hci
  refine W.newcK hx hb hown (hts _ w1) (hts _ w2) (hts _ w3) rfl hd (by omega) (by omega) hKn.2.1 rfl fun H1 kC hkC e1 z1 o1 => ?_
  have hz0 : ad E z = H.size := hH.top
  have hst : (.ref H.size : Value) = sh E (.ref z) := by show _ = Value.ref (ad E z); rw [hz0]
  show W p l e Rm s m args below meth c H1 locs (k + 1) (n + N) Qf (F0 m (pc + 3) ls (.ref H.size :: S.map (sh E)))
  rw [hst]
  refine K p l e Rm s m args below meth c E Qf O H1 _ ls (hH.push ⟨hH.1, ?_⟩ z1 o1) (va_S.push1 hS (by omega) o1) hL hk1 hn1
  rw [hz0]
  refine ⟨_, hci, (u_born ty hts (fun w hw => w4 w hw) hKn hkC e1 hty).to fun j hj => ?_⟩
  subst hfs
  have hsd : ∀ t : FieldType, sh E (defaultValue t) = defaultValue t := fun t => by cases t <;> rfl
  simp [vp_V, List.getD, hj, hsd]
theorem r_objinit {M : MD} {d mc ms pc pc' z k n : Nat} {Q : Option Value → Hp → Nat → Prop} {L S : List Value} {h : Hp} {idx a : Nat} (hi : Ins M pc (.invokespecial idx) 3 pc') (hw : Cond.methodLink M.1.cls idx objectInit ∈ GW ∧ Cond.instanceMethod objectInit ∈ GW ∧ Cond.code objectInit ⟨#[0xb1]⟩ 1 none ∈ GW) (hd1 : 1 ≤ d) (hS8 : (S.map fun v => v.category).sum ≤ 8) (K : R M d mc ms Q pc' L S h z k n) : R M d mc ms Q pc L (.ref a :: S) h z k n := by
  intro p l e Rm s m args below meth c E Qf O H locs ls hH hS hL hk hn
  obtain ⟨hx, hb, hml, hown, hts, hrm, hin, hK, hZ, hX, hB, hRC⟩ := id O
  obtain ⟨hd, rfl⟩ := hi
  have hcat : ((S.map (sh E)).map fun v => v.category).sum ≤ 8 := by
    rw [List.map_map, show ((fun v : Value => v.category) ∘ sh E) = fun v => v.category from funext fun v => sh_cat E v]
    exact hS8
  refine W.objInit hx hb hown (hts _ hw.1) (hts _ hw.2.1) (hts _ hw.2.2) rfl (by rw [hml]; exact hL.1) rfl hd (by omega) ?_ (K p l e Rm s m args below meth c E Qf O H locs ls hH hS hL hk hn)
  show 2 * 0 + _ + 12 ≤ _
  omega
theorem r_getTENS {M : MD} {d mc ms pc pc' z k n : Nat} {Q : Option Value → Hp → Nat → Prop} {L S : List Value} {h : Hp} {idx : Nat} (hi : Ins M pc (.getstatic idx) 3 pc') (hw : Cond.fieldLink M.1.cls idx "UpWithSheaf" "TENS" "[J" ∈ GW) (K : R M d mc ms Q pc' L (.ref 1 :: S) h z k n) : R M d mc ms Q pc L S h z k n := by
  intro p l e Rm s m args below meth c E Qf O H locs ls hH hS hL hk hn
  obtain ⟨hx, hb, hml, hown, hts, hrm, hin, hK, hZ, hX, hB, hRC⟩ := id O
  obtain ⟨hd, rfl⟩ := hi
  exact va_gets (v := .ref E.2.1) hx hb hZ hS hown (hts _ hw) (fun _ h9 => h9) hd (K p l e Rm s m args below meth c E Qf O H locs ls hH hS hL hk hn)
theorem r_getTENSN {M : MD} {d mc ms pc pc' z k n : Nat} {Q : Option Value → Hp → Nat → Prop} {L S : List Value} {h : Hp} {idx : Nat} (hi : Ins M pc (.getstatic idx) 3 pc') (hM : M.1.cls = "UpWithSheaf$Ahead") (hidx : idx = 82) (K : R M d mc ms Q pc' L (.ref 1 :: S) h z k n) : R M d mc ms Q pc L S h z k n := by
  intro p l e Rm s m args below meth c E Qf O H locs ls hH hS hL hk hn
  obtain ⟨hx, hb, hml, hown, hts, hrm, hin, hK, hZ, hX, hB, hRC⟩ := id O
  obtain ⟨hd, rfl⟩ := hi
  subst hidx
  have h2 := hX.2.1
  rw [← hM] at h2
  exact va_getsN (v := .ref E.2.1) hx hb hZ hS hown (va_Nw.use rfl h2) (fun _ h9 => h9) hd (K p l e Rm s m args below meth c E Qf O H locs ls hH hS hL hk hn)
theorem catS {E : eE} {S : List Value} (hS8 : (S.map fun v => v.category).sum ≤ 8) : ((S.map (sh E)).map fun v => v.category).sum ≤ 8 := by
  rw [List.map_map, show ((fun v : Value => v.category) ∘ sh E) = fun v => v.category from funext fun v => sh_cat E v]
  exact hS8
theorem wld_at {E : eE} {h : Hp} {z : Nat} {s U : State} {H : Heap} {locs : List Loc} (hH : hR E s h z H) (hS : va_S (fun q => E.2.2.1 ≤ q) s.heap H locs) (hK : va_K (aD E) vwCl [] s) (hZ : va_Z "UpWithSheaf" "TENS" "[J" (.ref E.2.1) (fun q => E.2.2.1 ≤ q) s s.heap) (hX : XT s) (hU : U.heap = H) (hW : s.WarmedH U.vm) : wld E h z U := by
  refine ⟨by rw [hU]; exact hH.moved hW.alike, hK.moved hW.alike, ?_, hX.warm hW⟩
  rw [hU]
  exact (hZ.kept (H1 := H) fun a ha hna => hS.2.1 a ha hna).moved hW.alike
theorem cPc_blind (E : eE) (A : List Value) (h : Hp) (z : Nat) : FrameBlind (cPc E A h z) := by
  rintro a U g mk ⟨h1, h2, h3, h4, h5⟩
  exact ⟨h1, h2.moved (u := U) (U := U.calling g mk a) (Vm.Alike.refl U.vm), h3.moved (u := U) (U := U.calling g mk a) (Vm.Alike.refl U.vm), h4.moved (u := U) (U := U.calling g mk a) (Vm.Alike.refl U.vm), h5.same rfl⟩
theorem GW_wM {M : MD} (hc : Cond.code M.1 M.2.1 M.2.2.1 M.2.2.2 ∈ GW) : GoodIn GW (wM M) := fun w hw => by
  rcases List.mem_cons.mp hw with rfl | hw
  · exact GW_good _ hc
  · exact GW_good _ hw
theorem room_ok {d d' mc' ms' n : Nat} {Rm : Room} (hd : d' + 1 ≤ d) (hrm : d ≤ Rm.frames ∧ 48 * d ≤ Rm.locals) (hn : n ≤ 29) : (rmd d' mc' ms').frames + 1 ≤ Rm.frames ∧ 8 + (n + 11) + (rmd d' mc' ms').locals ≤ Rm.locals := by
  show d' + 1 ≤ Rm.frames ∧ 8 + (n + 11) + 48 * d' ≤ Rm.locals
  omega
/-- behind a call -/
theorem run_on {p : Program} {l : Launch} {e : Env} {Rm : Room} {s : State} {m : MethodId} {args : Array Value} {below : List Frame} {meth : Method} {c : Code} {H : Heap} {locs : List Loc} {k n mc' ms' pc : Nat} {Qf : State → Prop} {ls : Array Slot} {st0 S : List Value} {E : eE} {Q' : Option Value → Hp → Nat → Prop} {a : Array Value}
    (hr : va_Run p l e Rm s m args below meth c H locs k n mc' ms' (F0 m pc ls st0) (S.map (sh E)) (cQc E Q' a) (fun q => E.2.2.1 ≤ q)) (hS : va_S (fun q => E.2.2.1 ≤ q) s.heap H locs)
    (kk : ∀ (v : Option Value) (h' : Hp) (z' : Nat) (H1 : Heap) (locs1 : List Loc), Q' v h' z' → hR E s h' z' H1 → va_S (fun q => E.2.2.1 ≤ q) s.heap H1 locs1 → W p l e Rm s m args below meth c H1 locs1 (k + mc') (n + ms') Qf (F0 m (pc + 3) ls ((v.toList ++ S).map (sh E)))) : W p l e Rm s m args below meth c H locs k n Qf (F0 m pc ls st0) := by
  intro T hT X
  obtain ⟨v, st₀, t, T', Lc, h0, X', hLc, e1, e2, ⟨v1, h', z', hv, hq, hH1, hz, hk⟩, st⟩ := hr T hT X
  have hv1 : v = v1.map (sh E) := by injection hv
  rw [h0] at hz hk
  have hal : t.vm.Alike s.vm := by rw [← e2]; exact X'.warmed.alike.symm
  have hst : v.toList ++ S.map (sh E) = (v1.toList ++ S).map (sh E) := by rw [hv1]; cases v1 <;> rfl
  have hS1 : va_S (fun q => E.2.2.1 ≤ q) s.heap T'.heap (locs ++ Lc) := by
    refine ⟨Nat.le_trans hS.1 (by rw [e1]; exact hz), fun q g1 g2 => ?_, fun q hq => ?_⟩
    · rw [e1, hk q (Nat.lt_of_lt_of_le g1 hS.1) g2]
      exact hS.2.1 q g1 g2
    · rcases List.mem_append.mp hq with g | g
      · exact hS.2.2 q g
      · exact hLc q g
  obtain ⟨t2, a1, b1⟩ := kk v1 h' z' T'.heap (locs ++ Lc) hq (by rw [e1]; exact hH1.moved hal) hS1 T' rfl X'
  rw [hst] at st
  exact ⟨t2, st t2 a1, b1⟩
def CV (M : MD) (idx : Nat) (M' : MD) (na : Nat) : Prop := (Cond.methodLink M.1.cls idx M'.1 ∈ GW ∧ Cond.instanceMethod M'.1 ∈ GW ∧ Cond.selects M'.1.cls M'.1 M'.1 ∈ GW ∧ Cond.initialized M'.1.cls ∈ GW ∧ Cond.code M'.1 M'.2.1 M'.2.2.1 M'.2.2.2 ∈ GW) ∧ (M'.1.cls ≠ "java/lang/invoke/MethodHandle" ∧ M'.1.cls ≠ "java/lang/invoke/VarHandle" ∧ (parseMethodDescriptor M'.1.desc).map (fun d => d.parameters.length) = some na) ∧ M'.2.2.1 ≤ 29
def CS (M : MD) (idx : Nat) (M' : MD) (na : Nat) : Prop := (Cond.methodLink M.1.cls idx M'.1 ∈ GW ∧ Cond.static M'.1 ∈ GW ∧ Cond.initialized M'.1.cls ∈ GW ∧ Cond.code M'.1 M'.2.1 M'.2.2.1 M'.2.2.2 ∈ GW) ∧ (M'.1.cls ≠ "java/lang/invoke/MethodHandle" ∧ M'.1.cls ≠ "java/lang/invoke/VarHandle" ∧ (parseMethodDescriptor M'.1.desc).map (fun d => d.parameters.length) = some na) ∧ M'.2.2.1 ≤ 29
def CI (M : MD) (idx : Nat) (M' : MD) (na : Nat) : Prop := (Cond.methodLink M.1.cls idx M'.1 ∈ GW ∧ Cond.instanceMethod M'.1 ∈ GW ∧ Cond.initialized M'.1.cls ∈ GW ∧ Cond.code M'.1 M'.2.1 M'.2.2.1 M'.2.2.2 ∈ GW ∧ M'.1.name = "<init>" ∧ M'.2.2.2 = none) ∧ (M'.1.cls ≠ "java/lang/invoke/MethodHandle" ∧ M'.1.cls ≠ "java/lang/invoke/VarHandle" ∧ (parseMethodDescriptor M'.1.desc).map (fun d => d.parameters.length) = some na) ∧ M'.2.2.1 ≤ 29
def CSN (M : MD) (idx : Nat) (M' : MD) (na : Nat) : Prop := ((∃ host : String, (M.1.cls, idx, M'.1, host) ∈ NMl) ∧ Cond.static M'.1 ∈ GW ∧ Cond.initialized M'.1.cls ∈ GW ∧ Cond.code M'.1 M'.2.1 M'.2.2.1 M'.2.2.2 ∈ GW) ∧ (M'.1.cls ≠ "java/lang/invoke/MethodHandle" ∧ M'.1.cls ≠ "java/lang/invoke/VarHandle" ∧ (parseMethodDescriptor M'.1.desc).map (fun d => d.parameters.length) = some na) ∧ M'.2.2.1 ≤ 29
def CIN (M : MD) (idx : Nat) (M' : MD) (na : Nat) : Prop := ((∃ host : String, (M.1.cls, idx, M'.1, host) ∈ NMl) ∧ Cond.instanceMethod M'.1 ∈ GW ∧ Cond.initialized M'.1.cls ∈ GW ∧ Cond.code M'.1 M'.2.1 M'.2.2.1 M'.2.2.2 ∈ GW ∧ M'.1.name = "<init>" ∧ M'.2.2.2 = none) ∧ (M'.1.cls ≠ "java/lang/invoke/MethodHandle" ∧ M'.1.cls ≠ "java/lang/invoke/VarHandle" ∧ (parseMethodDescriptor M'.1.desc).map (fun d => d.parameters.length) = some na) ∧ M'.2.2.1 ≤ 29
set_option maxHeartbeats 1000000 in
theorem r_callV {M : MD} {d mc ms pc pc' z k n : Nat} {Q : Option Value → Hp → Nat → Prop} {L S : List Value} {h : Hp} {M' : MD} {d' mc' ms' idx na : Nat} {As St : List Value} {Q' : Option Value → Hp → Nat → Prop} {a : Nat} (hi : Ins M pc (.invokevirtual idx) 3 pc') (hc : CV M idx M' na) (hC : Cal M' d' mc' ms' (.ref a :: As) h z Q') (hd1 : d' + 1 ≤ d) {ci N : Nat} {T : u_T} {fs : List Value} (hh : h a = some (.inr (ci, fs))) (hci : vwCl[ci]? = some (M'.1.cls, T, N)) (hna : As.length = na) (hst : St = As.reverse ++ .ref a :: S) (hS8 : (S.map fun v => v.category).sum ≤ 8) (hk1 : k + mc' ≤ mc) (hn1 : n + ms' ≤ ms) (K : ∀ v h' z', Q' v h' z' → R M d mc ms Q pc' L (v.toList ++ S) h' z' (k + mc') (n + ms')) : R M d mc ms Q pc L St h z k n := by
  intro p l e Rm s m args below meth c E Qf O H locs ls hH hS hL hk hn
  obtain ⟨hx, hb, hml, hown, hts, hrm, hin, hK, hZ, hX, hB, hRC⟩ := id O
  obtain ⟨hd, rfl⟩ := hi
  subst hst
  obtain ⟨hw, hd3, hm29⟩ := hc
  obtain ⟨w1, w2, w3, w4, w5⟩ := hw
  have hG : GoodIn GW (wsV M.1.cls idx M'.1.cls M'.1 (wM M')) := fun w hw => by
    rcases List.mem_append.mp hw with hw | hw
    · simp only [List.mem_cons, List.not_mem_nil, or_false] at hw
      rcases hw with rfl | rfl | rfl | rfl <;> exact GW_good _ (by assumption)
    · exact GW_wM w5 w hw
  obtain ⟨-, g2, g3⟩ := hH.2.2.2.2 a _ hh
  have hrecv : ∃ cell : Cell, H[ad E a]? = some cell ∧ cell.vm.isStatics = false ∧ s.vm.findClass M'.1.cls = some cell.cls := by
    obtain ⟨r, h1, cell, q1, q2, q3, -⟩ := g3
    cases h1.symm.trans hci
    exact ⟨cell, q1, by rw [q3]; rfl, by rw [q2]; exact (hK.1 ci _ hci).2.1⟩
  exact run_on (va_runV (As := As.map (sh E)) (rest := S.map (sh E)) ⟨hx, hb, hml, hown, hts⟩ (hC l E) (cwV na hts hG rfl rfl rfl ⟨rfl, hd3⟩ (room_ok hd1 ⟨hrm.1, hrm.2.1⟩ hm29)) ⟨cPc_blind _ _ _ _, hrecv, fun U hU hW => ⟨rfl, wld_at hH hS hK hZ hX hU hW⟩⟩ rfl (by rw [List.length_map]; exact hna) hL.1 (by show List.map (sh E) _ = _; simp [List.map_append, List.map_reverse, sh]) (lv_room (catS hS8)) hd ⟨by omega, by omega⟩) hS (fun v h' z' H1 locs1 hq hH1 hS1 => K v h' z' hq p l e Rm s m args below meth c E Qf O H1 locs1 ls hH1 hS1 hL hk1 hn1)
set_option maxHeartbeats 1000000 in
theorem r_callS {M : MD} {d mc ms pc pc' z k n : Nat} {Q : Option Value → Hp → Nat → Prop} {L S : List Value} {h : Hp} {M' : MD} {d' mc' ms' idx na : Nat} {As St : List Value} {Q' : Option Value → Hp → Nat → Prop}  (hi : Ins M pc (.invokestatic idx) 3 pc') (hc : CS M idx M' na) (hC : Cal M' d' mc' ms' (As) h z Q') (hd1 : d' + 1 ≤ d)  (hna : As.length = na) (hst : St = As.reverse ++ S) (hS8 : (S.map fun v => v.category).sum ≤ 8) (hk1 : k + mc' ≤ mc) (hn1 : n + ms' ≤ ms) (K : ∀ v h' z', Q' v h' z' → R M d mc ms Q pc' L (v.toList ++ S) h' z' (k + mc') (n + ms')) : R M d mc ms Q pc L St h z k n := by
  intro p l e Rm s m args below meth c E Qf O H locs ls hH hS hL hk hn
  obtain ⟨hx, hb, hml, hown, hts, hrm, hin, hK, hZ, hX, hB, hRC⟩ := id O
  obtain ⟨hd, rfl⟩ := hi
  subst hst
  obtain ⟨hw, hd3, hm29⟩ := hc
  obtain ⟨w1, w2, w3, w5⟩ := hw
  have hG : GoodIn GW (va_wsS M.1.cls idx M'.1 (wM M')) := fun w hw => by
    rcases List.mem_append.mp hw with hw | hw
    · simp only [List.mem_cons, List.not_mem_nil, or_false] at hw
      rcases hw with rfl | rfl | rfl <;> exact GW_good _ (by assumption)
    · exact GW_wM w5 w hw
  exact run_on (va_runS (As := As.map (sh E)) (rest := S.map (sh E)) ⟨hx, hb, hml, hown, hts⟩ (hC l E) (va_cwS na hts hG rfl rfl rfl hd3 (room_ok hd1 ⟨hrm.1, hrm.2.1⟩ hm29)) ⟨cPc_blind _ _ _ _, fun U hU hW => ⟨rfl, wld_at hH hS hK hZ hX hU hW⟩⟩ rfl (by rw [List.length_map]; exact hna) hL.1 (by show List.map (sh E) _ = _; simp [List.map_append, List.map_reverse, sh]) (lv_room (catS hS8)) hd ⟨by omega, by omega⟩) hS (fun v h' z' H1 locs1 hq hH1 hS1 => K v h' z' hq p l e Rm s m args below meth c E Qf O H1 locs1 ls hH1 hS1 hL hk1 hn1)
set_option maxHeartbeats 1000000 in
theorem r_callI {M : MD} {d mc ms pc pc' z k n : Nat} {Q : Option Value → Hp → Nat → Prop} {L S : List Value} {h : Hp} {M' : MD} {d' mc' ms' idx na : Nat} {As St : List Value} {Q' : Option Value → Hp → Nat → Prop} {a : Nat} (hi : Ins M pc (.invokespecial idx) 3 pc') (hc : CI M idx M' na) (hC : Cal M' d' mc' ms' (.ref a :: As) h z Q') (hd1 : d' + 1 ≤ d)  (hna : As.length = na) (hst : St = As.reverse ++ .ref a :: S) (hS8 : (S.map fun v => v.category).sum ≤ 8) (hk1 : k + mc' ≤ mc) (hn1 : n + ms' ≤ ms) (K : ∀ v h' z', Q' v h' z' → R M d mc ms Q pc' L (v.toList ++ S) h' z' (k + mc') (n + ms')) : R M d mc ms Q pc L St h z k n := by
  intro p l e Rm s m args below meth c E Qf O H locs ls hH hS hL hk hn
  obtain ⟨hx, hb, hml, hown, hts, hrm, hin, hK, hZ, hX, hB, hRC⟩ := id O
  obtain ⟨hd, rfl⟩ := hi
  subst hst
  obtain ⟨hw, hd3, hm29⟩ := hc
  obtain ⟨w1, w2, w4, w5, w6, w7⟩ := hw
  have hws : wM M' = Cond.code M'.1 M'.2.1 M'.2.2.1 none :: GW := by unfold wM; rw [w7]
  exact run_on (va_runI (As := As.map (sh E)) (rest := S.map (sh E)) ⟨hx, hb, hml, hown, hts⟩ (hC l E) (cwI na hts (GW_wM w5) hws rfl rfl (hts _ w4) (hts _ w1) (hts _ w2) w6 hd3 (room_ok hd1 ⟨hrm.1, hrm.2.1⟩ hm29)) ⟨cPc_blind _ _ _ _, fun U hU hW => ⟨rfl, wld_at hH hS hK hZ hX hU hW⟩⟩ rfl (by rw [List.length_map]; exact hna) hL.1 (by show List.map (sh E) _ = _; simp [List.map_append, List.map_reverse, sh]) (lv_room (catS hS8)) hd ⟨by omega, by omega⟩) hS (fun v h' z' H1 locs1 hq hH1 hS1 => K v h' z' hq p l e Rm s m args below meth c E Qf O H1 locs1 ls hH1 hS1 hL hk1 hn1)
set_option maxHeartbeats 1000000 in
theorem r_callSN {M : MD} {d mc ms pc pc' z k n : Nat} {Q : Option Value → Hp → Nat → Prop} {L S : List Value} {h : Hp} {M' : MD} {d' mc' ms' idx na : Nat} {As St : List Value} {Q' : Option Value → Hp → Nat → Prop}  (hi : Ins M pc (.invokestatic idx) 3 pc') (hc : CSN M idx M' na) (hC : Cal M' d' mc' ms' (As) h z Q') (hd1 : d' + 1 ≤ d)  (hna : As.length = na) (hst : St = As.reverse ++ S) (hS8 : (S.map fun v => v.category).sum ≤ 8) (hk1 : k + mc' ≤ mc) (hn1 : n + ms' ≤ ms) (K : ∀ v h' z', Q' v h' z' → R M d mc ms Q pc' L (v.toList ++ S) h' z' (k + mc') (n + ms')) : R M d mc ms Q pc L St h z k n := by
  intro p l e Rm s m args below meth c E Qf O H locs ls hH hS hL hk hn
  obtain ⟨hx, hb, hml, hown, hts, hrm, hin, hK, hZ, hX, hB, hRC⟩ := id O
  obtain ⟨hd, rfl⟩ := hi
  subst hst
  obtain ⟨hw, hd3, hm29⟩ := hc
  obtain ⟨⟨host, w1⟩, w2, w3, w5⟩ := hw
  exact run_on (va_runSN (As := As.map (sh E)) (rest := S.map (sh E)) ⟨hx, hb, hml, hown, hts⟩ (hC l E) ⟨va_cnB na hts (GW_wM w5) rfl rfl rfl (hX.1 _ w1) (hts _ w3) hd3 (room_ok hd1 ⟨hrm.1, hrm.2.1⟩ hm29), hts _ w2, trivial⟩ ⟨cPc_blind _ _ _ _, fun U hU hW => ⟨rfl, wld_at hH hS hK hZ hX hU hW⟩⟩ rfl (by rw [List.length_map]; exact hna) hL.1 (by show List.map (sh E) _ = _; simp [List.map_append, List.map_reverse, sh]) (lv_room (catS hS8)) hd ⟨by omega, by omega⟩) hS (fun v h' z' H1 locs1 hq hH1 hS1 => K v h' z' hq p l e Rm s m args below meth c E Qf O H1 locs1 ls hH1 hS1 hL hk1 hn1)
set_option maxHeartbeats 1000000 in
theorem r_callIN {M : MD} {d mc ms pc pc' z k n : Nat} {Q : Option Value → Hp → Nat → Prop} {L S : List Value} {h : Hp} {M' : MD} {d' mc' ms' idx na : Nat} {As St : List Value} {Q' : Option Value → Hp → Nat → Prop} {a : Nat} (hi : Ins M pc (.invokespecial idx) 3 pc') (hc : CIN M idx M' na) (hC : Cal M' d' mc' ms' (.ref a :: As) h z Q') (hd1 : d' + 1 ≤ d)  (hna : As.length = na) (hst : St = As.reverse ++ .ref a :: S) (hS8 : (S.map fun v => v.category).sum ≤ 8) (hk1 : k + mc' ≤ mc) (hn1 : n + ms' ≤ ms) (K : ∀ v h' z', Q' v h' z' → R M d mc ms Q pc' L (v.toList ++ S) h' z' (k + mc') (n + ms')) : R M d mc ms Q pc L St h z k n := by
  intro p l e Rm s m args below meth c E Qf O H locs ls hH hS hL hk hn
  obtain ⟨hx, hb, hml, hown, hts, hrm, hin, hK, hZ, hX, hB, hRC⟩ := id O
  obtain ⟨hd, rfl⟩ := hi
  subst hst
  obtain ⟨hw, hd3, hm29⟩ := hc
  obtain ⟨⟨host, w1⟩, w2, w4, w5, w6, w7⟩ := hw
  have hws : wM M' = Cond.code M'.1 M'.2.1 M'.2.2.1 none :: GW := by unfold wM; rw [w7]
  exact run_on (va_runIN (As := As.map (sh E)) (rest := S.map (sh E)) ⟨hx, hb, hml, hown, hts⟩ (hC l E) ⟨va_cnB na hts (GW_wM w5) hws rfl rfl (hX.1 _ w1) (hts _ w4) hd3 (room_ok hd1 ⟨hrm.1, hrm.2.1⟩ hm29), w6, hts _ w2⟩ ⟨cPc_blind _ _ _ _, fun U hU hW => ⟨rfl, wld_at hH hS hK hZ hX hU hW⟩⟩ rfl (by rw [List.length_map]; exact hna) hL.1 (by show List.map (sh E) _ = _; simp [List.map_append, List.map_reverse, sh]) (lv_room (catS hS8)) hd ⟨by omega, by omega⟩) hS (fun v h' z' H1 locs1 hq hH1 hS1 => K v h' z' hq p l e Rm s m args below meth c E Qf O H1 locs1 ls hH1 hS1 hL hk1 hn1)
end
section
def MX0_init : MD := (yX0_init, cX0_init, 2, none)
def MX0_forget : MD := (yX0_forget, cX0_forget, 1, none)
def MX0_remember : MD := (yX0_remember, cX0_remember, 2, none)
def MX0_takeBack : MD := (yX0_takeBack, cX0_takeBack, 2, none)
def MX1_wholeOf : MD := (yX1_wholeOf, cX1_wholeOf, 4, (some .long))
def MX1_failing : MD := (yX1_failing, cX1_failing, 6, (some .long))
def MX1_greatest : MD := (yX1_greatest, cX1_greatest, 9, (some .long))
def MX1_byTrying : MD := (yX1_byTrying, cX1_byTrying, 12, (some .long))
def MX1_bySparing : MD := (yX1_bySparing, cX1_bySparing, 7, (some .long))
def MX1_unbeaten : MD := (yX1_unbeaten, cX1_unbeaten, 14, (some .long))
def MX1_noOtherBeats : MD := (yX1_noOtherBeats, cX1_noOtherBeats, 4, (some .boolean))
def MX1_unitsLeft : MD := (yX1_unitsLeft, cX1_unitsLeft, 2, (some .long))
def MX2_init : MD := (yX2_init, cX2_init, 2, none)
def MX2_startFrom : MD := (yX2_startFrom, cX2_startFrom, 3, none)
def MX2_copyFrom : MD := (yX2_copyFrom, cX2_copyFrom, 3, none)
def MX2_knows : MD := (yX2_knows, cX2_knows, 2, (some .boolean))
def MX2_isEnded : MD := (yX2_isEnded, cX2_isEnded, 1, (some .boolean))
def MX2_act : MD := (yX2_act, cX2_act, 3, none)
def MX2_raise : MD := (yX2_raise, cX2_raise, 2, none)
def MX2_nextBehind : MD := (yX2_nextBehind, cX2_nextBehind, 4, (some .int))
def MX2_oddsOfTurn : MD := (yX2_oddsOfTurn, cX2_oddsOfTurn, 1, (some .int))
def MX2_betterThan : MD := (yX2_betterThan, cX2_betterThan, 4, (some .int))
def MX2_leaders : MD := (yX2_leaders, cX2_leaders, 3, (some .int))
def MX2_who : MD := (yX2_who, cX2_who, 4, (some .int))
def MX2_notOut : MD := (yX2_notOut, cX2_notOut, 1, (some .int))
def MX3_init : MD := (yX3_init, cX3_init, 1, none)
def MX3_such : MD := (yX3_such, cX3_such, 6, (some .int))
def MX3_outHere : MD := (yX3_outHere, cX3_outHere, 5, (some .int))
def MX3_goOn : MD := (yX3_goOn, cX3_goOn, 8, none)
def MX3_empty : MD := (yX3_empty, cX3_empty, 3, none)
def MX4_init : MD := (yX4_init, cX4_init, 1, none)
def MX4_append : MD := (yX4_append, cX4_append, 5, none)
def MX4_firstFault : MD := (yX4_firstFault, cX4_firstFault, 2, (some .int))
def MX4_canStand : MD := (yX4_canStand, cX4_canStand, 3, (some .boolean))
def MX4_throwersTold : MD := (yX4_throwersTold, cX4_throwersTold, 1, (some .int))
def MX4_barTold : MD := (yX4_barTold, cX4_barTold, 1, (some .int))
def MX4_strengthTold : MD := (yX4_strengthTold, cX4_strengthTold, 2, (some .int))
def MX4_windTold : MD := (yX4_windTold, cX4_windTold, 2, (some .int))
def MX4_figureAt : MD := (yX4_figureAt, cX4_figureAt, 2, (some .int))
def MX5_init : MD := (yX5_init, cX5_init, 1, none)
def MX5_start : MD := (yX5_start, cX5_start, 3, none)
def MX5_copyFrom : MD := (yX5_copyFrom, cX5_copyFrom, 2, none)
def MX5_isOut : MD := (yX5_isOut, cX5_isOut, 1, (some .boolean))
def MX5_mayTry : MD := (yX5_mayTry, cX5_mayTry, 1, (some .boolean))
def MX5_attempt : MD := (yX5_attempt, cX5_attempt, 3, none)
def MX5_rest : MD := (yX5_rest, cX5_rest, 1, none)
def MX5_startHeight : MD := (yX5_startHeight, cX5_startHeight, 1, none)
def MX5_oddsAt : MD := (yX5_oddsAt, cX5_oddsAt, 5, (some .int))
def MX5_isBetterThan : MD := (yX5_isBetterThan, cX5_isBetterThan, 2, (some .boolean))
def MX5_told : MD := (yX5_told, cX5_told, 2, (some .int))
def MX6_init : MD := (yX6_init, cX6_init, 2, none)
def MX6_write : MD := (yX6_write, cX6_write, 4, (some .int))
def MX6_wipe : MD := (yX6_wipe, cX6_wipe, 2, (some .int))
def MX6_fault : MD := (yX6_fault, cX6_fault, 1, (some .int))
def MX6_field : MD := (yX6_field, cX6_field, 2, (some .int))
def MX6_thrower : MD := (yX6_thrower, cX6_thrower, 3, (some .int))
def MX6_on : MD := (yX6_on, cX6_on, 1, (some .int))
def MX6_rank : MD := (yX6_rank, cX6_rank, 2, (some .int))
def MX6_odds : MD := (yX6_odds, cX6_odds, 3, (some .int))
def MX6_toss : MD := (yX6_toss, cX6_toss, 2, (some .int))
def MX6_spare : MD := (yX6_spare, cX6_spare, 1, (some .int))
def MX6_act : MD := (yX6_act, cX6_act, 2, (some .int))
def MX6_undo : MD := (yX6_undo, cX6_undo, 1, (some .int))
def MX6_judge : MD := (yX6_judge, cX6_judge, 5, (some .int))
def MX6_figureOf : MD := (yX6_figureOf, cX6_figureOf, 4, (some .int))
def MX6_clears : MD := (yX6_clears, cX6_clears, 6, (some .int))
def MX6_mean : MD := (yX6_mean, cX6_mean, 8, (some .long))
def MX6_wise : MD := (yX6_wise, cX6_wise, 9, (some .int))
def MX6_first : MD := (yX6_first, cX6_first, 7, (some .long))
def MX6_alone : MD := (yX6_alone, cX6_alone, 16, (some .int))
def MX6_refusalAhead : MD := (yX6_refusalAhead, cX6_refusalAhead, 3, (some .int))
def MX6_leastTerms : MD := (yX6_leastTerms, cX6_leastTerms, 9, (some .long))
def MX6_commonDivisor : MD := (yX6_commonDivisor, cX6_commonDivisor, 11, (some .long))
def MX6_sheets : MD := (yX6_sheets, cX6_sheets, 4, (some .int))
def MX6_seed : MD := (yX6_seed, cX6_seed, 5, (some .long))
def MX6_fair : MD := (yX6_fair, cX6_fair, 4, (some .int))
def MX6_keep : MD := (yX6_keep, cX6_keep, 2, (some .int))
def MX6_again : MD := (yX6_again, cX6_again, 2, (some .int))
def MX6_count : MD := (yX6_count, cX6_count, 2, (some .int))
def MX7_init : MD := (yX7_init, cX7_init, 1, none)
def MX7_in : MD := (yX7_in, cX7_in, 6, (some .boolean))
def MX7_write : MD := (yX7_write, cX7_write, 5, (some .int))
def MX7_wipe : MD := (yX7_wipe, cX7_wipe, 2, (some .int))
def MX7_fits : MD := (yX7_fits, cX7_fits, 3, (some .boolean))
def MX7_fault : MD := (yX7_fault, cX7_fault, 2, (some .int))
def MX7_field : MD := (yX7_field, cX7_field, 2, (some .int))
def MX7_isThrower : MD := (yX7_isThrower, cX7_isThrower, 2, (some .boolean))
def MX7_mark : MD := (yX7_mark, cX7_mark, 4, (some .int))
def MX7_set : MD := (yX7_set, cX7_set, 5, none)
def MX7_thrower : MD := (yX7_thrower, cX7_thrower, 3, (some .int))
def MX7_on : MD := (yX7_on, cX7_on, 1, (some .int))
def MX7_value : MD := (yX7_value, cX7_value, 3, (some .int))
def MX7_valueOf : MD := (yX7_valueOf, cX7_valueOf, 3, (some .int))
def MX7_rankOf : MD := (yX7_rankOf, cX7_rankOf, 5, (some .int))
def MX7_rank : MD := (yX7_rank, cX7_rank, 2, (some .int))
def MX7_oddsOf : MD := (yX7_oddsOf, cX7_oddsOf, 5, (some .int))
def MX7_odds : MD := (yX7_odds, cX7_odds, 3, (some .int))
def MX7_keepAct : MD := (yX7_keepAct, cX7_keepAct, 2, none)
def MX7_nextIn : MD := (yX7_nextIn, cX7_nextIn, 4, (some .int))
def MX7_goOn : MD := (yX7_goOn, cX7_goOn, 5, none)
def MX7_make : MD := (yX7_make, cX7_make, 4, none)
def MX7_act : MD := (yX7_act, cX7_act, 2, (some .int))
def MX7_toss : MD := (yX7_toss, cX7_toss, 2, (some .int))
def MX7_spare : MD := (yX7_spare, cX7_spare, 1, (some .int))
def MX7_undo : MD := (yX7_undo, cX7_undo, 2, (some .int))
def MX7_tenTo : MD := (yX7_tenTo, cX7_tenTo, 4, (some .long))
def MX7_copyNow : MD := (yX7_copyNow, cX7_copyNow, 2, none)
def MX7_judge : MD := (yX7_judge, cX7_judge, 5, (some .int))
def MX7_common : MD := (yX7_common, cX7_common, 10, (some .long))
def MX7_clearsOf : MD := (yX7_clearsOf, cX7_clearsOf, 7, (some .int))
def MX7_isOut : MD := (yX7_isOut, cX7_isOut, 2, (some .boolean))
def MX7_clears : MD := (yX7_clears, cX7_clears, 5, (some .int))
def MX7_place : MD := (yX7_place, cX7_place, 4, (some .int))
def MX7_layMeans : MD := (yX7_layMeans, cX7_layMeans, 6, none)
def MX7_layMean : MD := (yX7_layMean, cX7_layMean, 13, none)
def MX7_refused : MD := (yX7_refused, cX7_refused, 3, (some .int))
def MX7_mean : MD := (yX7_mean, cX7_mean, 10, (some .long))
def MX7_wise : MD := (yX7_wise, cX7_wise, 12, (some .int))
def MX7_partsOf : MD := (yX7_partsOf, cX7_partsOf, 16, (some .long))
def MX7_first : MD := (yX7_first, cX7_first, 9, (some .long))
def MX7_alone : MD := (yX7_alone, cX7_alone, 8, (some .int))
def MX7_sheets : MD := (yX7_sheets, cX7_sheets, 11, (some .int))
def MX7_seed : MD := (yX7_seed, cX7_seed, 5, (some .long))
def MX7_winners : MD := (yX7_winners, cX7_winners, 4, (some .int))
def MX7_fair : MD := (yX7_fair, cX7_fair, 2, (some .int))
def MX7_keep : MD := (yX7_keep, cX7_keep, 3, (some .int))
def MX7_again : MD := (yX7_again, cX7_again, 3, (some .int))
def MX7_those : MD := (yX7_those, cX7_those, 4, (some .int))
def MX7_count : MD := (yX7_count, cX7_count, 2, (some .int))
def MJ9_max_7cf53 : MD := (yJ9_max_7cf53, cJ9_max_7cf53, 2, (some .int))
def MJ9_max_f86c9 : MD := (yJ9_max_f86c9, cJ9_max_f86c9, 4, (some .long))
def MJ9_min_7cf53 : MD := (yJ9_min_7cf53, cJ9_min_7cf53, 2, (some .int))
def ML_law : MD := (yL_law, cL_law, 4, some .boolean)
theorem gwc_X0 : ∀ w ∈ u_ws RX0 TX0 3, w ∈ GW := by decide +kernel
theorem gwc_X2 : ∀ w ∈ u_ws RX2 TX2 4, w ∈ GW := by decide +kernel
theorem gwc_X3 : ∀ w ∈ u_ws RX3 TX3 2, w ∈ GW := by decide +kernel
theorem gwc_X4 : ∀ w ∈ u_ws RX4 TX4 2, w ∈ GW := by decide +kernel
theorem gwc_X5 : ∀ w ∈ u_ws RX5 TX5 9, w ∈ GW := by decide +kernel
theorem gwc_X6 : ∀ w ∈ u_ws RX6 TX6 9, w ∈ GW := by decide +kernel
theorem gwc_X7 : ∀ w ∈ u_ws RX7 TX7 17, w ∈ GW := by decide +kernel
theorem flX0_11 (M : MD) (h : M.1.cls = RX0) : FL M 11 0 0 := ⟨RX0, TX0, 3, rfl, by decide, gwc_X0, by rw [h]; exact (gt_1 111 rfl rfl)⟩
theorem fpX0_11 (M : MD) (h : M.1.cls = RX0) (hi : M.1.name = "<init>") : FP M 11 0 0 (.array (.object "UpWithSheaf$Contest")) := ⟨RX0, TX0, 3, tyX0, ⟨rfl, by decide, gwc_X0, by rw [h]; exact (gt_1 111 rfl rfl)⟩, tyX0_ok, nmX0, rfl, Or.inr ⟨rfl, hi, by rw [h]; rfl⟩⟩
theorem cX0_17 (M : MD) (h : M.1.cls = RX0) : CI M 17 MX2_init 0 := ⟨⟨(by rw [h]; exact (gt_1 110 rfl rfl)), (gt_1 37 rfl rfl), (gt_1 3 rfl rfl), (show Cond.code MX2_init.1 MX2_init.2.1 MX2_init.2.2.1 MX2_init.2.2.2 ∈ GW from gt_1 38 rfl rfl), rfl, rfl⟩, ⟨by decide, by decide, by decide +kernel⟩, Nat.le_of_ble_eq_true rfl⟩
theorem flX0_18 (M : MD) (h : M.1.cls = RX0) : FL M 18 0 1 := ⟨RX0, TX0, 3, rfl, by decide, gwc_X0, by rw [h]; exact (gt_1 112 rfl rfl)⟩
theorem fpX0_18 (M : MD) (h : M.1.cls = RX0) : FP M 18 0 1 .int := ⟨RX0, TX0, 3, tyX0, ⟨rfl, by decide, gwc_X0, by rw [h]; exact (gt_1 112 rfl rfl)⟩, tyX0_ok, nmX0, rfl, Or.inl rfl⟩
theorem flX0_22 (M : MD) (h : M.1.cls = RX0) : FL M 22 0 2 := ⟨RX0, TX0, 3, rfl, by decide, gwc_X0, by rw [h]; exact (gt_1 114 rfl rfl)⟩
theorem fpX0_22 (M : MD) (h : M.1.cls = RX0) : FP M 22 0 2 .int := ⟨RX0, TX0, 3, tyX0, ⟨rfl, by decide, gwc_X0, by rw [h]; exact (gt_1 114 rfl rfl)⟩, tyX0_ok, nmX0, rfl, Or.inl rfl⟩
theorem cX0_25 (M : MD) (h : M.1.cls = RX0) : CV M 25 MX2_copyFrom 1 := ⟨⟨(by rw [h]; exact (gt_2 52 rfl rfl)), (gt_2 53 rfl rfl), (gt_2 54 rfl rfl), (gt_1 3 rfl rfl), (show Cond.code MX2_copyFrom.1 MX2_copyFrom.2.1 MX2_copyFrom.2.2.1 MX2_copyFrom.2.2.2 ∈ GW from gt_2 55 rfl rfl)⟩, ⟨by decide, by decide, by decide +kernel⟩, Nat.le_of_ble_eq_true rfl⟩
theorem flX1_9 (M : MD) (h : M.1.cls = RX1) : FL M 9 4 3 := ⟨RX5, TX5, 9, rfl, by decide, gwc_X5, by rw [h]; exact (gt_1 54 rfl rfl)⟩
theorem cX1_17 (M : MD) (h : M.1.cls = RX1) : CV M 17 MX5_oddsAt 2 := ⟨⟨(by rw [h]; exact (gt_2 125 rfl rfl)), (gt_2 29 rfl rfl), (gt_2 30 rfl rfl), (gt_1 4 rfl rfl), (show Cond.code MX5_oddsAt.1 MX5_oddsAt.2.1 MX5_oddsAt.2.2.1 MX5_oddsAt.2.2.2 ∈ GW from gt_2 31 rfl rfl)⟩, ⟨by decide, by decide, by decide +kernel⟩, Nat.le_of_ble_eq_true rfl⟩
theorem cX1_21 (M : MD) (h : M.1.cls = RX1) : CS M 21 MX1_unitsLeft 1 := ⟨⟨(by rw [h]; exact (gt_2 143 rfl rfl)), (gt_2 144 rfl rfl), (gt_1 9 rfl rfl), (show Cond.code MX1_unitsLeft.1 MX1_unitsLeft.2.1 MX1_unitsLeft.2.2.1 MX1_unitsLeft.2.2.2 ∈ GW from gt_2 145 rfl rfl)⟩, ⟨by decide, by decide, by decide +kernel⟩, Nat.le_of_ble_eq_true rfl⟩
theorem cX1_27 (M : MD) (h : M.1.cls = RX1) : CS M 27 MX1_byTrying 7 := ⟨⟨(by rw [h]; exact (gt_2 147 rfl rfl)), (gt_2 148 rfl rfl), (gt_1 9 rfl rfl), (show Cond.code MX1_byTrying.1 MX1_byTrying.2.1 MX1_byTrying.2.2.1 MX1_byTrying.2.2.2 ∈ GW from gt_2 149 rfl rfl)⟩, ⟨by decide, by decide, by decide +kernel⟩, Nat.le_of_ble_eq_true rfl⟩
theorem cX1_31 (M : MD) (h : M.1.cls = RX1) : CS M 31 MX1_bySparing 7 := ⟨⟨(by rw [h]; exact (gt_2 151 rfl rfl)), (gt_2 152 rfl rfl), (gt_1 9 rfl rfl), (show Cond.code MX1_bySparing.1 MX1_bySparing.2.1 MX1_bySparing.2.2.1 MX1_bySparing.2.2.2 ∈ GW from gt_2 153 rfl rfl)⟩, ⟨by decide, by decide, by decide +kernel⟩, Nat.le_of_ble_eq_true rfl⟩
theorem cX1_34 (M : MD) (h : M.1.cls = RX1) : CS M 34 MJ9_max_f86c9 2 := ⟨⟨(by rw [h]; exact (gt_2 154 rfl rfl)), (gt_2 155 rfl rfl), (gt_1 8 rfl rfl), (show Cond.code MJ9_max_f86c9.1 MJ9_max_f86c9.2.1 MJ9_max_f86c9.2.2.1 MJ9_max_f86c9.2.2.2 ∈ GW from gt_2 156 rfl rfl)⟩, ⟨by decide, by decide, by decide +kernel⟩, Nat.le_of_ble_eq_true rfl⟩
theorem cX1_40 (M : MD) (h : M.1.cls = RX1) : CS M 40 MX1_greatest 7 := ⟨⟨(by rw [h]; exact (gt_2 150 rfl rfl)), (gt_2 141 rfl rfl), (gt_1 9 rfl rfl), (show Cond.code MX1_greatest.1 MX1_greatest.2.1 MX1_greatest.2.2.1 MX1_greatest.2.2.2 ∈ GW from gt_2 142 rfl rfl)⟩, ⟨by decide, by decide, by decide +kernel⟩, Nat.le_of_ble_eq_true rfl⟩
theorem cX1_43 (M : MD) (h : M.1.cls = RX1) : CV M 43 MX5_isOut 0 := ⟨⟨(by rw [h]; exact (gt_2 171 rfl rfl)), (gt_2 115 rfl rfl), (gt_2 116 rfl rfl), (gt_1 4 rfl rfl), (show Cond.code MX5_isOut.1 MX5_isOut.2.1 MX5_isOut.2.2.1 MX5_isOut.2.2.2 ∈ GW from gt_2 117 rfl rfl)⟩, ⟨by decide, by decide, by decide +kernel⟩, Nat.le_of_ble_eq_true rfl⟩
theorem cX1_47 (M : MD) (h : M.1.cls = RX1) : CS M 47 MX1_noOtherBeats 3 := ⟨⟨(by rw [h]; exact (gt_2 172 rfl rfl)), (gt_2 173 rfl rfl), (gt_1 9 rfl rfl), (show Cond.code MX1_noOtherBeats.1 MX1_noOtherBeats.2.1 MX1_noOtherBeats.2.2.1 MX1_noOtherBeats.2.2.2 ∈ GW from gt_2 174 rfl rfl)⟩, ⟨by decide, by decide, by decide +kernel⟩, Nat.le_of_ble_eq_true rfl⟩
theorem flX1_51 (M : MD) (h : M.1.cls = RX1) : FL M 51 1 2 := ⟨RX2, TX2, 4, rfl, by decide, gwc_X2, by rw [h]; exact (gt_1 89 rfl rfl)⟩
theorem cX1_56 (M : MD) (h : M.1.cls = RX1) : CV M 56 MX5_copyFrom 1 := ⟨⟨(by rw [h]; exact (gt_2 176 rfl rfl)), (gt_2 57 rfl rfl), (gt_2 58 rfl rfl), (gt_1 4 rfl rfl), (show Cond.code MX5_copyFrom.1 MX5_copyFrom.2.1 MX5_copyFrom.2.2.1 MX5_copyFrom.2.2.2 ∈ GW from gt_2 59 rfl rfl)⟩, ⟨by decide, by decide, by decide +kernel⟩, Nat.le_of_ble_eq_true rfl⟩
theorem cX1_60 (M : MD) (h : M.1.cls = RX1) : CV M 60 MX5_attempt 2 := ⟨⟨(by rw [h]; exact (gt_2 177 rfl rfl)), (gt_2 69 rfl rfl), (gt_2 70 rfl rfl), (gt_1 4 rfl rfl), (show Cond.code MX5_attempt.1 MX5_attempt.2.1 MX5_attempt.2.2.1 MX5_attempt.2.2.2 ∈ GW from gt_2 71 rfl rfl)⟩, ⟨by decide, by decide, by decide +kernel⟩, Nat.le_of_ble_eq_true rfl⟩
theorem cX1_64 (M : MD) (h : M.1.cls = RX1) : CV M 64 MX5_startHeight 0 := ⟨⟨(by rw [h]; exact (gt_2 178 rfl rfl)), (gt_2 85 rfl rfl), (gt_2 86 rfl rfl), (gt_1 4 rfl rfl), (show Cond.code MX5_startHeight.1 MX5_startHeight.2.1 MX5_startHeight.2.2.1 MX5_startHeight.2.2.2 ∈ GW from gt_2 87 rfl rfl)⟩, ⟨by decide, by decide, by decide +kernel⟩, Nat.le_of_ble_eq_true rfl⟩
theorem cX1_67 (M : MD) (h : M.1.cls = RX1) : CS M 67 MX1_unbeaten 6 := ⟨⟨(by rw [h]; exact (gt_2 179 rfl rfl)), (gt_2 169 rfl rfl), (gt_1 9 rfl rfl), (show Cond.code MX1_unbeaten.1 MX1_unbeaten.2.1 MX1_unbeaten.2.2.1 MX1_unbeaten.2.2.2 ∈ GW from gt_2 170 rfl rfl)⟩, ⟨by decide, by decide, by decide +kernel⟩, Nat.le_of_ble_eq_true rfl⟩
theorem flX1_71 (M : MD) (h : M.1.cls = RX1) : FL M 71 1 1 := ⟨RX2, TX2, 4, rfl, by decide, gwc_X2, by rw [h]; exact (gt_1 87 rfl rfl)⟩
theorem flX1_74 (M : MD) (h : M.1.cls = RX1) : FL M 74 1 0 := ⟨RX2, TX2, 4, rfl, by decide, gwc_X2, by rw [h]; exact (gt_1 84 rfl rfl)⟩
theorem cX1_78 (M : MD) (h : M.1.cls = RX1) : CV M 78 MX5_isBetterThan 1 := ⟨⟨(by rw [h]; exact (gt_2 175 rfl rfl)), (gt_2 21 rfl rfl), (gt_2 22 rfl rfl), (gt_1 4 rfl rfl), (show Cond.code MX5_isBetterThan.1 MX5_isBetterThan.2.1 MX5_isBetterThan.2.2.1 MX5_isBetterThan.2.2.2 ∈ GW from gt_2 23 rfl rfl)⟩, ⟨by decide, by decide, by decide +kernel⟩, Nat.le_of_ble_eq_true rfl⟩
theorem flX2_11 (M : MD) (h : M.1.cls = RX2) : FL M 11 1 0 := ⟨RX2, TX2, 4, rfl, by decide, gwc_X2, by rw [h]; exact (gt_1 82 rfl rfl)⟩
theorem fpX2_11 (M : MD) (h : M.1.cls = RX2) (hi : M.1.name = "<init>") : FP M 11 1 0 (.array (.object "UpWithSheaf$Thrower")) := ⟨RX2, TX2, 4, tyX2, ⟨rfl, by decide, gwc_X2, by rw [h]; exact (gt_1 82 rfl rfl)⟩, tyX2_ok, nmX2, rfl, Or.inr ⟨rfl, hi, by rw [h]; rfl⟩⟩
theorem cX2_17 (M : MD) (h : M.1.cls = RX2) : CI M 17 MX5_init 0 := ⟨⟨(by rw [h]; exact (gt_1 43 rfl rfl)), (gt_1 44 rfl rfl), (gt_1 4 rfl rfl), (show Cond.code MX5_init.1 MX5_init.2.1 MX5_init.2.2.1 MX5_init.2.2.2 ∈ GW from gt_1 45 rfl rfl), rfl, rfl⟩, ⟨by decide, by decide, by decide +kernel⟩, Nat.le_of_ble_eq_true rfl⟩
theorem flX2_18 (M : MD) (h : M.1.cls = RX2) : FL M 18 1 1 := ⟨RX2, TX2, 4, rfl, by decide, gwc_X2, by rw [h]; exact (gt_1 85 rfl rfl)⟩
theorem fpX2_18 (M : MD) (h : M.1.cls = RX2) : FP M 18 1 1 .int := ⟨RX2, TX2, 4, tyX2, ⟨rfl, by decide, gwc_X2, by rw [h]; exact (gt_1 85 rfl rfl)⟩, tyX2_ok, nmX2, rfl, Or.inl rfl⟩
theorem flX2_22 (M : MD) (h : M.1.cls = RX2) : FL M 22 1 2 := ⟨RX2, TX2, 4, rfl, by decide, gwc_X2, by rw [h]; exact (gt_1 88 rfl rfl)⟩
theorem fpX2_22 (M : MD) (h : M.1.cls = RX2) : FP M 22 1 2 .int := ⟨RX2, TX2, 4, tyX2, ⟨rfl, by decide, gwc_X2, by rw [h]; exact (gt_1 88 rfl rfl)⟩, tyX2_ok, nmX2, rfl, Or.inl rfl⟩
theorem flX2_25 (M : MD) (h : M.1.cls = RX2) : FL M 25 1 3 := ⟨RX2, TX2, 4, rfl, by decide, gwc_X2, by rw [h]; exact (gt_1 91 rfl rfl)⟩
theorem fpX2_25 (M : MD) (h : M.1.cls = RX2) : FP M 25 1 3 .int := ⟨RX2, TX2, 4, tyX2, ⟨rfl, by decide, gwc_X2, by rw [h]; exact (gt_1 91 rfl rfl)⟩, tyX2_ok, nmX2, rfl, Or.inl rfl⟩
theorem cX2_28 (M : MD) (h : M.1.cls = RX2) : CV M 28 MX4_throwersTold 0 := ⟨⟨(by rw [h]; exact (gt_1 199 rfl rfl)), (gt_1 200 rfl rfl), (gt_1 201 rfl rfl), (gt_1 2 rfl rfl), (show Cond.code MX4_throwersTold.1 MX4_throwersTold.2.1 MX4_throwersTold.2.2.1 MX4_throwersTold.2.2.2 ∈ GW from gt_1 202 rfl rfl)⟩, ⟨by decide, by decide, by decide +kernel⟩, Nat.le_of_ble_eq_true rfl⟩
theorem cX2_34 (M : MD) (h : M.1.cls = RX2) : CV M 34 MX4_barTold 0 := ⟨⟨(by rw [h]; exact (gt_1 206 rfl rfl)), (gt_1 207 rfl rfl), (gt_1 208 rfl rfl), (gt_1 2 rfl rfl), (show Cond.code MX4_barTold.1 MX4_barTold.2.1 MX4_barTold.2.2.1 MX4_barTold.2.2.2 ∈ GW from gt_1 209 rfl rfl)⟩, ⟨by decide, by decide, by decide +kernel⟩, Nat.le_of_ble_eq_true rfl⟩
theorem cX2_37 (M : MD) (h : M.1.cls = RX2) : CV M 37 MX4_strengthTold 1 := ⟨⟨(by rw [h]; exact (gt_1 214 rfl rfl)), (gt_1 215 rfl rfl), (gt_1 216 rfl rfl), (gt_1 2 rfl rfl), (show Cond.code MX4_strengthTold.1 MX4_strengthTold.2.1 MX4_strengthTold.2.2.1 MX4_strengthTold.2.2.2 ∈ GW from gt_1 217 rfl rfl)⟩, ⟨by decide, by decide, by decide +kernel⟩, Nat.le_of_ble_eq_true rfl⟩
theorem cX2_41 (M : MD) (h : M.1.cls = RX2) : CV M 41 MX4_windTold 1 := ⟨⟨(by rw [h]; exact (gt_1 218 rfl rfl)), (gt_1 219 rfl rfl), (gt_1 220 rfl rfl), (gt_1 2 rfl rfl), (show Cond.code MX4_windTold.1 MX4_windTold.2.1 MX4_windTold.2.2.1 MX4_windTold.2.2.2 ∈ GW from gt_1 221 rfl rfl)⟩, ⟨by decide, by decide, by decide +kernel⟩, Nat.le_of_ble_eq_true rfl⟩
theorem cX2_44 (M : MD) (h : M.1.cls = RX2) : CV M 44 MX5_start 2 := ⟨⟨(by rw [h]; exact (gt_1 222 rfl rfl)), (gt_1 48 rfl rfl), (gt_1 49 rfl rfl), (gt_1 4 rfl rfl), (show Cond.code MX5_start.1 MX5_start.2.1 MX5_start.2.2.1 MX5_start.2.2.2 ∈ GW from gt_1 50 rfl rfl)⟩, ⟨by decide, by decide, by decide +kernel⟩, Nat.le_of_ble_eq_true rfl⟩
theorem cX2_48 (M : MD) (h : M.1.cls = RX2) : CV M 48 MX2_nextBehind 1 := ⟨⟨(by rw [h]; exact (gt_1 223 rfl rfl)), (gt_1 225 rfl rfl), (gt_s 1 rfl rfl), (gt_1 3 rfl rfl), (show Cond.code MX2_nextBehind.1 MX2_nextBehind.2.1 MX2_nextBehind.2.2.1 MX2_nextBehind.2.2.2 ∈ GW from gt_1 226 rfl rfl)⟩, ⟨by decide, by decide, by decide +kernel⟩, Nat.le_of_ble_eq_true rfl⟩
theorem cX2_51 (M : MD) (h : M.1.cls = RX2) : CV M 51 MX5_copyFrom 1 := ⟨⟨(by rw [h]; exact (gt_2 56 rfl rfl)), (gt_2 57 rfl rfl), (gt_2 58 rfl rfl), (gt_1 4 rfl rfl), (show Cond.code MX5_copyFrom.1 MX5_copyFrom.2.1 MX5_copyFrom.2.2.1 MX5_copyFrom.2.2.2 ∈ GW from gt_2 59 rfl rfl)⟩, ⟨by decide, by decide, by decide +kernel⟩, Nat.le_of_ble_eq_true rfl⟩
theorem cX2_55 (M : MD) (h : M.1.cls = RX2) : CV M 55 MX2_knows 1 := ⟨⟨(by rw [h]; exact (gt_1 227 rfl rfl)), (gt_1 228 rfl rfl), (gt_1 229 rfl rfl), (gt_1 3 rfl rfl), (show Cond.code MX2_knows.1 MX2_knows.2.1 MX2_knows.2.2.1 MX2_knows.2.2.2 ∈ GW from gt_1 230 rfl rfl)⟩, ⟨by decide, by decide, by decide +kernel⟩, Nat.le_of_ble_eq_true rfl⟩
theorem cX2_59 (M : MD) (h : M.1.cls = RX2) : CV M 59 MX5_rest 0 := ⟨⟨(by rw [h]; exact (gt_2 64 rfl rfl)), (gt_2 65 rfl rfl), (gt_2 66 rfl rfl), (gt_1 4 rfl rfl), (show Cond.code MX5_rest.1 MX5_rest.2.1 MX5_rest.2.2.1 MX5_rest.2.2.2 ∈ GW from gt_2 67 rfl rfl)⟩, ⟨by decide, by decide, by decide +kernel⟩, Nat.le_of_ble_eq_true rfl⟩
theorem cX2_62 (M : MD) (h : M.1.cls = RX2) : CV M 62 MX5_attempt 2 := ⟨⟨(by rw [h]; exact (gt_2 68 rfl rfl)), (gt_2 69 rfl rfl), (gt_2 70 rfl rfl), (gt_1 4 rfl rfl), (show Cond.code MX5_attempt.1 MX5_attempt.2.1 MX5_attempt.2.2.1 MX5_attempt.2.2.2 ∈ GW from gt_2 71 rfl rfl)⟩, ⟨by decide, by decide, by decide +kernel⟩, Nat.le_of_ble_eq_true rfl⟩
theorem cX2_66 (M : MD) (h : M.1.cls = RX2) : CV M 66 MX2_notOut 0 := ⟨⟨(by rw [h]; exact (gt_2 72 rfl rfl)), (gt_2 73 rfl rfl), (gt_2 74 rfl rfl), (gt_1 3 rfl rfl), (show Cond.code MX2_notOut.1 MX2_notOut.2.1 MX2_notOut.2.2.1 MX2_notOut.2.2.2 ∈ GW from gt_2 75 rfl rfl)⟩, ⟨by decide, by decide, by decide +kernel⟩, Nat.le_of_ble_eq_true rfl⟩
theorem cX2_69 (M : MD) (h : M.1.cls = RX2) : CV M 69 MX2_raise 0 := ⟨⟨(by rw [h]; exact (gt_2 80 rfl rfl)), (gt_2 82 rfl rfl), (gt_s 3 rfl rfl), (gt_1 3 rfl rfl), (show Cond.code MX2_raise.1 MX2_raise.2.1 MX2_raise.2.2.1 MX2_raise.2.2.2 ∈ GW from gt_2 83 rfl rfl)⟩, ⟨by decide, by decide, by decide +kernel⟩, Nat.le_of_ble_eq_true rfl⟩
theorem cX2_72 (M : MD) (h : M.1.cls = RX2) : CV M 72 MX5_startHeight 0 := ⟨⟨(by rw [h]; exact (gt_2 84 rfl rfl)), (gt_2 85 rfl rfl), (gt_2 86 rfl rfl), (gt_1 4 rfl rfl), (show Cond.code MX5_startHeight.1 MX5_startHeight.2.1 MX5_startHeight.2.2.1 MX5_startHeight.2.2.2 ∈ GW from gt_2 87 rfl rfl)⟩, ⟨by decide, by decide, by decide +kernel⟩, Nat.le_of_ble_eq_true rfl⟩
theorem cX2_75 (M : MD) (h : M.1.cls = RX2) : CV M 75 MX5_mayTry 0 := ⟨⟨(by rw [h]; exact (gt_1 231 rfl rfl)), (gt_1 232 rfl rfl), (gt_1 233 rfl rfl), (gt_1 4 rfl rfl), (show Cond.code MX5_mayTry.1 MX5_mayTry.2.1 MX5_mayTry.2.2.1 MX5_mayTry.2.2.2 ∈ GW from gt_1 234 rfl rfl)⟩, ⟨by decide, by decide, by decide +kernel⟩, Nat.le_of_ble_eq_true rfl⟩
theorem cX2_79 (M : MD) (h : M.1.cls = RX2) : CV M 79 MX5_oddsAt 2 := ⟨⟨(by rw [h]; exact (gt_2 221 rfl rfl)), (gt_2 29 rfl rfl), (gt_2 30 rfl rfl), (gt_1 4 rfl rfl), (show Cond.code MX5_oddsAt.1 MX5_oddsAt.2.1 MX5_oddsAt.2.2.1 MX5_oddsAt.2.2.2 ∈ GW from gt_2 31 rfl rfl)⟩, ⟨by decide, by decide, by decide +kernel⟩, Nat.le_of_ble_eq_true rfl⟩
theorem cX2_83 (M : MD) (h : M.1.cls = RX2) : CV M 83 MX5_isBetterThan 1 := ⟨⟨(by rw [h]; exact (gt_2 20 rfl rfl)), (gt_2 21 rfl rfl), (gt_2 22 rfl rfl), (gt_1 4 rfl rfl), (show Cond.code MX5_isBetterThan.1 MX5_isBetterThan.2.1 MX5_isBetterThan.2.2.1 MX5_isBetterThan.2.2.2 ∈ GW from gt_2 23 rfl rfl)⟩, ⟨by decide, by decide, by decide +kernel⟩, Nat.le_of_ble_eq_true rfl⟩
theorem cX2_87 (M : MD) (h : M.1.cls = RX2) : CV M 87 MX2_betterThan 1 := ⟨⟨(by rw [h]; exact (gt_2 226 rfl rfl)), (gt_2 17 rfl rfl), (gt_2 18 rfl rfl), (gt_1 3 rfl rfl), (show Cond.code MX2_betterThan.1 MX2_betterThan.2.1 MX2_betterThan.2.2.1 MX2_betterThan.2.2.2 ∈ GW from gt_2 19 rfl rfl)⟩, ⟨by decide, by decide, by decide +kernel⟩, Nat.le_of_ble_eq_true rfl⟩
theorem flX2_91 (M : MD) (h : M.1.cls = RX2) : FL M 91 4 7 := ⟨RX5, TX5, 9, rfl, by decide, gwc_X5, by rw [h]; exact (gt_1 61 rfl rfl)⟩
theorem cX2_94 (M : MD) (h : M.1.cls = RX2) : CV M 94 MX2_who 1 := ⟨⟨(by rw [h]; exact (gt_2 76 rfl rfl)), (gt_2 77 rfl rfl), (gt_2 78 rfl rfl), (gt_1 3 rfl rfl), (show Cond.code MX2_who.1 MX2_who.2.1 MX2_who.2.2.1 MX2_who.2.2.2 ∈ GW from gt_2 79 rfl rfl)⟩, ⟨by decide, by decide, by decide +kernel⟩, Nat.le_of_ble_eq_true rfl⟩
theorem flX3_11 (M : MD) (h : M.1.cls = RX3) : FL M 11 2 0 := ⟨RX3, TX3, 2, rfl, by decide, gwc_X3, by rw [h]; exact (gt_1 132 rfl rfl)⟩
theorem fpX3_11 (M : MD) (h : M.1.cls = RX3) (hi : M.1.name = "<init>") : FP M 11 2 0 (.array (.array .int)) := ⟨RX3, TX3, 2, tyX3, ⟨rfl, by decide, gwc_X3, by rw [h]; exact (gt_1 132 rfl rfl)⟩, tyX3_ok, nmX3, rfl, Or.inr ⟨rfl, hi, by rw [h]; rfl⟩⟩
theorem flX3_16 (M : MD) (h : M.1.cls = RX3) : FL M 16 2 1 := ⟨RX3, TX3, 2, rfl, by decide, gwc_X3, by rw [h]; exact (gt_1 133 rfl rfl)⟩
theorem fpX3_16 (M : MD) (h : M.1.cls = RX3) (hi : M.1.name = "<init>") : FP M 16 2 1 (.array (.array .int)) := ⟨RX3, TX3, 2, tyX3, ⟨rfl, by decide, gwc_X3, by rw [h]; exact (gt_1 133 rfl rfl)⟩, tyX3_ok, nmX3, rfl, Or.inr ⟨rfl, hi, by rw [h]; rfl⟩⟩
theorem cX3_19 (M : MD) (h : M.1.cls = RX3) : CS M 19 MX3_empty 1 := ⟨⟨(by rw [h]; exact (gt_2 192 rfl rfl)), (gt_2 193 rfl rfl), (gt_1 6 rfl rfl), (show Cond.code MX3_empty.1 MX3_empty.2.1 MX3_empty.2.2.1 MX3_empty.2.2.2 ∈ GW from gt_2 194 rfl rfl)⟩, ⟨by decide, by decide, by decide +kernel⟩, Nat.le_of_ble_eq_true rfl⟩
theorem cX3_23 (M : MD) (h : M.1.cls = RX3) : CV M 23 MX3_outHere 1 := ⟨⟨(by rw [h]; exact (gt_2 195 rfl rfl)), (gt_2 197 rfl rfl), (gt_s 5 rfl rfl), (gt_1 6 rfl rfl), (show Cond.code MX3_outHere.1 MX3_outHere.2.1 MX3_outHere.2.2.1 MX3_outHere.2.2.2 ∈ GW from gt_2 198 rfl rfl)⟩, ⟨by decide, by decide, by decide +kernel⟩, Nat.le_of_ble_eq_true rfl⟩
theorem cX3_27 (M : MD) (h : M.1.cls = RX3) : CV M 27 MX3_goOn 2 := ⟨⟨(by rw [h]; exact (gt_2 199 rfl rfl)), (gt_2 201 rfl rfl), (gt_s 6 rfl rfl), (gt_1 6 rfl rfl), (show Cond.code MX3_goOn.1 MX3_goOn.2.1 MX3_goOn.2.2.1 MX3_goOn.2.2.2 ∈ GW from gt_2 202 rfl rfl)⟩, ⟨by decide, by decide, by decide +kernel⟩, Nat.le_of_ble_eq_true rfl⟩
theorem flX4_9 (M : MD) (h : M.1.cls = RX4) : FL M 9 3 0 := ⟨RX4, TX4, 2, rfl, by decide, gwc_X4, by rw [h]; exact (gt_1 25 rfl rfl)⟩
theorem fpX4_9 (M : MD) (h : M.1.cls = RX4) (hi : M.1.name = "<init>") : FP M 9 3 0 (.array .int) := ⟨RX4, TX4, 2, tyX4, ⟨rfl, by decide, gwc_X4, by rw [h]; exact (gt_1 25 rfl rfl)⟩, tyX4_ok, nmX4, rfl, Or.inr ⟨rfl, hi, by rw [h]; rfl⟩⟩
theorem flX4_15 (M : MD) (h : M.1.cls = RX4) : FL M 15 3 1 := ⟨RX4, TX4, 2, rfl, by decide, gwc_X4, by rw [h]; exact (gt_1 26 rfl rfl)⟩
theorem fpX4_15 (M : MD) (h : M.1.cls = RX4) : FP M 15 3 1 .int := ⟨RX4, TX4, 2, tyX4, ⟨rfl, by decide, gwc_X4, by rw [h]; exact (gt_1 26 rfl rfl)⟩, tyX4_ok, nmX4, rfl, Or.inl rfl⟩
theorem cX4_19 (M : MD) (h : M.1.cls = RX4) : CS M 19 MX4_canStand 2 := ⟨⟨(by rw [h]; exact (gt_1 188 rfl rfl)), (gt_1 189 rfl rfl), (gt_1 2 rfl rfl), (show Cond.code MX4_canStand.1 MX4_canStand.2.1 MX4_canStand.2.2.1 MX4_canStand.2.2.2 ∈ GW from gt_1 190 rfl rfl)⟩, ⟨by decide, by decide, by decide +kernel⟩, Nat.le_of_ble_eq_true rfl⟩
theorem cX4_23 (M : MD) (h : M.1.cls = RX4) : CS M 23 MJ9_min_7cf53 2 := ⟨⟨(by rw [h]; exact (gt_1 203 rfl rfl)), (gt_1 204 rfl rfl), (gt_1 8 rfl rfl), (show Cond.code MJ9_min_7cf53.1 MJ9_min_7cf53.2.1 MJ9_min_7cf53.2.2.1 MJ9_min_7cf53.2.2.2 ∈ GW from gt_1 205 rfl rfl)⟩, ⟨by decide, by decide, by decide +kernel⟩, Nat.le_of_ble_eq_true rfl⟩
theorem cX4_29 (M : MD) (h : M.1.cls = RX4) : CV M 29 MX4_figureAt 1 := ⟨⟨(by rw [h]; exact (gt_1 210 rfl rfl)), (gt_1 212 rfl rfl), (gt_s 0 rfl rfl), (gt_1 2 rfl rfl), (show Cond.code MX4_figureAt.1 MX4_figureAt.2.1 MX4_figureAt.2.2.1 MX4_figureAt.2.2.2 ∈ GW from gt_1 213 rfl rfl)⟩, ⟨by decide, by decide, by decide +kernel⟩, Nat.le_of_ble_eq_true rfl⟩
theorem cX5_9 (M : MD) (h : M.1.cls = RX5) : CV M 9 MX5_start 2 := ⟨⟨(by rw [h]; exact (gt_1 47 rfl rfl)), (gt_1 48 rfl rfl), (gt_1 49 rfl rfl), (gt_1 4 rfl rfl), (show Cond.code MX5_start.1 MX5_start.2.1 MX5_start.2.2.1 MX5_start.2.2.2 ∈ GW from gt_1 50 rfl rfl)⟩, ⟨by decide, by decide, by decide +kernel⟩, Nat.le_of_ble_eq_true rfl⟩
theorem flX5_15 (M : MD) (h : M.1.cls = RX5) : FL M 15 4 0 := ⟨RX5, TX5, 9, rfl, by decide, gwc_X5, by rw [h]; exact (gt_1 51 rfl rfl)⟩
theorem fpX5_15 (M : MD) (h : M.1.cls = RX5) : FP M 15 4 0 .int := ⟨RX5, TX5, 9, tyX5, ⟨rfl, by decide, gwc_X5, by rw [h]; exact (gt_1 51 rfl rfl)⟩, tyX5_ok, nmX5, rfl, Or.inl rfl⟩
theorem flX5_19 (M : MD) (h : M.1.cls = RX5) : FL M 19 4 1 := ⟨RX5, TX5, 9, rfl, by decide, gwc_X5, by rw [h]; exact (gt_1 52 rfl rfl)⟩
theorem fpX5_19 (M : MD) (h : M.1.cls = RX5) : FP M 19 4 1 .int := ⟨RX5, TX5, 9, tyX5, ⟨rfl, by decide, gwc_X5, by rw [h]; exact (gt_1 52 rfl rfl)⟩, tyX5_ok, nmX5, rfl, Or.inl rfl⟩
theorem flX5_22 (M : MD) (h : M.1.cls = RX5) : FL M 22 4 2 := ⟨RX5, TX5, 9, rfl, by decide, gwc_X5, by rw [h]; exact (gt_1 53 rfl rfl)⟩
theorem fpX5_22 (M : MD) (h : M.1.cls = RX5) : FP M 22 4 2 .int := ⟨RX5, TX5, 9, tyX5, ⟨rfl, by decide, gwc_X5, by rw [h]; exact (gt_1 53 rfl rfl)⟩, tyX5_ok, nmX5, rfl, Or.inl rfl⟩
theorem flX5_25 (M : MD) (h : M.1.cls = RX5) : FL M 25 4 3 := ⟨RX5, TX5, 9, rfl, by decide, gwc_X5, by rw [h]; exact (gt_1 55 rfl rfl)⟩
theorem fpX5_25 (M : MD) (h : M.1.cls = RX5) : FP M 25 4 3 .int := ⟨RX5, TX5, 9, tyX5, ⟨rfl, by decide, gwc_X5, by rw [h]; exact (gt_1 55 rfl rfl)⟩, tyX5_ok, nmX5, rfl, Or.inl rfl⟩
theorem flX5_28 (M : MD) (h : M.1.cls = RX5) : FL M 28 4 4 := ⟨RX5, TX5, 9, rfl, by decide, gwc_X5, by rw [h]; exact (gt_1 57 rfl rfl)⟩
theorem fpX5_28 (M : MD) (h : M.1.cls = RX5) : FP M 28 4 4 .int := ⟨RX5, TX5, 9, tyX5, ⟨rfl, by decide, gwc_X5, by rw [h]; exact (gt_1 57 rfl rfl)⟩, tyX5_ok, nmX5, rfl, Or.inl rfl⟩
theorem flX5_31 (M : MD) (h : M.1.cls = RX5) : FL M 31 4 5 := ⟨RX5, TX5, 9, rfl, by decide, gwc_X5, by rw [h]; exact (gt_1 58 rfl rfl)⟩
theorem fpX5_31 (M : MD) (h : M.1.cls = RX5) : FP M 31 4 5 .int := ⟨RX5, TX5, 9, tyX5, ⟨rfl, by decide, gwc_X5, by rw [h]; exact (gt_1 58 rfl rfl)⟩, tyX5_ok, nmX5, rfl, Or.inl rfl⟩
theorem flX5_34 (M : MD) (h : M.1.cls = RX5) : FL M 34 4 6 := ⟨RX5, TX5, 9, rfl, by decide, gwc_X5, by rw [h]; exact (gt_1 59 rfl rfl)⟩
theorem fpX5_34 (M : MD) (h : M.1.cls = RX5) : FP M 34 4 6 .int := ⟨RX5, TX5, 9, tyX5, ⟨rfl, by decide, gwc_X5, by rw [h]; exact (gt_1 59 rfl rfl)⟩, tyX5_ok, nmX5, rfl, Or.inl rfl⟩
theorem flX5_37 (M : MD) (h : M.1.cls = RX5) : FL M 37 4 7 := ⟨RX5, TX5, 9, rfl, by decide, gwc_X5, by rw [h]; exact (gt_1 60 rfl rfl)⟩
theorem fpX5_37 (M : MD) (h : M.1.cls = RX5) : FP M 37 4 7 .int := ⟨RX5, TX5, 9, tyX5, ⟨rfl, by decide, gwc_X5, by rw [h]; exact (gt_1 60 rfl rfl)⟩, tyX5_ok, nmX5, rfl, Or.inl rfl⟩
theorem flX5_40 (M : MD) (h : M.1.cls = RX5) : FL M 40 4 8 := ⟨RX5, TX5, 9, rfl, by decide, gwc_X5, by rw [h]; exact (gt_1 62 rfl rfl)⟩
theorem fpX5_40 (M : MD) (h : M.1.cls = RX5) : FP M 40 4 8 .int := ⟨RX5, TX5, 9, tyX5, ⟨rfl, by decide, gwc_X5, by rw [h]; exact (gt_1 62 rfl rfl)⟩, tyX5_ok, nmX5, rfl, Or.inl rfl⟩
theorem cX5_43 (M : MD) (h : M.1.cls = RX5) : CS M 43 MJ9_min_7cf53 2 := ⟨⟨(by rw [h]; exact (gt_2 32 rfl rfl)), (gt_1 204 rfl rfl), (gt_1 8 rfl rfl), (show Cond.code MJ9_min_7cf53.1 MJ9_min_7cf53.2.1 MJ9_min_7cf53.2.2.1 MJ9_min_7cf53.2.2.2 ∈ GW from gt_1 205 rfl rfl)⟩, ⟨by decide, by decide, by decide +kernel⟩, Nat.le_of_ble_eq_true rfl⟩
theorem cX5_49 (M : MD) (h : M.1.cls = RX5) : CS M 49 MJ9_max_7cf53 2 := ⟨⟨(by rw [h]; exact (gt_2 33 rfl rfl)), (gt_2 34 rfl rfl), (gt_1 8 rfl rfl), (show Cond.code MJ9_max_7cf53.1 MJ9_max_7cf53.2.1 MJ9_max_7cf53.2.2.1 MJ9_max_7cf53.2.2.2 ∈ GW from gt_2 35 rfl rfl)⟩, ⟨by decide, by decide, by decide +kernel⟩, Nat.le_of_ble_eq_true rfl⟩
theorem cX6_11 (M : MD) (h : M.1.cls = RX6) : CIN M 11 MX4_init 0 := ⟨⟨⟨"UpWithSheaf", by rw [h]; exact List.mem_of_getElem? (i := 0) rfl⟩, (gt_1 22 rfl rfl), (gt_1 2 rfl rfl), (show Cond.code MX4_init.1 MX4_init.2.1 MX4_init.2.2.1 MX4_init.2.2.2 ∈ GW from gt_1 23 rfl rfl), rfl, rfl⟩, ⟨by decide, by decide, by decide +kernel⟩, Nat.le_of_ble_eq_true rfl⟩
theorem flX6_12 (M : MD) (h : M.1.cls = RX6) : FL M 12 5 0 := ⟨RX6, TX6, 9, rfl, by decide, gwc_X6, by rw [h]; exact (gt_1 140 rfl rfl)⟩
theorem fpX6_12 (M : MD) (h : M.1.cls = RX6) (hi : M.1.name = "<init>") : FP M 12 5 0 (.object "UpWithSheaf$Text") := ⟨RX6, TX6, 9, tyX6, ⟨rfl, by decide, gwc_X6, by rw [h]; exact (gt_1 140 rfl rfl)⟩, tyX6_ok, nmX6, rfl, Or.inr ⟨rfl, hi, by rw [h]; rfl⟩⟩
theorem cX6_18 (M : MD) (h : M.1.cls = RX6) : CI M 18 MX2_init 0 := ⟨⟨(by rw [h]; exact (gt_1 36 rfl rfl)), (gt_1 37 rfl rfl), (gt_1 3 rfl rfl), (show Cond.code MX2_init.1 MX2_init.2.1 MX2_init.2.2.1 MX2_init.2.2.2 ∈ GW from gt_1 38 rfl rfl), rfl, rfl⟩, ⟨by decide, by decide, by decide +kernel⟩, Nat.le_of_ble_eq_true rfl⟩
theorem flX6_19 (M : MD) (h : M.1.cls = RX6) : FL M 19 5 1 := ⟨RX6, TX6, 9, rfl, by decide, gwc_X6, by rw [h]; exact (gt_1 141 rfl rfl)⟩
theorem fpX6_19 (M : MD) (h : M.1.cls = RX6) (hi : M.1.name = "<init>") : FP M 19 5 1 (.object "UpWithSheaf$Contest") := ⟨RX6, TX6, 9, tyX6, ⟨rfl, by decide, gwc_X6, by rw [h]; exact (gt_1 141 rfl rfl)⟩, tyX6_ok, nmX6, rfl, Or.inr ⟨rfl, hi, by rw [h]; rfl⟩⟩
theorem flX6_23 (M : MD) (h : M.1.cls = RX6) : FL M 23 5 2 := ⟨RX6, TX6, 9, rfl, by decide, gwc_X6, by rw [h]; exact (gt_1 142 rfl rfl)⟩
theorem fpX6_23 (M : MD) (h : M.1.cls = RX6) (hi : M.1.name = "<init>") : FP M 23 5 2 (.object "UpWithSheaf$Contest") := ⟨RX6, TX6, 9, tyX6, ⟨rfl, by decide, gwc_X6, by rw [h]; exact (gt_1 142 rfl rfl)⟩, tyX6_ok, nmX6, rfl, Or.inr ⟨rfl, hi, by rw [h]; rfl⟩⟩
theorem cX6_28 (M : MD) (h : M.1.cls = RX6) : CI M 28 MX0_init 0 := ⟨⟨(by rw [h]; exact (gt_1 104 rfl rfl)), (gt_1 105 rfl rfl), (gt_1 5 rfl rfl), (show Cond.code MX0_init.1 MX0_init.2.1 MX0_init.2.2.1 MX0_init.2.2.2 ∈ GW from gt_1 106 rfl rfl), rfl, rfl⟩, ⟨by decide, by decide, by decide +kernel⟩, Nat.le_of_ble_eq_true rfl⟩
theorem flX6_29 (M : MD) (h : M.1.cls = RX6) : FL M 29 5 3 := ⟨RX6, TX6, 9, rfl, by decide, gwc_X6, by rw [h]; exact (gt_1 143 rfl rfl)⟩
theorem fpX6_29 (M : MD) (h : M.1.cls = RX6) (hi : M.1.name = "<init>") : FP M 29 5 3 (.object "UpWithSheaf$Acts") := ⟨RX6, TX6, 9, tyX6, ⟨rfl, by decide, gwc_X6, by rw [h]; exact (gt_1 143 rfl rfl)⟩, tyX6_ok, nmX6, rfl, Or.inr ⟨rfl, hi, by rw [h]; rfl⟩⟩
theorem flX6_33 (M : MD) (h : M.1.cls = RX6) : FL M 33 5 4 := ⟨RX6, TX6, 9, rfl, by decide, gwc_X6, by rw [h]; exact (gt_1 144 rfl rfl)⟩
theorem fpX6_33 (M : MD) (h : M.1.cls = RX6) (hi : M.1.name = "<init>") : FP M 33 5 4 (.array (.object "UpWithSheaf$Contest")) := ⟨RX6, TX6, 9, tyX6, ⟨rfl, by decide, gwc_X6, by rw [h]; exact (gt_1 144 rfl rfl)⟩, tyX6_ok, nmX6, rfl, Or.inr ⟨rfl, hi, by rw [h]; rfl⟩⟩
theorem flX6_37 (M : MD) (h : M.1.cls = RX6) : FL M 37 5 5 := ⟨RX6, TX6, 9, rfl, by decide, gwc_X6, by rw [h]; exact (gt_1 145 rfl rfl)⟩
theorem fpX6_37 (M : MD) (h : M.1.cls = RX6) (hi : M.1.name = "<init>") : FP M 37 5 5 (.array .boolean) := ⟨RX6, TX6, 9, tyX6, ⟨rfl, by decide, gwc_X6, by rw [h]; exact (gt_1 145 rfl rfl)⟩, tyX6_ok, nmX6, rfl, Or.inr ⟨rfl, hi, by rw [h]; rfl⟩⟩
theorem flX6_43 (M : MD) (h : M.1.cls = RX6) : FL M 43 5 6 := ⟨RX6, TX6, 9, rfl, by decide, gwc_X6, by rw [h]; exact (gt_1 146 rfl rfl)⟩
theorem fpX6_43 (M : MD) (h : M.1.cls = RX6) (hi : M.1.name = "<init>") : FP M 43 5 6 (.array (.object "UpWithSheaf$Thrower")) := ⟨RX6, TX6, 9, tyX6, ⟨rfl, by decide, gwc_X6, by rw [h]; exact (gt_1 146 rfl rfl)⟩, tyX6_ok, nmX6, rfl, Or.inr ⟨rfl, hi, by rw [h]; rfl⟩⟩
theorem cX6_47 (M : MD) (h : M.1.cls = RX6) : CI M 47 MX5_init 0 := ⟨⟨(by rw [h]; exact (gt_1 123 rfl rfl)), (gt_1 44 rfl rfl), (gt_1 4 rfl rfl), (show Cond.code MX5_init.1 MX5_init.2.1 MX5_init.2.2.1 MX5_init.2.2.2 ∈ GW from gt_1 45 rfl rfl), rfl, rfl⟩, ⟨by decide, by decide, by decide +kernel⟩, Nat.le_of_ble_eq_true rfl⟩
theorem cX6_50 (M : MD) (h : M.1.cls = RX6) : CIN M 50 MX3_init 0 := ⟨⟨⟨"UpWithSheaf", by rw [h]; exact List.mem_of_getElem? (i := 1) rfl⟩, (gt_1 127 rfl rfl), (gt_1 6 rfl rfl), (show Cond.code MX3_init.1 MX3_init.2.1 MX3_init.2.2.1 MX3_init.2.2.2 ∈ GW from gt_1 128 rfl rfl), rfl, rfl⟩, ⟨by decide, by decide, by decide +kernel⟩, Nat.le_of_ble_eq_true rfl⟩
theorem flX6_51 (M : MD) (h : M.1.cls = RX6) : FL M 51 5 7 := ⟨RX6, TX6, 9, rfl, by decide, gwc_X6, by rw [h]; exact (gt_1 147 rfl rfl)⟩
theorem fpX6_51 (M : MD) (h : M.1.cls = RX6) (hi : M.1.name = "<init>") : FP M 51 5 7 (.object "UpWithSheaf$Sheets") := ⟨RX6, TX6, 9, tyX6, ⟨rfl, by decide, gwc_X6, by rw [h]; exact (gt_1 147 rfl rfl)⟩, tyX6_ok, nmX6, rfl, Or.inr ⟨rfl, hi, by rw [h]; rfl⟩⟩
theorem flX6_55 (M : MD) (h : M.1.cls = RX6) : FL M 55 5 8 := ⟨RX6, TX6, 9, rfl, by decide, gwc_X6, by rw [h]; exact (gt_1 148 rfl rfl)⟩
theorem fpX6_55 (M : MD) (h : M.1.cls = RX6) : FP M 55 5 8 .long := ⟨RX6, TX6, 9, tyX6, ⟨rfl, by decide, gwc_X6, by rw [h]; exact (gt_1 148 rfl rfl)⟩, tyX6_ok, nmX6, rfl, Or.inl rfl⟩
theorem flX6_59 (M : MD) (h : M.1.cls = RX6) : FL M 59 3 1 := ⟨RX4, TX4, 2, rfl, by decide, gwc_X4, by rw [h]; exact (gt_1 27 rfl rfl)⟩
theorem cX6_63 (M : MD) (h : M.1.cls = RX6) : CV M 63 MX4_append 2 := ⟨⟨(by rw [h]; exact (gt_1 172 rfl rfl)), (gt_1 173 rfl rfl), (gt_1 174 rfl rfl), (gt_1 2 rfl rfl), (show Cond.code MX4_append.1 MX4_append.2.1 MX4_append.2.2.1 MX4_append.2.2.2 ∈ GW from gt_1 175 rfl rfl)⟩, ⟨by decide, by decide, by decide +kernel⟩, Nat.le_of_ble_eq_true rfl⟩
theorem fpX6_59 (M : MD) (h : M.1.cls = RX6) : FP M 59 3 1 .int := ⟨RX4, TX4, 2, tyX4, ⟨rfl, by decide, gwc_X4, by rw [h]; exact (gt_1 27 rfl rfl)⟩, tyX4_ok, nmX4, rfl, Or.inl rfl⟩
theorem cX6_67 (M : MD) (h : M.1.cls = RX6) : CV M 67 MX4_firstFault 0 := ⟨⟨(by rw [h]; exact (gt_1 184 rfl rfl)), (gt_1 185 rfl rfl), (gt_1 186 rfl rfl), (gt_1 2 rfl rfl), (show Cond.code MX4_firstFault.1 MX4_firstFault.2.1 MX4_firstFault.2.2.1 MX4_firstFault.2.2.2 ∈ GW from gt_1 187 rfl rfl)⟩, ⟨by decide, by decide, by decide +kernel⟩, Nat.le_of_ble_eq_true rfl⟩
theorem cX6_71 (M : MD) (h : M.1.cls = RX6) : CV M 71 MX2_startFrom 1 := ⟨⟨(by rw [h]; exact (gt_1 195 rfl rfl)), (gt_1 196 rfl rfl), (gt_1 197 rfl rfl), (gt_1 3 rfl rfl), (show Cond.code MX2_startFrom.1 MX2_startFrom.2.1 MX2_startFrom.2.2.1 MX2_startFrom.2.2.2 ∈ GW from gt_1 198 rfl rfl)⟩, ⟨by decide, by decide, by decide +kernel⟩, Nat.le_of_ble_eq_true rfl⟩
theorem cX6_75 (M : MD) (h : M.1.cls = RX6) : CV M 75 MX0_forget 0 := ⟨⟨(by rw [h]; exact (gt_1 235 rfl rfl)), (gt_1 236 rfl rfl), (gt_1 237 rfl rfl), (gt_1 5 rfl rfl), (show Cond.code MX0_forget.1 MX0_forget.2.1 MX0_forget.2.2.1 MX0_forget.2.2.2 ∈ GW from gt_1 238 rfl rfl)⟩, ⟨by decide, by decide, by decide +kernel⟩, Nat.le_of_ble_eq_true rfl⟩
theorem flX6_78 (M : MD) (h : M.1.cls = RX6) : FL M 78 1 1 := ⟨RX2, TX2, 4, rfl, by decide, gwc_X2, by rw [h]; exact (gt_1 86 rfl rfl)⟩
theorem cX6_81 (M : MD) (h : M.1.cls = RX6) : CV M 81 MX2_knows 1 := ⟨⟨(by rw [h]; exact (gt_2 3 rfl rfl)), (gt_1 228 rfl rfl), (gt_1 229 rfl rfl), (gt_1 3 rfl rfl), (show Cond.code MX2_knows.1 MX2_knows.2.1 MX2_knows.2.2.1 MX2_knows.2.2.2 ∈ GW from gt_1 230 rfl rfl)⟩, ⟨by decide, by decide, by decide +kernel⟩, Nat.le_of_ble_eq_true rfl⟩
theorem flX6_85 (M : MD) (h : M.1.cls = RX6) : FL M 85 1 0 := ⟨RX2, TX2, 4, rfl, by decide, gwc_X2, by rw [h]; exact (gt_1 83 rfl rfl)⟩
theorem cX6_88 (M : MD) (h : M.1.cls = RX6) : CV M 88 MX5_told 1 := ⟨⟨(by rw [h]; exact (gt_2 4 rfl rfl)), (gt_2 5 rfl rfl), (gt_2 6 rfl rfl), (gt_1 4 rfl rfl), (show Cond.code MX5_told.1 MX5_told.2.1 MX5_told.2.2.1 MX5_told.2.2.2 ∈ GW from gt_2 7 rfl rfl)⟩, ⟨by decide, by decide, by decide +kernel⟩, Nat.le_of_ble_eq_true rfl⟩
theorem flX6_92 (M : MD) (h : M.1.cls = RX6) : FL M 92 1 3 := ⟨RX2, TX2, 4, rfl, by decide, gwc_X2, by rw [h]; exact (gt_1 92 rfl rfl)⟩
theorem cX6_95 (M : MD) (h : M.1.cls = RX6) : CV M 95 MX2_betterThan 1 := ⟨⟨(by rw [h]; exact (gt_2 16 rfl rfl)), (gt_2 17 rfl rfl), (gt_2 18 rfl rfl), (gt_1 3 rfl rfl), (show Cond.code MX2_betterThan.1 MX2_betterThan.2.1 MX2_betterThan.2.2.1 MX2_betterThan.2.2.2 ∈ GW from gt_2 19 rfl rfl)⟩, ⟨by decide, by decide, by decide +kernel⟩, Nat.le_of_ble_eq_true rfl⟩
theorem cX6_99 (M : MD) (h : M.1.cls = RX6) : CV M 99 MX5_oddsAt 2 := ⟨⟨(by rw [h]; exact (gt_2 28 rfl rfl)), (gt_2 29 rfl rfl), (gt_2 30 rfl rfl), (gt_1 4 rfl rfl), (show Cond.code MX5_oddsAt.1 MX5_oddsAt.2.1 MX5_oddsAt.2.2.1 MX5_oddsAt.2.2.2 ∈ GW from gt_2 31 rfl rfl)⟩, ⟨by decide, by decide, by decide +kernel⟩, Nat.le_of_ble_eq_true rfl⟩
theorem cX6_103 (M : MD) (h : M.1.cls = RX6) : CV M 103 MX6_act 1 := ⟨⟨(by rw [h]; exact (gt_2 40 rfl rfl)), (gt_2 42 rfl rfl), (gt_s 2 rfl rfl), (gt_1 1 rfl rfl), (show Cond.code MX6_act.1 MX6_act.2.1 MX6_act.2.2.1 MX6_act.2.2.2 ∈ GW from gt_2 43 rfl rfl)⟩, ⟨by decide, by decide, by decide +kernel⟩, Nat.le_of_ble_eq_true rfl⟩
theorem cX6_106 (M : MD) (h : M.1.cls = RX6) : CV M 106 MX2_isEnded 0 := ⟨⟨(by rw [h]; exact (gt_2 44 rfl rfl)), (gt_2 45 rfl rfl), (gt_2 46 rfl rfl), (gt_1 3 rfl rfl), (show Cond.code MX2_isEnded.1 MX2_isEnded.2.1 MX2_isEnded.2.2.1 MX2_isEnded.2.2.2 ∈ GW from gt_2 47 rfl rfl)⟩, ⟨by decide, by decide, by decide +kernel⟩, Nat.le_of_ble_eq_true rfl⟩
theorem cX6_110 (M : MD) (h : M.1.cls = RX6) : CV M 110 MX0_remember 1 := ⟨⟨(by rw [h]; exact (gt_2 48 rfl rfl)), (gt_2 49 rfl rfl), (gt_2 50 rfl rfl), (gt_1 5 rfl rfl), (show Cond.code MX0_remember.1 MX0_remember.2.1 MX0_remember.2.2.1 MX0_remember.2.2.2 ∈ GW from gt_2 51 rfl rfl)⟩, ⟨by decide, by decide, by decide +kernel⟩, Nat.le_of_ble_eq_true rfl⟩
theorem cX6_114 (M : MD) (h : M.1.cls = RX6) : CV M 114 MX2_act 1 := ⟨⟨(by rw [h]; exact (gt_2 60 rfl rfl)), (gt_2 61 rfl rfl), (gt_2 62 rfl rfl), (gt_1 3 rfl rfl), (show Cond.code MX2_act.1 MX2_act.2.1 MX2_act.2.2.1 MX2_act.2.2.2 ∈ GW from gt_2 63 rfl rfl)⟩, ⟨by decide, by decide, by decide +kernel⟩, Nat.le_of_ble_eq_true rfl⟩
theorem flX6_117 (M : MD) (h : M.1.cls = RX6) : FL M 117 0 1 := ⟨RX0, TX0, 3, rfl, by decide, gwc_X0, by rw [h]; exact (gt_1 113 rfl rfl)⟩
theorem cX6_118 (M : MD) (h : M.1.cls = RX6) : CV M 118 MX0_takeBack 1 := ⟨⟨(by rw [h]; exact (gt_2 96 rfl rfl)), (gt_2 97 rfl rfl), (gt_2 98 rfl rfl), (gt_1 5 rfl rfl), (show Cond.code MX0_takeBack.1 MX0_takeBack.2.1 MX0_takeBack.2.2.1 MX0_takeBack.2.2.2 ∈ GW from gt_2 99 rfl rfl)⟩, ⟨by decide, by decide, by decide +kernel⟩, Nat.le_of_ble_eq_true rfl⟩
theorem cX6_125 (M : MD) (h : M.1.cls = RX6) : CV M 125 MX2_copyFrom 1 := ⟨⟨(by rw [h]; exact (gt_2 106 rfl rfl)), (gt_2 53 rfl rfl), (gt_2 54 rfl rfl), (gt_1 3 rfl rfl), (show Cond.code MX2_copyFrom.1 MX2_copyFrom.2.1 MX2_copyFrom.2.2.1 MX2_copyFrom.2.2.2 ∈ GW from gt_2 55 rfl rfl)⟩, ⟨by decide, by decide, by decide +kernel⟩, Nat.le_of_ble_eq_true rfl⟩
theorem cX6_128 (M : MD) (h : M.1.cls = RX6) : CS M 128 MX6_figureOf 2 := ⟨⟨(by rw [h]; exact (gt_2 107 rfl rfl)), (gt_2 108 rfl rfl), (gt_1 1 rfl rfl), (show Cond.code MX6_figureOf.1 MX6_figureOf.2.1 MX6_figureOf.2.2.1 MX6_figureOf.2.2.2 ∈ GW from gt_2 109 rfl rfl)⟩, ⟨by decide, by decide, by decide +kernel⟩, Nat.le_of_ble_eq_true rfl⟩
theorem cX6_131 (M : MD) (h : M.1.cls = RX6) : CV M 131 MX5_isOut 0 := ⟨⟨(by rw [h]; exact (gt_2 114 rfl rfl)), (gt_2 115 rfl rfl), (gt_2 116 rfl rfl), (gt_1 4 rfl rfl), (show Cond.code MX5_isOut.1 MX5_isOut.2.1 MX5_isOut.2.2.1 MX5_isOut.2.2.2 ∈ GW from gt_2 117 rfl rfl)⟩, ⟨by decide, by decide, by decide +kernel⟩, Nat.le_of_ble_eq_true rfl⟩
theorem cX6_134 (M : MD) (h : M.1.cls = RX6) : CS M 134 MX1_wholeOf 1 := ⟨⟨(by rw [h]; exact (gt_2 118 rfl rfl)), (gt_2 119 rfl rfl), (gt_1 9 rfl rfl), (show Cond.code MX1_wholeOf.1 MX1_wholeOf.2.1 MX1_wholeOf.2.2.1 MX1_wholeOf.2.2.2 ∈ GW from gt_2 120 rfl rfl)⟩, ⟨by decide, by decide, by decide +kernel⟩, Nat.le_of_ble_eq_true rfl⟩
theorem flX6_140 (M : MD) (h : M.1.cls = RX6) : FL M 140 1 2 := ⟨RX2, TX2, 4, rfl, by decide, gwc_X2, by rw [h]; exact (gt_1 90 rfl rfl)⟩
theorem cX6_143 (M : MD) (h : M.1.cls = RX6) : CS M 143 MX1_failing 2 := ⟨⟨(by rw [h]; exact (gt_2 122 rfl rfl)), (gt_2 123 rfl rfl), (gt_1 9 rfl rfl), (show Cond.code MX1_failing.1 MX1_failing.2.1 MX1_failing.2.2.1 MX1_failing.2.2.2 ∈ GW from gt_2 124 rfl rfl)⟩, ⟨by decide, by decide, by decide +kernel⟩, Nat.le_of_ble_eq_true rfl⟩
theorem cX6_147 (M : MD) (h : M.1.cls = RX6) : CS M 147 MX6_leastTerms 3 := ⟨⟨(by rw [h]; exact (gt_2 126 rfl rfl)), (gt_2 127 rfl rfl), (gt_1 1 rfl rfl), (show Cond.code MX6_leastTerms.1 MX6_leastTerms.2.1 MX6_leastTerms.2.2.1 MX6_leastTerms.2.2.2 ∈ GW from gt_2 128 rfl rfl)⟩, ⟨by decide, by decide, by decide +kernel⟩, Nat.le_of_ble_eq_true rfl⟩
theorem cX6_151 (M : MD) (h : M.1.cls = RX6) : CV M 151 MX6_refusalAhead 2 := ⟨⟨(by rw [h]; exact (gt_2 136 rfl rfl)), (gt_2 138 rfl rfl), (gt_s 4 rfl rfl), (gt_1 1 rfl rfl), (show Cond.code MX6_refusalAhead.1 MX6_refusalAhead.2.1 MX6_refusalAhead.2.2.1 MX6_refusalAhead.2.2.2 ∈ GW from gt_2 139 rfl rfl)⟩, ⟨by decide, by decide, by decide +kernel⟩, Nat.le_of_ble_eq_true rfl⟩
theorem flX6_154 (M : MD) (h : M.1.cls = RX6) : FL M 154 4 3 := ⟨RX5, TX5, 9, rfl, by decide, gwc_X5, by rw [h]; exact (gt_1 56 rfl rfl)⟩
theorem cX6_157 (M : MD) (h : M.1.cls = RX6) : CSN M 157 MX1_greatest 7 := ⟨⟨⟨"UpWithSheaf", by rw [h]; exact List.mem_of_getElem? (i := 2) rfl⟩, (gt_2 141 rfl rfl), (gt_1 9 rfl rfl), (show Cond.code MX1_greatest.1 MX1_greatest.2.1 MX1_greatest.2.2.1 MX1_greatest.2.2.2 ∈ GW from gt_2 142 rfl rfl)⟩, ⟨by decide, by decide, by decide +kernel⟩, Nat.le_of_ble_eq_true rfl⟩
theorem cX6_161 (M : MD) (h : M.1.cls = RX6) : CSN M 161 MX1_byTrying 7 := ⟨⟨⟨"UpWithSheaf", by rw [h]; exact List.mem_of_getElem? (i := 3) rfl⟩, (gt_2 148 rfl rfl), (gt_1 9 rfl rfl), (show Cond.code MX1_byTrying.1 MX1_byTrying.2.1 MX1_byTrying.2.2.1 MX1_byTrying.2.2.2 ∈ GW from gt_2 149 rfl rfl)⟩, ⟨by decide, by decide, by decide +kernel⟩, Nat.le_of_ble_eq_true rfl⟩
theorem cX6_164 (M : MD) (h : M.1.cls = RX6) : CSN M 164 MX1_bySparing 7 := ⟨⟨⟨"UpWithSheaf", by rw [h]; exact List.mem_of_getElem? (i := 4) rfl⟩, (gt_2 152 rfl rfl), (gt_1 9 rfl rfl), (show Cond.code MX1_bySparing.1 MX1_bySparing.2.1 MX1_bySparing.2.2.1 MX1_bySparing.2.2.2 ∈ GW from gt_2 153 rfl rfl)⟩, ⟨by decide, by decide, by decide +kernel⟩, Nat.le_of_ble_eq_true rfl⟩
theorem cX6_167 (M : MD) (h : M.1.cls = RX6) : CV M 167 MX5_copyFrom 1 := ⟨⟨(by rw [h]; exact (gt_2 167 rfl rfl)), (gt_2 57 rfl rfl), (gt_2 58 rfl rfl), (gt_1 4 rfl rfl), (show Cond.code MX5_copyFrom.1 MX5_copyFrom.2.1 MX5_copyFrom.2.2.1 MX5_copyFrom.2.2.2 ∈ GW from gt_2 59 rfl rfl)⟩, ⟨by decide, by decide, by decide +kernel⟩, Nat.le_of_ble_eq_true rfl⟩
theorem cX6_170 (M : MD) (h : M.1.cls = RX6) : CSN M 170 MX1_unbeaten 6 := ⟨⟨⟨"UpWithSheaf", by rw [h]; exact List.mem_of_getElem? (i := 5) rfl⟩, (gt_2 169 rfl rfl), (gt_1 9 rfl rfl), (show Cond.code MX1_unbeaten.1 MX1_unbeaten.2.1 MX1_unbeaten.2.2.1 MX1_unbeaten.2.2.2 ∈ GW from gt_2 170 rfl rfl)⟩, ⟨by decide, by decide, by decide +kernel⟩, Nat.le_of_ble_eq_true rfl⟩
theorem cX6_174 (M : MD) (h : M.1.cls = RX6) : CS M 174 MX6_commonDivisor 2 := ⟨⟨(by rw [h]; exact (gt_2 129 rfl rfl)), (gt_2 130 rfl rfl), (gt_1 1 rfl rfl), (show Cond.code MX6_commonDivisor.1 MX6_commonDivisor.2.1 MX6_commonDivisor.2.2.1 MX6_commonDivisor.2.2.2 ∈ GW from gt_2 131 rfl rfl)⟩, ⟨by decide, by decide, by decide +kernel⟩, Nat.le_of_ble_eq_true rfl⟩
theorem cX6_178 (M : MD) (h : M.1.cls = RX6) : CV M 178 MX3_such 3 := ⟨⟨(by rw [h]; exact (gt_2 188 rfl rfl)), (gt_2 189 rfl rfl), (gt_2 190 rfl rfl), (gt_1 6 rfl rfl), (show Cond.code MX3_such.1 MX3_such.2.1 MX3_such.2.2.1 MX3_such.2.2.2 ∈ GW from gt_2 191 rfl rfl)⟩, ⟨by decide, by decide, by decide +kernel⟩, Nat.le_of_ble_eq_true rfl⟩
theorem cX6_188 (M : MD) (h : M.1.cls = RX6) : CV M 188 MX2_oddsOfTurn 0 := ⟨⟨(by rw [h]; exact (gt_2 217 rfl rfl)), (gt_2 218 rfl rfl), (gt_2 219 rfl rfl), (gt_1 3 rfl rfl), (show Cond.code MX2_oddsOfTurn.1 MX2_oddsOfTurn.2.1 MX2_oddsOfTurn.2.2.1 MX2_oddsOfTurn.2.2.2 ∈ GW from gt_2 220 rfl rfl)⟩, ⟨by decide, by decide, by decide +kernel⟩, Nat.le_of_ble_eq_true rfl⟩
theorem cX6_191 (M : MD) (h : M.1.cls = RX6) : CV M 191 MX2_leaders 0 := ⟨⟨(by rw [h]; exact (gt_2 222 rfl rfl)), (gt_2 223 rfl rfl), (gt_2 224 rfl rfl), (gt_1 3 rfl rfl), (show Cond.code MX2_leaders.1 MX2_leaders.2.1 MX2_leaders.2.2.1 MX2_leaders.2.2.2 ∈ GW from gt_2 225 rfl rfl)⟩, ⟨by decide, by decide, by decide +kernel⟩, Nat.le_of_ble_eq_true rfl⟩
theorem cX6_194 (M : MD) (h : M.1.cls = RX6) : CV M 194 MX2_notOut 0 := ⟨⟨(by rw [h]; exact (gt_2 239 rfl rfl)), (gt_2 73 rfl rfl), (gt_2 74 rfl rfl), (gt_1 3 rfl rfl), (show Cond.code MX2_notOut.1 MX2_notOut.2.1 MX2_notOut.2.2.1 MX2_notOut.2.2.2 ∈ GW from gt_2 75 rfl rfl)⟩, ⟨by decide, by decide, by decide +kernel⟩, Nat.le_of_ble_eq_true rfl⟩
theorem cX6_197 (M : MD) (h : M.1.cls = RX6) : CV M 197 MX2_who 1 := ⟨⟨(by rw [h]; exact (gt_3 0 rfl rfl)), (gt_2 77 rfl rfl), (gt_2 78 rfl rfl), (gt_1 3 rfl rfl), (show Cond.code MX2_who.1 MX2_who.2.1 MX2_who.2.2.1 MX2_who.2.2.2 ∈ GW from gt_2 79 rfl rfl)⟩, ⟨by decide, by decide, by decide +kernel⟩, Nat.le_of_ble_eq_true rfl⟩
theorem flX7_7 (M : MD) (h : M.1.cls = RX7) : FL M 7 6 1 := ⟨RX7, TX7, 17, rfl, by decide, gwc_X7, by rw [h]; exact (gt_3 8 rfl rfl)⟩
theorem fpX7_7 (M : MD) (h : M.1.cls = RX7) (hi : M.1.name = "<init>") : FP M 7 6 1 (.array .int) := ⟨RX7, TX7, 17, tyX7, ⟨rfl, by decide, gwc_X7, by rw [h]; exact (gt_3 8 rfl rfl)⟩, tyX7_ok, nmX7, rfl, Or.inr ⟨rfl, hi, by rw [h]; rfl⟩⟩
theorem flX7_13 (M : MD) (h : M.1.cls = RX7) : FL M 13 6 2 := ⟨RX7, TX7, 17, rfl, by decide, gwc_X7, by rw [h]; exact (gt_3 9 rfl rfl)⟩
theorem fpX7_13 (M : MD) (h : M.1.cls = RX7) (hi : M.1.name = "<init>") : FP M 13 6 2 (.array .int) := ⟨RX7, TX7, 17, tyX7, ⟨rfl, by decide, gwc_X7, by rw [h]; exact (gt_3 9 rfl rfl)⟩, tyX7_ok, nmX7, rfl, Or.inr ⟨rfl, hi, by rw [h]; rfl⟩⟩
theorem flX7_16 (M : MD) (h : M.1.cls = RX7) : FL M 16 6 3 := ⟨RX7, TX7, 17, rfl, by decide, gwc_X7, by rw [h]; exact (gt_3 10 rfl rfl)⟩
theorem fpX7_16 (M : MD) (h : M.1.cls = RX7) (hi : M.1.name = "<init>") : FP M 16 6 3 (.array .int) := ⟨RX7, TX7, 17, tyX7, ⟨rfl, by decide, gwc_X7, by rw [h]; exact (gt_3 10 rfl rfl)⟩, tyX7_ok, nmX7, rfl, Or.inr ⟨rfl, hi, by rw [h]; rfl⟩⟩
theorem flX7_19 (M : MD) (h : M.1.cls = RX7) : FL M 19 6 5 := ⟨RX7, TX7, 17, rfl, by decide, gwc_X7, by rw [h]; exact (gt_3 12 rfl rfl)⟩
theorem fpX7_19 (M : MD) (h : M.1.cls = RX7) (hi : M.1.name = "<init>") : FP M 19 6 5 (.array .int) := ⟨RX7, TX7, 17, tyX7, ⟨rfl, by decide, gwc_X7, by rw [h]; exact (gt_3 12 rfl rfl)⟩, tyX7_ok, nmX7, rfl, Or.inr ⟨rfl, hi, by rw [h]; rfl⟩⟩
theorem flX7_22 (M : MD) (h : M.1.cls = RX7) : FL M 22 6 8 := ⟨RX7, TX7, 17, rfl, by decide, gwc_X7, by rw [h]; exact (gt_3 15 rfl rfl)⟩
theorem fpX7_22 (M : MD) (h : M.1.cls = RX7) (hi : M.1.name = "<init>") : FP M 22 6 8 (.array .int) := ⟨RX7, TX7, 17, tyX7, ⟨rfl, by decide, gwc_X7, by rw [h]; exact (gt_3 15 rfl rfl)⟩, tyX7_ok, nmX7, rfl, Or.inr ⟨rfl, hi, by rw [h]; rfl⟩⟩
theorem flX7_25 (M : MD) (h : M.1.cls = RX7) : FL M 25 6 9 := ⟨RX7, TX7, 17, rfl, by decide, gwc_X7, by rw [h]; exact (gt_3 16 rfl rfl)⟩
theorem fpX7_25 (M : MD) (h : M.1.cls = RX7) (hi : M.1.name = "<init>") : FP M 25 6 9 (.array .long) := ⟨RX7, TX7, 17, tyX7, ⟨rfl, by decide, gwc_X7, by rw [h]; exact (gt_3 16 rfl rfl)⟩, tyX7_ok, nmX7, rfl, Or.inr ⟨rfl, hi, by rw [h]; rfl⟩⟩
theorem flX7_29 (M : MD) (h : M.1.cls = RX7) : FL M 29 6 12 := ⟨RX7, TX7, 17, rfl, by decide, gwc_X7, by rw [h]; exact (gt_3 19 rfl rfl)⟩
theorem fpX7_29 (M : MD) (h : M.1.cls = RX7) (hi : M.1.name = "<init>") : FP M 29 6 12 (.array .int) := ⟨RX7, TX7, 17, tyX7, ⟨rfl, by decide, gwc_X7, by rw [h]; exact (gt_3 19 rfl rfl)⟩, tyX7_ok, nmX7, rfl, Or.inr ⟨rfl, hi, by rw [h]; rfl⟩⟩
theorem flX7_32 (M : MD) (h : M.1.cls = RX7) : FL M 32 6 13 := ⟨RX7, TX7, 17, rfl, by decide, gwc_X7, by rw [h]; exact (gt_3 20 rfl rfl)⟩
theorem fpX7_32 (M : MD) (h : M.1.cls = RX7) (hi : M.1.name = "<init>") : FP M 32 6 13 (.array .int) := ⟨RX7, TX7, 17, tyX7, ⟨rfl, by decide, gwc_X7, by rw [h]; exact (gt_3 20 rfl rfl)⟩, tyX7_ok, nmX7, rfl, Or.inr ⟨rfl, hi, by rw [h]; rfl⟩⟩
theorem flX7_35 (M : MD) (h : M.1.cls = RX7) : FL M 35 6 15 := ⟨RX7, TX7, 17, rfl, by decide, gwc_X7, by rw [h]; exact (gt_3 22 rfl rfl)⟩
theorem fpX7_35 (M : MD) (h : M.1.cls = RX7) (hi : M.1.name = "<init>") : FP M 35 6 15 (.array .boolean) := ⟨RX7, TX7, 17, tyX7, ⟨rfl, by decide, gwc_X7, by rw [h]; exact (gt_3 22 rfl rfl)⟩, tyX7_ok, nmX7, rfl, Or.inr ⟨rfl, hi, by rw [h]; rfl⟩⟩
theorem flX7_39 (M : MD) (h : M.1.cls = RX7) : FL M 39 6 16 := ⟨RX7, TX7, 17, rfl, by decide, gwc_X7, by rw [h]; exact (gt_3 23 rfl rfl)⟩
theorem fpX7_39 (M : MD) (h : M.1.cls = RX7) (hi : M.1.name = "<init>") : FP M 39 6 16 (.array .int) := ⟨RX7, TX7, 17, tyX7, ⟨rfl, by decide, gwc_X7, by rw [h]; exact (gt_3 23 rfl rfl)⟩, tyX7_ok, nmX7, rfl, Or.inr ⟨rfl, hi, by rw [h]; rfl⟩⟩
theorem cX7_44 (M : MD) (h : M.1.cls = RX7) : CS M 44 MX7_in 3 := ⟨⟨(by rw [h]; exact (gt_3 65 rfl rfl)), (gt_3 66 rfl rfl), (gt_1 7 rfl rfl), (show Cond.code MX7_in.1 MX7_in.2.1 MX7_in.2.2.1 MX7_in.2.2.2 ∈ GW from gt_3 67 rfl rfl)⟩, ⟨by decide, by decide, by decide +kernel⟩, Nat.le_of_ble_eq_true rfl⟩
theorem flX7_48 (M : MD) (h : M.1.cls = RX7) : FL M 48 6 4 := ⟨RX7, TX7, 17, rfl, by decide, gwc_X7, by rw [h]; exact (gt_3 11 rfl rfl)⟩
theorem fpX7_48 (M : MD) (h : M.1.cls = RX7) : FP M 48 6 4 .int := ⟨RX7, TX7, 17, tyX7, ⟨rfl, by decide, gwc_X7, by rw [h]; exact (gt_3 11 rfl rfl)⟩, tyX7_ok, nmX7, rfl, Or.inl rfl⟩
theorem cX7_60 (M : MD) (h : M.1.cls = RX7) : CV M 60 MX7_fits 1 := ⟨⟨(by rw [h]; exact (gt_3 77 rfl rfl)), (gt_3 79 rfl rfl), (gt_s 7 rfl rfl), (gt_1 7 rfl rfl), (show Cond.code MX7_fits.1 MX7_fits.2.1 MX7_fits.2.2.1 MX7_fits.2.2.2 ∈ GW from gt_3 80 rfl rfl)⟩, ⟨by decide, by decide, by decide +kernel⟩, Nat.le_of_ble_eq_true rfl⟩
theorem cX7_64 (M : MD) (h : M.1.cls = RX7) : CV M 64 MX7_fault 0 := ⟨⟨(by rw [h]; exact (gt_3 88 rfl rfl)), (gt_3 74 rfl rfl), (gt_3 75 rfl rfl), (gt_1 7 rfl rfl), (show Cond.code MX7_fault.1 MX7_fault.2.1 MX7_fault.2.2.1 MX7_fault.2.2.2 ∈ GW from gt_3 76 rfl rfl)⟩, ⟨by decide, by decide, by decide +kernel⟩, Nat.le_of_ble_eq_true rfl⟩
theorem flX7_68 (M : MD) (h : M.1.cls = RX7) : FL M 68 6 0 := ⟨RX7, TX7, 17, rfl, by decide, gwc_X7, by rw [h]; exact (gt_3 7 rfl rfl)⟩
theorem fpX7_68 (M : MD) (h : M.1.cls = RX7) : FP M 68 6 0 .int := ⟨RX7, TX7, 17, tyX7, ⟨rfl, by decide, gwc_X7, by rw [h]; exact (gt_3 7 rfl rfl)⟩, tyX7_ok, nmX7, rfl, Or.inl rfl⟩
theorem flX7_71 (M : MD) (h : M.1.cls = RX7) : FL M 71 6 6 := ⟨RX7, TX7, 17, rfl, by decide, gwc_X7, by rw [h]; exact (gt_3 13 rfl rfl)⟩
theorem fpX7_71 (M : MD) (h : M.1.cls = RX7) : FP M 71 6 6 .int := ⟨RX7, TX7, 17, tyX7, ⟨rfl, by decide, gwc_X7, by rw [h]; exact (gt_3 13 rfl rfl)⟩, tyX7_ok, nmX7, rfl, Or.inl rfl⟩
theorem cX7_74 (M : MD) (h : M.1.cls = RX7) : CV M 74 MX7_isThrower 1 := ⟨⟨(by rw [h]; exact (gt_3 93 rfl rfl)), (gt_3 95 rfl rfl), (gt_s 8 rfl rfl), (gt_1 7 rfl rfl), (show Cond.code MX7_isThrower.1 MX7_isThrower.2.1 MX7_isThrower.2.2.1 MX7_isThrower.2.2.2 ∈ GW from gt_3 96 rfl rfl)⟩, ⟨by decide, by decide, by decide +kernel⟩, Nat.le_of_ble_eq_true rfl⟩
theorem cX7_77 (M : MD) (h : M.1.cls = RX7) : CV M 77 MX7_mark 3 := ⟨⟨(by rw [h]; exact (gt_3 97 rfl rfl)), (gt_3 99 rfl rfl), (gt_s 9 rfl rfl), (gt_1 7 rfl rfl), (show Cond.code MX7_mark.1 MX7_mark.2.1 MX7_mark.2.2.1 MX7_mark.2.2.2 ∈ GW from gt_3 100 rfl rfl)⟩, ⟨by decide, by decide, by decide +kernel⟩, Nat.le_of_ble_eq_true rfl⟩
theorem cX7_82 (M : MD) (h : M.1.cls = RX7) : CS M 82 MX7_value 3 := ⟨⟨(by rw [h]; exact (gt_3 117 rfl rfl)), (gt_3 118 rfl rfl), (gt_1 7 rfl rfl), (show Cond.code MX7_value.1 MX7_value.2.1 MX7_value.2.2.1 MX7_value.2.2.2 ∈ GW from gt_3 119 rfl rfl)⟩, ⟨by decide, by decide, by decide +kernel⟩, Nat.le_of_ble_eq_true rfl⟩
theorem cX7_85 (M : MD) (h : M.1.cls = RX7) : CV M 85 MX7_valueOf 2 := ⟨⟨(by rw [h]; exact (gt_3 113 rfl rfl)), (gt_3 115 rfl rfl), (gt_s 11 rfl rfl), (gt_1 7 rfl rfl), (show Cond.code MX7_valueOf.1 MX7_valueOf.2.1 MX7_valueOf.2.2.1 MX7_valueOf.2.2.2 ∈ GW from gt_3 116 rfl rfl)⟩, ⟨by decide, by decide, by decide +kernel⟩, Nat.le_of_ble_eq_true rfl⟩
theorem cX7_89 (M : MD) (h : M.1.cls = RX7) : CV M 89 MX7_rankOf 2 := ⟨⟨(by rw [h]; exact (gt_3 109 rfl rfl)), (gt_3 111 rfl rfl), (gt_s 10 rfl rfl), (gt_1 7 rfl rfl), (show Cond.code MX7_rankOf.1 MX7_rankOf.2.1 MX7_rankOf.2.2.1 MX7_rankOf.2.2.2 ∈ GW from gt_3 112 rfl rfl)⟩, ⟨by decide, by decide, by decide +kernel⟩, Nat.le_of_ble_eq_true rfl⟩
theorem cX7_94 (M : MD) (h : M.1.cls = RX7) : CV M 94 MX7_oddsOf 3 := ⟨⟨(by rw [h]; exact (gt_3 126 rfl rfl)), (gt_3 128 rfl rfl), (gt_s 12 rfl rfl), (gt_1 7 rfl rfl), (show Cond.code MX7_oddsOf.1 MX7_oddsOf.2.1 MX7_oddsOf.2.2.1 MX7_oddsOf.2.2.2 ∈ GW from gt_3 129 rfl rfl)⟩, ⟨by decide, by decide, by decide +kernel⟩, Nat.le_of_ble_eq_true rfl⟩
theorem flX7_97 (M : MD) (h : M.1.cls = RX7) : FL M 97 6 7 := ⟨RX7, TX7, 17, rfl, by decide, gwc_X7, by rw [h]; exact (gt_3 14 rfl rfl)⟩
theorem fpX7_97 (M : MD) (h : M.1.cls = RX7) : FP M 97 6 7 .int := ⟨RX7, TX7, 17, tyX7, ⟨rfl, by decide, gwc_X7, by rw [h]; exact (gt_3 14 rfl rfl)⟩, tyX7_ok, nmX7, rfl, Or.inl rfl⟩
theorem cX7_100 (M : MD) (h : M.1.cls = RX7) : CV M 100 MX7_nextIn 2 := ⟨⟨(by rw [h]; exact (gt_3 154 rfl rfl)), (gt_3 156 rfl rfl), (gt_s 18 rfl rfl), (gt_1 7 rfl rfl), (show Cond.code MX7_nextIn.1 MX7_nextIn.2.1 MX7_nextIn.2.2.1 MX7_nextIn.2.2.2 ∈ GW from gt_3 157 rfl rfl)⟩, ⟨by decide, by decide, by decide +kernel⟩, Nat.le_of_ble_eq_true rfl⟩
theorem cX7_103 (M : MD) (h : M.1.cls = RX7) : CV M 103 MX7_set 4 := ⟨⟨(by rw [h]; exact (gt_3 146 rfl rfl)), (gt_3 148 rfl rfl), (gt_s 16 rfl rfl), (gt_1 7 rfl rfl), (show Cond.code MX7_set.1 MX7_set.2.1 MX7_set.2.2.1 MX7_set.2.2.2 ∈ GW from gt_3 149 rfl rfl)⟩, ⟨by decide, by decide, by decide +kernel⟩, Nat.le_of_ble_eq_true rfl⟩
theorem cX7_107 (M : MD) (h : M.1.cls = RX7) : CV M 107 MX7_goOn 1 := ⟨⟨(by rw [h]; exact (gt_3 150 rfl rfl)), (gt_3 152 rfl rfl), (gt_s 17 rfl rfl), (gt_1 7 rfl rfl), (show Cond.code MX7_goOn.1 MX7_goOn.2.1 MX7_goOn.2.2.1 MX7_goOn.2.2.2 ∈ GW from gt_3 153 rfl rfl)⟩, ⟨by decide, by decide, by decide +kernel⟩, Nat.le_of_ble_eq_true rfl⟩
theorem cX7_111 (M : MD) (h : M.1.cls = RX7) : CV M 111 MX7_keepAct 0 := ⟨⟨(by rw [h]; exact (gt_3 138 rfl rfl)), (gt_3 140 rfl rfl), (gt_s 14 rfl rfl), (gt_1 7 rfl rfl), (show Cond.code MX7_keepAct.1 MX7_keepAct.2.1 MX7_keepAct.2.2.1 MX7_keepAct.2.2.2 ∈ GW from gt_3 141 rfl rfl)⟩, ⟨by decide, by decide, by decide +kernel⟩, Nat.le_of_ble_eq_true rfl⟩
theorem cX7_114 (M : MD) (h : M.1.cls = RX7) : CV M 114 MX7_make 2 := ⟨⟨(by rw [h]; exact (gt_3 142 rfl rfl)), (gt_3 144 rfl rfl), (gt_s 15 rfl rfl), (gt_1 7 rfl rfl), (show Cond.code MX7_make.1 MX7_make.2.1 MX7_make.2.2.1 MX7_make.2.2.2 ∈ GW from gt_3 145 rfl rfl)⟩, ⟨by decide, by decide, by decide +kernel⟩, Nat.le_of_ble_eq_true rfl⟩
theorem cX7_118 (M : MD) (h : M.1.cls = RX7) : CV M 118 MX7_act 1 := ⟨⟨(by rw [h]; exact (gt_3 134 rfl rfl)), (gt_3 136 rfl rfl), (gt_s 13 rfl rfl), (gt_1 7 rfl rfl), (show Cond.code MX7_act.1 MX7_act.2.1 MX7_act.2.2.1 MX7_act.2.2.2 ∈ GW from gt_3 137 rfl rfl)⟩, ⟨by decide, by decide, by decide +kernel⟩, Nat.le_of_ble_eq_true rfl⟩
theorem cX7_124 (M : MD) (h : M.1.cls = RX7) : CS M 124 MX7_tenTo 1 := ⟨⟨(by rw [h]; exact (gt_3 170 rfl rfl)), (gt_3 171 rfl rfl), (gt_1 7 rfl rfl), (show Cond.code MX7_tenTo.1 MX7_tenTo.2.1 MX7_tenTo.2.2.1 MX7_tenTo.2.2.2 ∈ GW from gt_3 172 rfl rfl)⟩, ⟨by decide, by decide, by decide +kernel⟩, Nat.le_of_ble_eq_true rfl⟩
theorem cX7_128 (M : MD) (h : M.1.cls = RX7) : CV M 128 MX7_copyNow 0 := ⟨⟨(by rw [h]; exact (gt_3 174 rfl rfl)), (gt_3 176 rfl rfl), (gt_s 19 rfl rfl), (gt_1 7 rfl rfl), (show Cond.code MX7_copyNow.1 MX7_copyNow.2.1 MX7_copyNow.2.2.1 MX7_copyNow.2.2.2 ∈ GW from gt_3 177 rfl rfl)⟩, ⟨by decide, by decide, by decide +kernel⟩, Nat.le_of_ble_eq_true rfl⟩
theorem cX7_131 (M : MD) (h : M.1.cls = RX7) : CV M 131 MX7_isOut 1 := ⟨⟨(by rw [h]; exact (gt_3 182 rfl rfl)), (gt_3 184 rfl rfl), (gt_s 20 rfl rfl), (gt_1 7 rfl rfl), (show Cond.code MX7_isOut.1 MX7_isOut.2.1 MX7_isOut.2.2.1 MX7_isOut.2.2.2 ∈ GW from gt_3 185 rfl rfl)⟩, ⟨by decide, by decide, by decide +kernel⟩, Nat.le_of_ble_eq_true rfl⟩
theorem cX7_134 (M : MD) (h : M.1.cls = RX7) : CV M 134 MX7_clearsOf 1 := ⟨⟨(by rw [h]; exact (gt_3 186 rfl rfl)), (gt_3 188 rfl rfl), (gt_s 21 rfl rfl), (gt_1 7 rfl rfl), (show Cond.code MX7_clearsOf.1 MX7_clearsOf.2.1 MX7_clearsOf.2.2.1 MX7_clearsOf.2.2.2 ∈ GW from gt_3 189 rfl rfl)⟩, ⟨by decide, by decide, by decide +kernel⟩, Nat.le_of_ble_eq_true rfl⟩
theorem cX7_139 (M : MD) (h : M.1.cls = RX7) : CS M 139 MX7_common 2 := ⟨⟨(by rw [h]; exact (gt_3 191 rfl rfl)), (gt_3 192 rfl rfl), (gt_1 7 rfl rfl), (show Cond.code MX7_common.1 MX7_common.2.1 MX7_common.2.2.1 MX7_common.2.2.2 ∈ GW from gt_3 193 rfl rfl)⟩, ⟨by decide, by decide, by decide +kernel⟩, Nat.le_of_ble_eq_true rfl⟩
theorem cX7_143 (M : MD) (h : M.1.cls = RX7) : CS M 143 MX7_place 4 := ⟨⟨(by rw [h]; exact (gt_3 207 rfl rfl)), (gt_3 208 rfl rfl), (gt_1 7 rfl rfl), (show Cond.code MX7_place.1 MX7_place.2.1 MX7_place.2.2.1 MX7_place.2.2.2 ∈ GW from gt_3 209 rfl rfl)⟩, ⟨by decide, by decide, by decide +kernel⟩, Nat.le_of_ble_eq_true rfl⟩
theorem cX7_147 (M : MD) (h : M.1.cls = RX7) : CV M 147 MX7_layMean 5 := ⟨⟨(by rw [h]; exact (gt_3 210 rfl rfl)), (gt_3 212 rfl rfl), (gt_s 24 rfl rfl), (gt_1 7 rfl rfl), (show Cond.code MX7_layMean.1 MX7_layMean.2.1 MX7_layMean.2.2.1 MX7_layMean.2.2.2 ∈ GW from gt_3 213 rfl rfl)⟩, ⟨by decide, by decide, by decide +kernel⟩, Nat.le_of_ble_eq_true rfl⟩
theorem flX7_151 (M : MD) (h : M.1.cls = RX7) : FL M 151 6 10 := ⟨RX7, TX7, 17, rfl, by decide, gwc_X7, by rw [h]; exact (gt_3 17 rfl rfl)⟩
theorem fpX7_151 (M : MD) (h : M.1.cls = RX7) : FP M 151 6 10 .long := ⟨RX7, TX7, 17, tyX7, ⟨rfl, by decide, gwc_X7, by rw [h]; exact (gt_3 17 rfl rfl)⟩, tyX7_ok, nmX7, rfl, Or.inl rfl⟩
theorem flX7_155 (M : MD) (h : M.1.cls = RX7) : FL M 155 6 11 := ⟨RX7, TX7, 17, rfl, by decide, gwc_X7, by rw [h]; exact (gt_3 18 rfl rfl)⟩
theorem fpX7_155 (M : MD) (h : M.1.cls = RX7) : FP M 155 6 11 .long := ⟨RX7, TX7, 17, tyX7, ⟨rfl, by decide, gwc_X7, by rw [h]; exact (gt_3 18 rfl rfl)⟩, tyX7_ok, nmX7, rfl, Or.inl rfl⟩
theorem cX7_160 (M : MD) (h : M.1.cls = RX7) : CV M 160 MX7_refused 2 := ⟨⟨(by rw [h]; exact (gt_3 198 rfl rfl)), (gt_3 200 rfl rfl), (gt_s 22 rfl rfl), (gt_1 7 rfl rfl), (show Cond.code MX7_refused.1 MX7_refused.2.1 MX7_refused.2.2.1 MX7_refused.2.2.2 ∈ GW from gt_3 201 rfl rfl)⟩, ⟨by decide, by decide, by decide +kernel⟩, Nat.le_of_ble_eq_true rfl⟩
theorem cX7_163 (M : MD) (h : M.1.cls = RX7) : CV M 163 MX7_layMeans 2 := ⟨⟨(by rw [h]; exact (gt_3 203 rfl rfl)), (gt_3 205 rfl rfl), (gt_s 23 rfl rfl), (gt_1 7 rfl rfl), (show Cond.code MX7_layMeans.1 MX7_layMeans.2.1 MX7_layMeans.2.2.1 MX7_layMeans.2.2.2 ∈ GW from gt_3 206 rfl rfl)⟩, ⟨by decide, by decide, by decide +kernel⟩, Nat.le_of_ble_eq_true rfl⟩
theorem cX7_166 (M : MD) (h : M.1.cls = RX7) : CV M 166 MX7_partsOf 3 := ⟨⟨(by rw [h]; exact (gt_3 222 rfl rfl)), (gt_3 224 rfl rfl), (gt_s 25 rfl rfl), (gt_1 7 rfl rfl), (show Cond.code MX7_partsOf.1 MX7_partsOf.2.1 MX7_partsOf.2.2.1 MX7_partsOf.2.2.2 ∈ GW from gt_3 225 rfl rfl)⟩, ⟨by decide, by decide, by decide +kernel⟩, Nat.le_of_ble_eq_true rfl⟩
theorem flX7_176 (M : MD) (h : M.1.cls = RX7) : FL M 176 6 14 := ⟨RX7, TX7, 17, rfl, by decide, gwc_X7, by rw [h]; exact (gt_3 21 rfl rfl)⟩
theorem fpX7_176 (M : MD) (h : M.1.cls = RX7) : FP M 176 6 14 .long := ⟨RX7, TX7, 17, tyX7, ⟨rfl, by decide, gwc_X7, by rw [h]; exact (gt_3 21 rfl rfl)⟩, tyX7_ok, nmX7, rfl, Or.inl rfl⟩
theorem cX7_183 (M : MD) (h : M.1.cls = RX7) : CV M 183 MX7_winners 1 := ⟨⟨(by rw [h]; exact (gt_4 7 rfl rfl)), (gt_4 9 rfl rfl), (gt_s 26 rfl rfl), (gt_1 7 rfl rfl), (show Cond.code MX7_winners.1 MX7_winners.2.1 MX7_winners.2.2.1 MX7_winners.2.2.2 ∈ GW from gt_4 10 rfl rfl)⟩, ⟨by decide, by decide, by decide +kernel⟩, Nat.le_of_ble_eq_true rfl⟩
theorem cX7_186 (M : MD) (h : M.1.cls = RX7) : CV M 186 MX7_those 1 := ⟨⟨(by rw [h]; exact (gt_4 23 rfl rfl)), (gt_4 25 rfl rfl), (gt_s 27 rfl rfl), (gt_1 7 rfl rfl), (show Cond.code MX7_those.1 MX7_those.2.1 MX7_those.2.2.1 MX7_those.2.2.2 ∈ GW from gt_4 26 rfl rfl)⟩, ⟨by decide, by decide, by decide +kernel⟩, Nat.le_of_ble_eq_true rfl⟩
theorem cL_9 (M : MD) (h : M.1.cls = RL) : CI M 9 MX6_init 0 := ⟨⟨(by rw [h]; exact (gt_1 13 rfl rfl)), (gt_1 14 rfl rfl), (gt_1 1 rfl rfl), (show Cond.code MX6_init.1 MX6_init.2.1 MX6_init.2.2.1 MX6_init.2.2.2 ∈ GW from gt_1 15 rfl rfl), rfl, rfl⟩, ⟨by decide, by decide, by decide +kernel⟩, Nat.le_of_ble_eq_true rfl⟩
theorem cL_12 (M : MD) (h : M.1.cls = RL) : CI M 12 MX7_init 0 := ⟨⟨(by rw [h]; exact (gt_3 3 rfl rfl)), (gt_3 4 rfl rfl), (gt_1 7 rfl rfl), (show Cond.code MX7_init.1 MX7_init.2.1 MX7_init.2.2.1 MX7_init.2.2.2 ∈ GW from gt_3 5 rfl rfl), rfl, rfl⟩, ⟨by decide, by decide, by decide +kernel⟩, Nat.le_of_ble_eq_true rfl⟩
theorem cL_15 (M : MD) (h : M.1.cls = RL) : CV M 15 MX6_write 2 := ⟨⟨(by rw [h]; exact (gt_1 168 rfl rfl)), (gt_1 169 rfl rfl), (gt_1 170 rfl rfl), (gt_1 1 rfl rfl), (show Cond.code MX6_write.1 MX6_write.2.1 MX6_write.2.2.1 MX6_write.2.2.2 ∈ GW from gt_1 171 rfl rfl)⟩, ⟨by decide, by decide, by decide +kernel⟩, Nat.le_of_ble_eq_true rfl⟩
theorem cL_19 (M : MD) (h : M.1.cls = RL) : CV M 19 MX7_write 2 := ⟨⟨(by rw [h]; exact (gt_3 60 rfl rfl)), (gt_3 61 rfl rfl), (gt_3 62 rfl rfl), (gt_1 7 rfl rfl), (show Cond.code MX7_write.1 MX7_write.2.1 MX7_write.2.2.1 MX7_write.2.2.2 ∈ GW from gt_3 63 rfl rfl)⟩, ⟨by decide, by decide, by decide +kernel⟩, Nat.le_of_ble_eq_true rfl⟩
theorem cL_20 (M : MD) (h : M.1.cls = RL) : CV M 20 MX6_wipe 0 := ⟨⟨(by rw [h]; exact (gt_1 176 rfl rfl)), (gt_1 177 rfl rfl), (gt_1 178 rfl rfl), (gt_1 1 rfl rfl), (show Cond.code MX6_wipe.1 MX6_wipe.2.1 MX6_wipe.2.2.1 MX6_wipe.2.2.2 ∈ GW from gt_1 179 rfl rfl)⟩, ⟨by decide, by decide, by decide +kernel⟩, Nat.le_of_ble_eq_true rfl⟩
theorem cL_24 (M : MD) (h : M.1.cls = RL) : CV M 24 MX7_wipe 0 := ⟨⟨(by rw [h]; exact (gt_3 69 rfl rfl)), (gt_3 70 rfl rfl), (gt_3 71 rfl rfl), (gt_1 7 rfl rfl), (show Cond.code MX7_wipe.1 MX7_wipe.2.1 MX7_wipe.2.2.1 MX7_wipe.2.2.2 ∈ GW from gt_3 72 rfl rfl)⟩, ⟨by decide, by decide, by decide +kernel⟩, Nat.le_of_ble_eq_true rfl⟩
theorem cL_25 (M : MD) (h : M.1.cls = RL) : CV M 25 MX6_fault 0 := ⟨⟨(by rw [h]; exact (gt_1 180 rfl rfl)), (gt_1 181 rfl rfl), (gt_1 182 rfl rfl), (gt_1 1 rfl rfl), (show Cond.code MX6_fault.1 MX6_fault.2.1 MX6_fault.2.2.1 MX6_fault.2.2.2 ∈ GW from gt_1 183 rfl rfl)⟩, ⟨by decide, by decide, by decide +kernel⟩, Nat.le_of_ble_eq_true rfl⟩
theorem cL_28 (M : MD) (h : M.1.cls = RL) : CV M 28 MX7_fault 0 := ⟨⟨(by rw [h]; exact (gt_3 73 rfl rfl)), (gt_3 74 rfl rfl), (gt_3 75 rfl rfl), (gt_1 7 rfl rfl), (show Cond.code MX7_fault.1 MX7_fault.2.1 MX7_fault.2.2.1 MX7_fault.2.2.2 ∈ GW from gt_3 76 rfl rfl)⟩, ⟨by decide, by decide, by decide +kernel⟩, Nat.le_of_ble_eq_true rfl⟩
theorem cL_29 (M : MD) (h : M.1.cls = RL) : CV M 29 MX6_field 0 := ⟨⟨(by rw [h]; exact (gt_1 191 rfl rfl)), (gt_1 192 rfl rfl), (gt_1 193 rfl rfl), (gt_1 1 rfl rfl), (show Cond.code MX6_field.1 MX6_field.2.1 MX6_field.2.2.1 MX6_field.2.2.2 ∈ GW from gt_1 194 rfl rfl)⟩, ⟨by decide, by decide, by decide +kernel⟩, Nat.le_of_ble_eq_true rfl⟩
theorem cL_32 (M : MD) (h : M.1.cls = RL) : CV M 32 MX7_field 0 := ⟨⟨(by rw [h]; exact (gt_3 84 rfl rfl)), (gt_3 85 rfl rfl), (gt_3 86 rfl rfl), (gt_1 7 rfl rfl), (show Cond.code MX7_field.1 MX7_field.2.1 MX7_field.2.2.1 MX7_field.2.2.2 ∈ GW from gt_3 87 rfl rfl)⟩, ⟨by decide, by decide, by decide +kernel⟩, Nat.le_of_ble_eq_true rfl⟩
theorem cL_33 (M : MD) (h : M.1.cls = RL) : CV M 33 MX6_thrower 2 := ⟨⟨(by rw [h]; exact (gt_1 239 rfl rfl)), (gt_2 0 rfl rfl), (gt_2 1 rfl rfl), (gt_1 1 rfl rfl), (show Cond.code MX6_thrower.1 MX6_thrower.2.1 MX6_thrower.2.2.1 MX6_thrower.2.2.2 ∈ GW from gt_2 2 rfl rfl)⟩, ⟨by decide, by decide, by decide +kernel⟩, Nat.le_of_ble_eq_true rfl⟩
theorem cL_37 (M : MD) (h : M.1.cls = RL) : CV M 37 MX7_thrower 2 := ⟨⟨(by rw [h]; exact (gt_3 89 rfl rfl)), (gt_3 90 rfl rfl), (gt_3 91 rfl rfl), (gt_1 7 rfl rfl), (show Cond.code MX7_thrower.1 MX7_thrower.2.1 MX7_thrower.2.2.1 MX7_thrower.2.2.2 ∈ GW from gt_3 92 rfl rfl)⟩, ⟨by decide, by decide, by decide +kernel⟩, Nat.le_of_ble_eq_true rfl⟩
theorem cL_38 (M : MD) (h : M.1.cls = RL) : CV M 38 MX6_on 0 := ⟨⟨(by rw [h]; exact (gt_2 8 rfl rfl)), (gt_2 9 rfl rfl), (gt_2 10 rfl rfl), (gt_1 1 rfl rfl), (show Cond.code MX6_on.1 MX6_on.2.1 MX6_on.2.2.1 MX6_on.2.2.2 ∈ GW from gt_2 11 rfl rfl)⟩, ⟨by decide, by decide, by decide +kernel⟩, Nat.le_of_ble_eq_true rfl⟩
theorem cL_41 (M : MD) (h : M.1.cls = RL) : CV M 41 MX7_on 0 := ⟨⟨(by rw [h]; exact (gt_3 101 rfl rfl)), (gt_3 102 rfl rfl), (gt_3 103 rfl rfl), (gt_1 7 rfl rfl), (show Cond.code MX7_on.1 MX7_on.2.1 MX7_on.2.2.1 MX7_on.2.2.2 ∈ GW from gt_3 104 rfl rfl)⟩, ⟨by decide, by decide, by decide +kernel⟩, Nat.le_of_ble_eq_true rfl⟩
theorem cL_42 (M : MD) (h : M.1.cls = RL) : CV M 42 MX6_rank 1 := ⟨⟨(by rw [h]; exact (gt_2 12 rfl rfl)), (gt_2 13 rfl rfl), (gt_2 14 rfl rfl), (gt_1 1 rfl rfl), (show Cond.code MX6_rank.1 MX6_rank.2.1 MX6_rank.2.2.1 MX6_rank.2.2.2 ∈ GW from gt_2 15 rfl rfl)⟩, ⟨by decide, by decide, by decide +kernel⟩, Nat.le_of_ble_eq_true rfl⟩
theorem cL_46 (M : MD) (h : M.1.cls = RL) : CV M 46 MX7_rank 1 := ⟨⟨(by rw [h]; exact (gt_3 105 rfl rfl)), (gt_3 106 rfl rfl), (gt_3 107 rfl rfl), (gt_1 7 rfl rfl), (show Cond.code MX7_rank.1 MX7_rank.2.1 MX7_rank.2.2.1 MX7_rank.2.2.2 ∈ GW from gt_3 108 rfl rfl)⟩, ⟨by decide, by decide, by decide +kernel⟩, Nat.le_of_ble_eq_true rfl⟩
theorem cL_47 (M : MD) (h : M.1.cls = RL) : CV M 47 MX6_odds 2 := ⟨⟨(by rw [h]; exact (gt_2 24 rfl rfl)), (gt_2 25 rfl rfl), (gt_2 26 rfl rfl), (gt_1 1 rfl rfl), (show Cond.code MX6_odds.1 MX6_odds.2.1 MX6_odds.2.2.1 MX6_odds.2.2.2 ∈ GW from gt_2 27 rfl rfl)⟩, ⟨by decide, by decide, by decide +kernel⟩, Nat.le_of_ble_eq_true rfl⟩
theorem cL_50 (M : MD) (h : M.1.cls = RL) : CV M 50 MX7_odds 2 := ⟨⟨(by rw [h]; exact (gt_3 121 rfl rfl)), (gt_3 122 rfl rfl), (gt_3 123 rfl rfl), (gt_1 7 rfl rfl), (show Cond.code MX7_odds.1 MX7_odds.2.1 MX7_odds.2.2.1 MX7_odds.2.2.2 ∈ GW from gt_3 124 rfl rfl)⟩, ⟨by decide, by decide, by decide +kernel⟩, Nat.le_of_ble_eq_true rfl⟩
theorem cL_51 (M : MD) (h : M.1.cls = RL) : CV M 51 MX6_toss 1 := ⟨⟨(by rw [h]; exact (gt_2 36 rfl rfl)), (gt_2 37 rfl rfl), (gt_2 38 rfl rfl), (gt_1 1 rfl rfl), (show Cond.code MX6_toss.1 MX6_toss.2.1 MX6_toss.2.2.1 MX6_toss.2.2.2 ∈ GW from gt_2 39 rfl rfl)⟩, ⟨by decide, by decide, by decide +kernel⟩, Nat.le_of_ble_eq_true rfl⟩
theorem cL_55 (M : MD) (h : M.1.cls = RL) : CV M 55 MX7_toss 1 := ⟨⟨(by rw [h]; exact (gt_3 130 rfl rfl)), (gt_3 131 rfl rfl), (gt_3 132 rfl rfl), (gt_1 7 rfl rfl), (show Cond.code MX7_toss.1 MX7_toss.2.1 MX7_toss.2.2.1 MX7_toss.2.2.2 ∈ GW from gt_3 133 rfl rfl)⟩, ⟨by decide, by decide, by decide +kernel⟩, Nat.le_of_ble_eq_true rfl⟩
theorem cL_56 (M : MD) (h : M.1.cls = RL) : CV M 56 MX6_spare 0 := ⟨⟨(by rw [h]; exact (gt_2 88 rfl rfl)), (gt_2 89 rfl rfl), (gt_2 90 rfl rfl), (gt_1 1 rfl rfl), (show Cond.code MX6_spare.1 MX6_spare.2.1 MX6_spare.2.2.1 MX6_spare.2.2.2 ∈ GW from gt_2 91 rfl rfl)⟩, ⟨by decide, by decide, by decide +kernel⟩, Nat.le_of_ble_eq_true rfl⟩
theorem cL_59 (M : MD) (h : M.1.cls = RL) : CV M 59 MX7_spare 0 := ⟨⟨(by rw [h]; exact (gt_3 158 rfl rfl)), (gt_3 159 rfl rfl), (gt_3 160 rfl rfl), (gt_1 7 rfl rfl), (show Cond.code MX7_spare.1 MX7_spare.2.1 MX7_spare.2.2.1 MX7_spare.2.2.2 ∈ GW from gt_3 161 rfl rfl)⟩, ⟨by decide, by decide, by decide +kernel⟩, Nat.le_of_ble_eq_true rfl⟩
theorem cL_60 (M : MD) (h : M.1.cls = RL) : CV M 60 MX6_undo 0 := ⟨⟨(by rw [h]; exact (gt_2 92 rfl rfl)), (gt_2 93 rfl rfl), (gt_2 94 rfl rfl), (gt_1 1 rfl rfl), (show Cond.code MX6_undo.1 MX6_undo.2.1 MX6_undo.2.2.1 MX6_undo.2.2.2 ∈ GW from gt_2 95 rfl rfl)⟩, ⟨by decide, by decide, by decide +kernel⟩, Nat.le_of_ble_eq_true rfl⟩
theorem cL_63 (M : MD) (h : M.1.cls = RL) : CV M 63 MX7_undo 0 := ⟨⟨(by rw [h]; exact (gt_3 162 rfl rfl)), (gt_3 163 rfl rfl), (gt_3 164 rfl rfl), (gt_1 7 rfl rfl), (show Cond.code MX7_undo.1 MX7_undo.2.1 MX7_undo.2.2.1 MX7_undo.2.2.2 ∈ GW from gt_3 165 rfl rfl)⟩, ⟨by decide, by decide, by decide +kernel⟩, Nat.le_of_ble_eq_true rfl⟩
theorem cL_64 (M : MD) (h : M.1.cls = RL) : CV M 64 MX6_judge 2 := ⟨⟨(by rw [h]; exact (gt_2 100 rfl rfl)), (gt_2 101 rfl rfl), (gt_2 102 rfl rfl), (gt_1 1 rfl rfl), (show Cond.code MX6_judge.1 MX6_judge.2.1 MX6_judge.2.2.1 MX6_judge.2.2.2 ∈ GW from gt_2 103 rfl rfl)⟩, ⟨by decide, by decide, by decide +kernel⟩, Nat.le_of_ble_eq_true rfl⟩
theorem cL_67 (M : MD) (h : M.1.cls = RL) : CV M 67 MX7_judge 2 := ⟨⟨(by rw [h]; exact (gt_3 166 rfl rfl)), (gt_3 167 rfl rfl), (gt_3 168 rfl rfl), (gt_1 7 rfl rfl), (show Cond.code MX7_judge.1 MX7_judge.2.1 MX7_judge.2.2.1 MX7_judge.2.2.2 ∈ GW from gt_3 169 rfl rfl)⟩, ⟨by decide, by decide, by decide +kernel⟩, Nat.le_of_ble_eq_true rfl⟩
theorem cL_68 (M : MD) (h : M.1.cls = RL) : CV M 68 MX6_clears 2 := ⟨⟨(by rw [h]; exact (gt_2 110 rfl rfl)), (gt_2 111 rfl rfl), (gt_2 112 rfl rfl), (gt_1 1 rfl rfl), (show Cond.code MX6_clears.1 MX6_clears.2.1 MX6_clears.2.2.1 MX6_clears.2.2.2 ∈ GW from gt_2 113 rfl rfl)⟩, ⟨by decide, by decide, by decide +kernel⟩, Nat.le_of_ble_eq_true rfl⟩
theorem cL_72 (M : MD) (h : M.1.cls = RL) : CV M 72 MX7_clears 2 := ⟨⟨(by rw [h]; exact (gt_3 178 rfl rfl)), (gt_3 179 rfl rfl), (gt_3 180 rfl rfl), (gt_1 7 rfl rfl), (show Cond.code MX7_clears.1 MX7_clears.2.1 MX7_clears.2.2.1 MX7_clears.2.2.2 ∈ GW from gt_3 181 rfl rfl)⟩, ⟨by decide, by decide, by decide +kernel⟩, Nat.le_of_ble_eq_true rfl⟩
theorem cL_73 (M : MD) (h : M.1.cls = RL) : CV M 73 MX6_mean 3 := ⟨⟨(by rw [h]; exact (gt_2 132 rfl rfl)), (gt_2 133 rfl rfl), (gt_2 134 rfl rfl), (gt_1 1 rfl rfl), (show Cond.code MX6_mean.1 MX6_mean.2.1 MX6_mean.2.2.1 MX6_mean.2.2.2 ∈ GW from gt_2 135 rfl rfl)⟩, ⟨by decide, by decide, by decide +kernel⟩, Nat.le_of_ble_eq_true rfl⟩
theorem cL_77 (M : MD) (h : M.1.cls = RL) : CV M 77 MX7_mean 3 := ⟨⟨(by rw [h]; exact (gt_3 194 rfl rfl)), (gt_3 195 rfl rfl), (gt_3 196 rfl rfl), (gt_1 7 rfl rfl), (show Cond.code MX7_mean.1 MX7_mean.2.1 MX7_mean.2.2.1 MX7_mean.2.2.2 ∈ GW from gt_3 197 rfl rfl)⟩, ⟨by decide, by decide, by decide +kernel⟩, Nat.le_of_ble_eq_true rfl⟩
theorem cL_78 (M : MD) (h : M.1.cls = RL) : CV M 78 MX6_wise 2 := ⟨⟨(by rw [h]; exact (gt_2 157 rfl rfl)), (gt_2 158 rfl rfl), (gt_2 159 rfl rfl), (gt_1 1 rfl rfl), (show Cond.code MX6_wise.1 MX6_wise.2.1 MX6_wise.2.2.1 MX6_wise.2.2.2 ∈ GW from gt_2 160 rfl rfl)⟩, ⟨by decide, by decide, by decide +kernel⟩, Nat.le_of_ble_eq_true rfl⟩
theorem cL_81 (M : MD) (h : M.1.cls = RL) : CV M 81 MX7_wise 2 := ⟨⟨(by rw [h]; exact (gt_3 214 rfl rfl)), (gt_3 215 rfl rfl), (gt_3 216 rfl rfl), (gt_1 7 rfl rfl), (show Cond.code MX7_wise.1 MX7_wise.2.1 MX7_wise.2.2.1 MX7_wise.2.2.2 ∈ GW from gt_3 217 rfl rfl)⟩, ⟨by decide, by decide, by decide +kernel⟩, Nat.le_of_ble_eq_true rfl⟩
theorem cL_82 (M : MD) (h : M.1.cls = RL) : CV M 82 MX6_first 3 := ⟨⟨(by rw [h]; exact (gt_2 163 rfl rfl)), (gt_2 164 rfl rfl), (gt_2 165 rfl rfl), (gt_1 1 rfl rfl), (show Cond.code MX6_first.1 MX6_first.2.1 MX6_first.2.2.1 MX6_first.2.2.2 ∈ GW from gt_2 166 rfl rfl)⟩, ⟨by decide, by decide, by decide +kernel⟩, Nat.le_of_ble_eq_true rfl⟩
theorem cL_85 (M : MD) (h : M.1.cls = RL) : CV M 85 MX7_first 3 := ⟨⟨(by rw [h]; exact (gt_3 218 rfl rfl)), (gt_3 219 rfl rfl), (gt_3 220 rfl rfl), (gt_1 7 rfl rfl), (show Cond.code MX7_first.1 MX7_first.2.1 MX7_first.2.2.1 MX7_first.2.2.2 ∈ GW from gt_3 221 rfl rfl)⟩, ⟨by decide, by decide, by decide +kernel⟩, Nat.le_of_ble_eq_true rfl⟩
theorem cL_86 (M : MD) (h : M.1.cls = RL) : CV M 86 MX6_alone 3 := ⟨⟨(by rw [h]; exact (gt_2 180 rfl rfl)), (gt_2 181 rfl rfl), (gt_2 182 rfl rfl), (gt_1 1 rfl rfl), (show Cond.code MX6_alone.1 MX6_alone.2.1 MX6_alone.2.2.1 MX6_alone.2.2.2 ∈ GW from gt_2 183 rfl rfl)⟩, ⟨by decide, by decide, by decide +kernel⟩, Nat.le_of_ble_eq_true rfl⟩
theorem cL_90 (M : MD) (h : M.1.cls = RL) : CV M 90 MX7_alone 3 := ⟨⟨(by rw [h]; exact (gt_3 226 rfl rfl)), (gt_3 227 rfl rfl), (gt_3 228 rfl rfl), (gt_1 7 rfl rfl), (show Cond.code MX7_alone.1 MX7_alone.2.1 MX7_alone.2.2.1 MX7_alone.2.2.2 ∈ GW from gt_3 229 rfl rfl)⟩, ⟨by decide, by decide, by decide +kernel⟩, Nat.le_of_ble_eq_true rfl⟩
theorem cL_91 (M : MD) (h : M.1.cls = RL) : CV M 91 MX6_sheets 3 := ⟨⟨(by rw [h]; exact (gt_2 184 rfl rfl)), (gt_2 185 rfl rfl), (gt_2 186 rfl rfl), (gt_1 1 rfl rfl), (show Cond.code MX6_sheets.1 MX6_sheets.2.1 MX6_sheets.2.2.1 MX6_sheets.2.2.2 ∈ GW from gt_2 187 rfl rfl)⟩, ⟨by decide, by decide, by decide +kernel⟩, Nat.le_of_ble_eq_true rfl⟩
theorem cL_95 (M : MD) (h : M.1.cls = RL) : CV M 95 MX7_sheets 3 := ⟨⟨(by rw [h]; exact (gt_3 231 rfl rfl)), (gt_3 232 rfl rfl), (gt_3 233 rfl rfl), (gt_1 7 rfl rfl), (show Cond.code MX7_sheets.1 MX7_sheets.2.1 MX7_sheets.2.2.1 MX7_sheets.2.2.2 ∈ GW from gt_3 234 rfl rfl)⟩, ⟨by decide, by decide, by decide +kernel⟩, Nat.le_of_ble_eq_true rfl⟩
theorem cL_96 (M : MD) (h : M.1.cls = RL) : CV M 96 MX6_seed 1 := ⟨⟨(by rw [h]; exact (gt_2 206 rfl rfl)), (gt_2 207 rfl rfl), (gt_2 208 rfl rfl), (gt_1 1 rfl rfl), (show Cond.code MX6_seed.1 MX6_seed.2.1 MX6_seed.2.2.1 MX6_seed.2.2.2 ∈ GW from gt_2 209 rfl rfl)⟩, ⟨by decide, by decide, by decide +kernel⟩, Nat.le_of_ble_eq_true rfl⟩
theorem cL_100 (M : MD) (h : M.1.cls = RL) : CV M 100 MX7_seed 1 := ⟨⟨(by rw [h]; exact (gt_3 237 rfl rfl)), (gt_3 238 rfl rfl), (gt_3 239 rfl rfl), (gt_1 7 rfl rfl), (show Cond.code MX7_seed.1 MX7_seed.2.1 MX7_seed.2.2.1 MX7_seed.2.2.2 ∈ GW from gt_4 0 rfl rfl)⟩, ⟨by decide, by decide, by decide +kernel⟩, Nat.le_of_ble_eq_true rfl⟩
theorem cL_101 (M : MD) (h : M.1.cls = RL) : CV M 101 MX6_fair 0 := ⟨⟨(by rw [h]; exact (gt_2 210 rfl rfl)), (gt_2 211 rfl rfl), (gt_2 212 rfl rfl), (gt_1 1 rfl rfl), (show Cond.code MX6_fair.1 MX6_fair.2.1 MX6_fair.2.2.1 MX6_fair.2.2.2 ∈ GW from gt_2 213 rfl rfl)⟩, ⟨by decide, by decide, by decide +kernel⟩, Nat.le_of_ble_eq_true rfl⟩
theorem cL_104 (M : MD) (h : M.1.cls = RL) : CV M 104 MX7_fair 0 := ⟨⟨(by rw [h]; exact (gt_4 1 rfl rfl)), (gt_4 2 rfl rfl), (gt_4 3 rfl rfl), (gt_1 7 rfl rfl), (show Cond.code MX7_fair.1 MX7_fair.2.1 MX7_fair.2.2.1 MX7_fair.2.2.2 ∈ GW from gt_4 4 rfl rfl)⟩, ⟨by decide, by decide, by decide +kernel⟩, Nat.le_of_ble_eq_true rfl⟩
theorem cL_105 (M : MD) (h : M.1.cls = RL) : CV M 105 MX6_keep 1 := ⟨⟨(by rw [h]; exact (gt_2 227 rfl rfl)), (gt_2 228 rfl rfl), (gt_2 229 rfl rfl), (gt_1 1 rfl rfl), (show Cond.code MX6_keep.1 MX6_keep.2.1 MX6_keep.2.2.1 MX6_keep.2.2.2 ∈ GW from gt_2 230 rfl rfl)⟩, ⟨by decide, by decide, by decide +kernel⟩, Nat.le_of_ble_eq_true rfl⟩
theorem cL_108 (M : MD) (h : M.1.cls = RL) : CV M 108 MX7_keep 1 := ⟨⟨(by rw [h]; exact (gt_4 11 rfl rfl)), (gt_4 12 rfl rfl), (gt_4 13 rfl rfl), (gt_1 7 rfl rfl), (show Cond.code MX7_keep.1 MX7_keep.2.1 MX7_keep.2.2.1 MX7_keep.2.2.2 ∈ GW from gt_4 14 rfl rfl)⟩, ⟨by decide, by decide, by decide +kernel⟩, Nat.le_of_ble_eq_true rfl⟩
theorem cL_109 (M : MD) (h : M.1.cls = RL) : CV M 109 MX6_again 1 := ⟨⟨(by rw [h]; exact (gt_2 231 rfl rfl)), (gt_2 232 rfl rfl), (gt_2 233 rfl rfl), (gt_1 1 rfl rfl), (show Cond.code MX6_again.1 MX6_again.2.1 MX6_again.2.2.1 MX6_again.2.2.2 ∈ GW from gt_2 234 rfl rfl)⟩, ⟨by decide, by decide, by decide +kernel⟩, Nat.le_of_ble_eq_true rfl⟩
theorem cL_112 (M : MD) (h : M.1.cls = RL) : CV M 112 MX7_again 1 := ⟨⟨(by rw [h]; exact (gt_4 15 rfl rfl)), (gt_4 16 rfl rfl), (gt_4 17 rfl rfl), (gt_1 7 rfl rfl), (show Cond.code MX7_again.1 MX7_again.2.1 MX7_again.2.2.1 MX7_again.2.2.2 ∈ GW from gt_4 18 rfl rfl)⟩, ⟨by decide, by decide, by decide +kernel⟩, Nat.le_of_ble_eq_true rfl⟩
theorem cL_113 (M : MD) (h : M.1.cls = RL) : CV M 113 MX6_count 1 := ⟨⟨(by rw [h]; exact (gt_2 235 rfl rfl)), (gt_2 236 rfl rfl), (gt_2 237 rfl rfl), (gt_1 1 rfl rfl), (show Cond.code MX6_count.1 MX6_count.2.1 MX6_count.2.2.1 MX6_count.2.2.2 ∈ GW from gt_2 238 rfl rfl)⟩, ⟨by decide, by decide, by decide +kernel⟩, Nat.le_of_ble_eq_true rfl⟩
theorem cL_116 (M : MD) (h : M.1.cls = RL) : CV M 116 MX7_count 1 := ⟨⟨(by rw [h]; exact (gt_4 19 rfl rfl)), (gt_4 20 rfl rfl), (gt_4 21 rfl rfl), (gt_1 7 rfl rfl), (show Cond.code MX7_count.1 MX7_count.2.1 MX7_count.2.2.1 MX7_count.2.2.2 ∈ GW from gt_4 22 rfl rfl)⟩, ⟨by decide, by decide, by decide +kernel⟩, Nat.le_of_ble_eq_true rfl⟩
end
section
theorem iX0_init_0 : LdA MX0_init 0 0 1 := Or.inr ⟨0, rfl, by decide +kernel, rfl⟩
theorem iX0_init_1 : Ins MX0_init 1 (.invokespecial 3) 3 4 := ⟨by decide +kernel, rfl⟩
theorem iX0_init_4 : LdA MX0_init 4 0 5 := Or.inr ⟨0, rfl, by decide +kernel, rfl⟩
theorem iX0_init_5 : Ins MX0_init 5 (.bipush 16) 2 7 := ⟨by decide +kernel, rfl⟩
theorem iX0_init_7 : Ins MX0_init 7 (.anewarray 9) 3 10 := ⟨by decide +kernel, rfl⟩
theorem iX0_init_10 : Ins MX0_init 10 (.putfield 11) 3 13 := ⟨by decide +kernel, rfl⟩
theorem iX0_init_13 : Ins MX0_init 13 (.iconst 0) 1 14 := ⟨by decide +kernel, rfl⟩
theorem iX0_init_14 : StI MX0_init 14 1 15 := ⟨Or.inr ⟨1, rfl, by decide +kernel, rfl⟩, Nat.le_of_ble_eq_true rfl⟩
theorem iX0_init_15 : LdI MX0_init 15 1 16 := Or.inr ⟨1, rfl, by decide +kernel, rfl⟩
theorem iX0_init_16 : Ins MX0_init 16 (.bipush 16) 2 18 := ⟨by decide +kernel, rfl⟩
theorem iX0_init_18 : Jmp MX0_init 18 (.if_icmp .ge) 40 21 := ⟨22, ⟨by decide +kernel, rfl⟩, by decide⟩
theorem iX0_init_21 : LdA MX0_init 21 0 22 := Or.inr ⟨0, rfl, by decide +kernel, rfl⟩
theorem iX0_init_22 : Ins MX0_init 22 (.getfield 11) 3 25 := ⟨by decide +kernel, rfl⟩
theorem iX0_init_25 : LdI MX0_init 25 1 26 := Or.inr ⟨1, rfl, by decide +kernel, rfl⟩
theorem iX0_init_26 : Ins MX0_init 26 (.new 9) 3 29 := ⟨by decide +kernel, rfl⟩
theorem iX0_init_29 : Ins MX0_init 29 (.dup) 1 30 := ⟨by decide +kernel, rfl⟩
theorem iX0_init_30 : Ins MX0_init 30 (.invokespecial 17) 3 33 := ⟨by decide +kernel, rfl⟩
theorem iX0_init_33 : Ins MX0_init 33 (.aastore) 1 34 := ⟨by decide +kernel, rfl⟩
theorem iX0_init_34 : Inc MX0_init 34 1 (1) 37 := ⟨⟨by decide +kernel, rfl⟩, Nat.le_of_ble_eq_true rfl⟩
theorem iX0_init_37 : Jmp MX0_init 37 .goto 15 40 := ⟨-22, ⟨by decide +kernel, rfl⟩, by decide⟩
theorem iX0_init_40 : LdA MX0_init 40 0 41 := Or.inr ⟨0, rfl, by decide +kernel, rfl⟩
theorem iX0_init_41 : Ins MX0_init 41 (.iconst 0) 1 42 := ⟨by decide +kernel, rfl⟩
theorem iX0_init_42 : Ins MX0_init 42 (.putfield 18) 3 45 := ⟨by decide +kernel, rfl⟩
theorem iX0_init_45 : LdA MX0_init 45 0 46 := Or.inr ⟨0, rfl, by decide +kernel, rfl⟩
theorem iX0_init_46 : Ins MX0_init 46 (.iconst 0) 1 47 := ⟨by decide +kernel, rfl⟩
theorem iX0_init_47 : Ins MX0_init 47 (.putfield 22) 3 50 := ⟨by decide +kernel, rfl⟩
theorem iX0_init_50 : Ins MX0_init 50 (.return_) 1 51 := ⟨by decide +kernel, rfl⟩
theorem iX0_forget_0 : LdA MX0_forget 0 0 1 := Or.inr ⟨0, rfl, by decide +kernel, rfl⟩
theorem iX0_forget_1 : Ins MX0_forget 1 (.iconst 0) 1 2 := ⟨by decide +kernel, rfl⟩
theorem iX0_forget_2 : Ins MX0_forget 2 (.putfield 18) 3 5 := ⟨by decide +kernel, rfl⟩
theorem iX0_forget_5 : LdA MX0_forget 5 0 6 := Or.inr ⟨0, rfl, by decide +kernel, rfl⟩
theorem iX0_forget_6 : Ins MX0_forget 6 (.iconst 0) 1 7 := ⟨by decide +kernel, rfl⟩
theorem iX0_forget_7 : Ins MX0_forget 7 (.putfield 22) 3 10 := ⟨by decide +kernel, rfl⟩
theorem iX0_forget_10 : Ins MX0_forget 10 (.return_) 1 11 := ⟨by decide +kernel, rfl⟩
theorem iX0_remember_0 : LdA MX0_remember 0 0 1 := Or.inr ⟨0, rfl, by decide +kernel, rfl⟩
theorem iX0_remember_1 : Ins MX0_remember 1 (.getfield 11) 3 4 := ⟨by decide +kernel, rfl⟩
theorem iX0_remember_4 : LdA MX0_remember 4 0 5 := Or.inr ⟨0, rfl, by decide +kernel, rfl⟩
theorem iX0_remember_5 : Ins MX0_remember 5 (.getfield 22) 3 8 := ⟨by decide +kernel, rfl⟩
theorem iX0_remember_8 : Ins MX0_remember 8 (.aaload) 1 9 := ⟨by decide +kernel, rfl⟩
theorem iX0_remember_9 : LdA MX0_remember 9 1 10 := Or.inr ⟨1, rfl, by decide +kernel, rfl⟩
theorem iX0_remember_10 : Ins MX0_remember 10 (.invokevirtual 25) 3 13 := ⟨by decide +kernel, rfl⟩
theorem iX0_remember_13 : LdA MX0_remember 13 0 14 := Or.inr ⟨0, rfl, by decide +kernel, rfl⟩
theorem iX0_remember_14 : LdA MX0_remember 14 0 15 := Or.inr ⟨0, rfl, by decide +kernel, rfl⟩
theorem iX0_remember_15 : Ins MX0_remember 15 (.getfield 22) 3 18 := ⟨by decide +kernel, rfl⟩
theorem iX0_remember_18 : Ins MX0_remember 18 (.iconst 1) 1 19 := ⟨by decide +kernel, rfl⟩
theorem iX0_remember_19 : Ins MX0_remember 19 (.iadd) 1 20 := ⟨by decide +kernel, rfl⟩
theorem iX0_remember_20 : Ins MX0_remember 20 (.bipush 16) 2 22 := ⟨by decide +kernel, rfl⟩
theorem iX0_remember_22 : Jmp MX0_remember 22 (.if_icmp .ge) 34 25 := ⟨12, ⟨by decide +kernel, rfl⟩, by decide⟩
theorem iX0_remember_25 : LdA MX0_remember 25 0 26 := Or.inr ⟨0, rfl, by decide +kernel, rfl⟩
theorem iX0_remember_26 : Ins MX0_remember 26 (.getfield 22) 3 29 := ⟨by decide +kernel, rfl⟩
theorem iX0_remember_29 : Ins MX0_remember 29 (.iconst 1) 1 30 := ⟨by decide +kernel, rfl⟩
theorem iX0_remember_30 : Ins MX0_remember 30 (.iadd) 1 31 := ⟨by decide +kernel, rfl⟩
theorem iX0_remember_31 : Jmp MX0_remember 31 .goto 35 34 := ⟨4, ⟨by decide +kernel, rfl⟩, by decide⟩
theorem iX0_remember_34 : Ins MX0_remember 34 (.iconst 0) 1 35 := ⟨by decide +kernel, rfl⟩
theorem iX0_remember_35 : Ins MX0_remember 35 (.putfield 22) 3 38 := ⟨by decide +kernel, rfl⟩
theorem iX0_remember_38 : LdA MX0_remember 38 0 39 := Or.inr ⟨0, rfl, by decide +kernel, rfl⟩
theorem iX0_remember_39 : Ins MX0_remember 39 (.getfield 18) 3 42 := ⟨by decide +kernel, rfl⟩
theorem iX0_remember_42 : Ins MX0_remember 42 (.bipush 16) 2 44 := ⟨by decide +kernel, rfl⟩
theorem iX0_remember_44 : Jmp MX0_remember 44 (.if_icmp .ge) 57 47 := ⟨13, ⟨by decide +kernel, rfl⟩, by decide⟩
theorem iX0_remember_47 : LdA MX0_remember 47 0 48 := Or.inr ⟨0, rfl, by decide +kernel, rfl⟩
theorem iX0_remember_48 : Ins MX0_remember 48 (.dup) 1 49 := ⟨by decide +kernel, rfl⟩
theorem iX0_remember_49 : Ins MX0_remember 49 (.getfield 18) 3 52 := ⟨by decide +kernel, rfl⟩
theorem iX0_remember_52 : Ins MX0_remember 52 (.iconst 1) 1 53 := ⟨by decide +kernel, rfl⟩
theorem iX0_remember_53 : Ins MX0_remember 53 (.iadd) 1 54 := ⟨by decide +kernel, rfl⟩
theorem iX0_remember_54 : Ins MX0_remember 54 (.putfield 18) 3 57 := ⟨by decide +kernel, rfl⟩
theorem iX0_remember_57 : Ins MX0_remember 57 (.return_) 1 58 := ⟨by decide +kernel, rfl⟩
theorem iX0_takeBack_0 : LdA MX0_takeBack 0 0 1 := Or.inr ⟨0, rfl, by decide +kernel, rfl⟩
theorem iX0_takeBack_1 : LdA MX0_takeBack 1 0 2 := Or.inr ⟨0, rfl, by decide +kernel, rfl⟩
theorem iX0_takeBack_2 : Ins MX0_takeBack 2 (.getfield 22) 3 5 := ⟨by decide +kernel, rfl⟩
theorem iX0_takeBack_5 : Jmp MX0_takeBack 5 (.ifCond .le) 17 8 := ⟨12, ⟨by decide +kernel, rfl⟩, by decide⟩
theorem iX0_takeBack_8 : LdA MX0_takeBack 8 0 9 := Or.inr ⟨0, rfl, by decide +kernel, rfl⟩
theorem iX0_takeBack_9 : Ins MX0_takeBack 9 (.getfield 22) 3 12 := ⟨by decide +kernel, rfl⟩
theorem iX0_takeBack_12 : Ins MX0_takeBack 12 (.iconst 1) 1 13 := ⟨by decide +kernel, rfl⟩
theorem iX0_takeBack_13 : Ins MX0_takeBack 13 (.isub) 1 14 := ⟨by decide +kernel, rfl⟩
theorem iX0_takeBack_14 : Jmp MX0_takeBack 14 .goto 19 17 := ⟨5, ⟨by decide +kernel, rfl⟩, by decide⟩
theorem iX0_takeBack_17 : Ins MX0_takeBack 17 (.bipush 15) 2 19 := ⟨by decide +kernel, rfl⟩
theorem iX0_takeBack_19 : Ins MX0_takeBack 19 (.putfield 22) 3 22 := ⟨by decide +kernel, rfl⟩
theorem iX0_takeBack_22 : LdA MX0_takeBack 22 1 23 := Or.inr ⟨1, rfl, by decide +kernel, rfl⟩
theorem iX0_takeBack_23 : LdA MX0_takeBack 23 0 24 := Or.inr ⟨0, rfl, by decide +kernel, rfl⟩
theorem iX0_takeBack_24 : Ins MX0_takeBack 24 (.getfield 11) 3 27 := ⟨by decide +kernel, rfl⟩
theorem iX0_takeBack_27 : LdA MX0_takeBack 27 0 28 := Or.inr ⟨0, rfl, by decide +kernel, rfl⟩
theorem iX0_takeBack_28 : Ins MX0_takeBack 28 (.getfield 22) 3 31 := ⟨by decide +kernel, rfl⟩
theorem iX0_takeBack_31 : Ins MX0_takeBack 31 (.aaload) 1 32 := ⟨by decide +kernel, rfl⟩
theorem iX0_takeBack_32 : Ins MX0_takeBack 32 (.invokevirtual 25) 3 35 := ⟨by decide +kernel, rfl⟩
theorem iX0_takeBack_35 : LdA MX0_takeBack 35 0 36 := Or.inr ⟨0, rfl, by decide +kernel, rfl⟩
theorem iX0_takeBack_36 : Ins MX0_takeBack 36 (.dup) 1 37 := ⟨by decide +kernel, rfl⟩
theorem iX0_takeBack_37 : Ins MX0_takeBack 37 (.getfield 18) 3 40 := ⟨by decide +kernel, rfl⟩
theorem iX0_takeBack_40 : Ins MX0_takeBack 40 (.iconst 1) 1 41 := ⟨by decide +kernel, rfl⟩
theorem iX0_takeBack_41 : Ins MX0_takeBack 41 (.isub) 1 42 := ⟨by decide +kernel, rfl⟩
theorem iX0_takeBack_42 : Ins MX0_takeBack 42 (.putfield 18) 3 45 := ⟨by decide +kernel, rfl⟩
theorem iX0_takeBack_45 : Ins MX0_takeBack 45 (.return_) 1 46 := ⟨by decide +kernel, rfl⟩
theorem iX1_wholeOf_0 : Ins MX1_wholeOf 0 (.lconst 1) 1 1 := ⟨by decide +kernel, rfl⟩
theorem iX1_wholeOf_1 : StL MX1_wholeOf 1 1 2 := ⟨Or.inr ⟨1, rfl, by decide +kernel, rfl⟩, Nat.le_of_ble_eq_true rfl⟩
theorem iX1_wholeOf_2 : LdA MX1_wholeOf 2 0 3 := Or.inr ⟨0, rfl, by decide +kernel, rfl⟩
theorem iX1_wholeOf_3 : Ins MX1_wholeOf 3 (.getfield 9) 3 6 := ⟨by decide +kernel, rfl⟩
theorem iX1_wholeOf_6 : StI MX1_wholeOf 6 3 7 := ⟨Or.inr ⟨3, rfl, by decide +kernel, rfl⟩, Nat.le_of_ble_eq_true rfl⟩
theorem iX1_wholeOf_7 : LdI MX1_wholeOf 7 3 8 := Or.inr ⟨3, rfl, by decide +kernel, rfl⟩
theorem iX1_wholeOf_8 : Ins MX1_wholeOf 8 (.iconst 3) 1 9 := ⟨by decide +kernel, rfl⟩
theorem iX1_wholeOf_9 : Jmp MX1_wholeOf 9 (.if_icmp .ge) 24 12 := ⟨15, ⟨by decide +kernel, rfl⟩, by decide⟩
theorem iX1_wholeOf_12 : LdL MX1_wholeOf 12 1 13 := Or.inr ⟨1, rfl, by decide +kernel, rfl⟩
theorem iX1_wholeOf_13 : Ins MX1_wholeOf 13 (.ldc2_w 15) 3 16 := ⟨by decide +kernel, rfl⟩
theorem iX1_wholeOf_16 : Ins MX1_wholeOf 16 (.lmul) 1 17 := ⟨by decide +kernel, rfl⟩
theorem iX1_wholeOf_17 : StL MX1_wholeOf 17 1 18 := ⟨Or.inr ⟨1, rfl, by decide +kernel, rfl⟩, Nat.le_of_ble_eq_true rfl⟩
theorem iX1_wholeOf_18 : Inc MX1_wholeOf 18 3 (1) 21 := ⟨⟨by decide +kernel, rfl⟩, Nat.le_of_ble_eq_true rfl⟩
theorem iX1_wholeOf_21 : Jmp MX1_wholeOf 21 .goto 7 24 := ⟨-14, ⟨by decide +kernel, rfl⟩, by decide⟩
theorem iX1_wholeOf_24 : LdL MX1_wholeOf 24 1 25 := Or.inr ⟨1, rfl, by decide +kernel, rfl⟩
theorem iX1_wholeOf_25 : Ins MX1_wholeOf 25 (.lreturn) 1 26 := ⟨by decide +kernel, rfl⟩
theorem iX1_failing_0 : Ins MX1_failing 0 (.lconst 1) 1 1 := ⟨by decide +kernel, rfl⟩
theorem iX1_failing_1 : StL MX1_failing 1 2 2 := ⟨Or.inr ⟨2, rfl, by decide +kernel, rfl⟩, Nat.le_of_ble_eq_true rfl⟩
theorem iX1_failing_2 : Ins MX1_failing 2 (.iconst 0) 1 3 := ⟨by decide +kernel, rfl⟩
theorem iX1_failing_3 : StI MX1_failing 3 4 5 := ⟨Or.inl ⟨by decide +kernel, rfl⟩, Nat.le_of_ble_eq_true rfl⟩
theorem iX1_failing_5 : LdA MX1_failing 5 0 6 := Or.inr ⟨0, rfl, by decide +kernel, rfl⟩
theorem iX1_failing_6 : Ins MX1_failing 6 (.getfield 9) 3 9 := ⟨by decide +kernel, rfl⟩
theorem iX1_failing_9 : StI MX1_failing 9 5 11 := ⟨Or.inl ⟨by decide +kernel, rfl⟩, Nat.le_of_ble_eq_true rfl⟩
theorem iX1_failing_11 : LdI MX1_failing 11 5 13 := Or.inl ⟨by decide +kernel, rfl⟩
theorem iX1_failing_13 : Ins MX1_failing 13 (.iconst 3) 1 14 := ⟨by decide +kernel, rfl⟩
theorem iX1_failing_14 : Jmp MX1_failing 14 (.if_icmp .ge) 40 17 := ⟨26, ⟨by decide +kernel, rfl⟩, by decide⟩
theorem iX1_failing_17 : LdL MX1_failing 17 2 18 := Or.inr ⟨2, rfl, by decide +kernel, rfl⟩
theorem iX1_failing_18 : Ins MX1_failing 18 (.bipush 10) 2 20 := ⟨by decide +kernel, rfl⟩
theorem iX1_failing_20 : LdA MX1_failing 20 0 21 := Or.inr ⟨0, rfl, by decide +kernel, rfl⟩
theorem iX1_failing_21 : LdI MX1_failing 21 1 22 := Or.inr ⟨1, rfl, by decide +kernel, rfl⟩
theorem iX1_failing_22 : LdI MX1_failing 22 4 24 := Or.inl ⟨by decide +kernel, rfl⟩
theorem iX1_failing_24 : Ins MX1_failing 24 (.invokevirtual 17) 3 27 := ⟨by decide +kernel, rfl⟩
theorem iX1_failing_27 : Ins MX1_failing 27 (.isub) 1 28 := ⟨by decide +kernel, rfl⟩
theorem iX1_failing_28 : Ins MX1_failing 28 (.i2l) 1 29 := ⟨by decide +kernel, rfl⟩
theorem iX1_failing_29 : Ins MX1_failing 29 (.lmul) 1 30 := ⟨by decide +kernel, rfl⟩
theorem iX1_failing_30 : StL MX1_failing 30 2 31 := ⟨Or.inr ⟨2, rfl, by decide +kernel, rfl⟩, Nat.le_of_ble_eq_true rfl⟩
theorem iX1_failing_31 : Inc MX1_failing 31 4 (1) 34 := ⟨⟨by decide +kernel, rfl⟩, Nat.le_of_ble_eq_true rfl⟩
theorem iX1_failing_34 : Inc MX1_failing 34 5 (1) 37 := ⟨⟨by decide +kernel, rfl⟩, Nat.le_of_ble_eq_true rfl⟩
theorem iX1_failing_37 : Jmp MX1_failing 37 .goto 11 40 := ⟨-26, ⟨by decide +kernel, rfl⟩, by decide⟩
theorem iX1_failing_40 : LdL MX1_failing 40 2 41 := Or.inr ⟨2, rfl, by decide +kernel, rfl⟩
theorem iX1_failing_41 : Ins MX1_failing 41 (.lreturn) 1 42 := ⟨by decide +kernel, rfl⟩
theorem iX1_greatest_0 : LdI MX1_greatest 0 3 1 := Or.inr ⟨3, rfl, by decide +kernel, rfl⟩
theorem iX1_greatest_1 : LdI MX1_greatest 1 2 2 := Or.inr ⟨2, rfl, by decide +kernel, rfl⟩
theorem iX1_greatest_2 : Jmp MX1_greatest 2 (.if_icmp .ge) 18 5 := ⟨16, ⟨by decide +kernel, rfl⟩, by decide⟩
theorem iX1_greatest_5 : LdI MX1_greatest 5 4 7 := Or.inl ⟨by decide +kernel, rfl⟩
theorem iX1_greatest_7 : Ins MX1_greatest 7 (.iconst 3) 1 8 := ⟨by decide +kernel, rfl⟩
theorem iX1_greatest_8 : Jmp MX1_greatest 8 (.if_icmp .ge) 18 11 := ⟨10, ⟨by decide +kernel, rfl⟩, by decide⟩
theorem iX1_greatest_11 : LdI MX1_greatest 11 5 13 := Or.inl ⟨by decide +kernel, rfl⟩
theorem iX1_greatest_13 : Ins MX1_greatest 13 (.bipush 12) 2 15 := ⟨by decide +kernel, rfl⟩
theorem iX1_greatest_15 : Jmp MX1_greatest 15 (.if_icmp .lt) 28 18 := ⟨13, ⟨by decide +kernel, rfl⟩, by decide⟩
theorem iX1_greatest_18 : LdI MX1_greatest 18 6 20 := Or.inl ⟨by decide +kernel, rfl⟩
theorem iX1_greatest_20 : Ins MX1_greatest 20 (.i2l) 1 21 := ⟨by decide +kernel, rfl⟩
theorem iX1_greatest_21 : LdI MX1_greatest 21 5 23 := Or.inl ⟨by decide +kernel, rfl⟩
theorem iX1_greatest_23 : Ins MX1_greatest 23 (.invokestatic 21) 3 26 := ⟨by decide +kernel, rfl⟩
theorem iX1_greatest_26 : Ins MX1_greatest 26 (.lmul) 1 27 := ⟨by decide +kernel, rfl⟩
theorem iX1_greatest_27 : Ins MX1_greatest 27 (.lreturn) 1 28 := ⟨by decide +kernel, rfl⟩
theorem iX1_greatest_28 : LdA MX1_greatest 28 0 29 := Or.inr ⟨0, rfl, by decide +kernel, rfl⟩
theorem iX1_greatest_29 : LdI MX1_greatest 29 1 30 := Or.inr ⟨1, rfl, by decide +kernel, rfl⟩
theorem iX1_greatest_30 : LdI MX1_greatest 30 2 31 := Or.inr ⟨2, rfl, by decide +kernel, rfl⟩
theorem iX1_greatest_31 : LdI MX1_greatest 31 3 32 := Or.inr ⟨3, rfl, by decide +kernel, rfl⟩
theorem iX1_greatest_32 : LdI MX1_greatest 32 4 34 := Or.inl ⟨by decide +kernel, rfl⟩
theorem iX1_greatest_34 : LdI MX1_greatest 34 5 36 := Or.inl ⟨by decide +kernel, rfl⟩
theorem iX1_greatest_36 : LdI MX1_greatest 36 6 38 := Or.inl ⟨by decide +kernel, rfl⟩
theorem iX1_greatest_38 : Ins MX1_greatest 38 (.invokestatic 27) 3 41 := ⟨by decide +kernel, rfl⟩
theorem iX1_greatest_41 : StL MX1_greatest 41 7 43 := ⟨Or.inl ⟨by decide +kernel, rfl⟩, Nat.le_of_ble_eq_true rfl⟩
theorem iX1_greatest_43 : LdL MX1_greatest 43 7 45 := Or.inl ⟨by decide +kernel, rfl⟩
theorem iX1_greatest_45 : LdA MX1_greatest 45 0 46 := Or.inr ⟨0, rfl, by decide +kernel, rfl⟩
theorem iX1_greatest_46 : LdI MX1_greatest 46 1 47 := Or.inr ⟨1, rfl, by decide +kernel, rfl⟩
theorem iX1_greatest_47 : LdI MX1_greatest 47 2 48 := Or.inr ⟨2, rfl, by decide +kernel, rfl⟩
theorem iX1_greatest_48 : LdI MX1_greatest 48 3 49 := Or.inr ⟨3, rfl, by decide +kernel, rfl⟩
theorem iX1_greatest_49 : LdI MX1_greatest 49 4 51 := Or.inl ⟨by decide +kernel, rfl⟩
theorem iX1_greatest_51 : LdI MX1_greatest 51 5 53 := Or.inl ⟨by decide +kernel, rfl⟩
theorem iX1_greatest_53 : LdI MX1_greatest 53 6 55 := Or.inl ⟨by decide +kernel, rfl⟩
theorem iX1_greatest_55 : Ins MX1_greatest 55 (.invokestatic 31) 3 58 := ⟨by decide +kernel, rfl⟩
theorem iX1_greatest_58 : Ins MX1_greatest 58 (.invokestatic 34) 3 61 := ⟨by decide +kernel, rfl⟩
theorem iX1_greatest_61 : Ins MX1_greatest 61 (.lreturn) 1 62 := ⟨by decide +kernel, rfl⟩
theorem iX1_byTrying_0 : LdI MX1_byTrying 0 5 2 := Or.inl ⟨by decide +kernel, rfl⟩
theorem iX1_byTrying_2 : Ins MX1_byTrying 2 (.bipush 12) 2 4 := ⟨by decide +kernel, rfl⟩
theorem iX1_byTrying_4 : Jmp MX1_byTrying 4 (.if_icmp .lt) 9 7 := ⟨5, ⟨by decide +kernel, rfl⟩, by decide⟩
theorem iX1_byTrying_7 : Ins MX1_byTrying 7 (.lconst 0) 1 8 := ⟨by decide +kernel, rfl⟩
theorem iX1_byTrying_8 : Ins MX1_byTrying 8 (.lreturn) 1 9 := ⟨by decide +kernel, rfl⟩
theorem iX1_byTrying_9 : LdA MX1_byTrying 9 0 10 := Or.inr ⟨0, rfl, by decide +kernel, rfl⟩
theorem iX1_byTrying_10 : LdI MX1_byTrying 10 1 11 := Or.inr ⟨1, rfl, by decide +kernel, rfl⟩
theorem iX1_byTrying_11 : LdI MX1_byTrying 11 3 12 := Or.inr ⟨3, rfl, by decide +kernel, rfl⟩
theorem iX1_byTrying_12 : Ins MX1_byTrying 12 (.iadd) 1 13 := ⟨by decide +kernel, rfl⟩
theorem iX1_byTrying_13 : LdI MX1_byTrying 13 5 15 := Or.inl ⟨by decide +kernel, rfl⟩
theorem iX1_byTrying_15 : Ins MX1_byTrying 15 (.invokevirtual 17) 3 18 := ⟨by decide +kernel, rfl⟩
theorem iX1_byTrying_18 : StI MX1_byTrying 18 7 20 := ⟨Or.inl ⟨by decide +kernel, rfl⟩, Nat.le_of_ble_eq_true rfl⟩
theorem iX1_byTrying_20 : LdA MX1_byTrying 20 0 21 := Or.inr ⟨0, rfl, by decide +kernel, rfl⟩
theorem iX1_byTrying_21 : LdI MX1_byTrying 21 1 22 := Or.inr ⟨1, rfl, by decide +kernel, rfl⟩
theorem iX1_byTrying_22 : LdI MX1_byTrying 22 2 23 := Or.inr ⟨2, rfl, by decide +kernel, rfl⟩
theorem iX1_byTrying_23 : LdI MX1_byTrying 23 3 24 := Or.inr ⟨3, rfl, by decide +kernel, rfl⟩
theorem iX1_byTrying_24 : Ins MX1_byTrying 24 (.iconst 1) 1 25 := ⟨by decide +kernel, rfl⟩
theorem iX1_byTrying_25 : Ins MX1_byTrying 25 (.iadd) 1 26 := ⟨by decide +kernel, rfl⟩
theorem iX1_byTrying_26 : Ins MX1_byTrying 26 (.iconst 0) 1 27 := ⟨by decide +kernel, rfl⟩
theorem iX1_byTrying_27 : LdI MX1_byTrying 27 5 29 := Or.inl ⟨by decide +kernel, rfl⟩
theorem iX1_byTrying_29 : Ins MX1_byTrying 29 (.iconst 1) 1 30 := ⟨by decide +kernel, rfl⟩
theorem iX1_byTrying_30 : Ins MX1_byTrying 30 (.iadd) 1 31 := ⟨by decide +kernel, rfl⟩
theorem iX1_byTrying_31 : LdI MX1_byTrying 31 3 32 := Or.inr ⟨3, rfl, by decide +kernel, rfl⟩
theorem iX1_byTrying_32 : Ins MX1_byTrying 32 (.iconst 1) 1 33 := ⟨by decide +kernel, rfl⟩
theorem iX1_byTrying_33 : Ins MX1_byTrying 33 (.iadd) 1 34 := ⟨by decide +kernel, rfl⟩
theorem iX1_byTrying_34 : Ins MX1_byTrying 34 (.invokestatic 40) 3 37 := ⟨by decide +kernel, rfl⟩
theorem iX1_byTrying_37 : StL MX1_byTrying 37 8 39 := ⟨Or.inl ⟨by decide +kernel, rfl⟩, Nat.le_of_ble_eq_true rfl⟩
theorem iX1_byTrying_39 : LdA MX1_byTrying 39 0 40 := Or.inr ⟨0, rfl, by decide +kernel, rfl⟩
theorem iX1_byTrying_40 : LdI MX1_byTrying 40 1 41 := Or.inr ⟨1, rfl, by decide +kernel, rfl⟩
theorem iX1_byTrying_41 : LdI MX1_byTrying 41 2 42 := Or.inr ⟨2, rfl, by decide +kernel, rfl⟩
theorem iX1_byTrying_42 : LdI MX1_byTrying 42 3 43 := Or.inr ⟨3, rfl, by decide +kernel, rfl⟩
theorem iX1_byTrying_43 : LdI MX1_byTrying 43 4 45 := Or.inl ⟨by decide +kernel, rfl⟩
theorem iX1_byTrying_45 : Ins MX1_byTrying 45 (.iconst 1) 1 46 := ⟨by decide +kernel, rfl⟩
theorem iX1_byTrying_46 : Ins MX1_byTrying 46 (.iadd) 1 47 := ⟨by decide +kernel, rfl⟩
theorem iX1_byTrying_47 : LdI MX1_byTrying 47 5 49 := Or.inl ⟨by decide +kernel, rfl⟩
theorem iX1_byTrying_49 : Ins MX1_byTrying 49 (.iconst 1) 1 50 := ⟨by decide +kernel, rfl⟩
theorem iX1_byTrying_50 : Ins MX1_byTrying 50 (.iadd) 1 51 := ⟨by decide +kernel, rfl⟩
theorem iX1_byTrying_51 : LdI MX1_byTrying 51 6 53 := Or.inl ⟨by decide +kernel, rfl⟩
theorem iX1_byTrying_53 : Ins MX1_byTrying 53 (.invokestatic 40) 3 56 := ⟨by decide +kernel, rfl⟩
theorem iX1_byTrying_56 : StL MX1_byTrying 56 10 58 := ⟨Or.inl ⟨by decide +kernel, rfl⟩, Nat.le_of_ble_eq_true rfl⟩
theorem iX1_byTrying_58 : LdI MX1_byTrying 58 7 60 := Or.inl ⟨by decide +kernel, rfl⟩
theorem iX1_byTrying_60 : Ins MX1_byTrying 60 (.i2l) 1 61 := ⟨by decide +kernel, rfl⟩
theorem iX1_byTrying_61 : LdL MX1_byTrying 61 8 63 := Or.inl ⟨by decide +kernel, rfl⟩
theorem iX1_byTrying_63 : Ins MX1_byTrying 63 (.lmul) 1 64 := ⟨by decide +kernel, rfl⟩
theorem iX1_byTrying_64 : Ins MX1_byTrying 64 (.bipush 10) 2 66 := ⟨by decide +kernel, rfl⟩
theorem iX1_byTrying_66 : LdI MX1_byTrying 66 7 68 := Or.inl ⟨by decide +kernel, rfl⟩
theorem iX1_byTrying_68 : Ins MX1_byTrying 68 (.isub) 1 69 := ⟨by decide +kernel, rfl⟩
theorem iX1_byTrying_69 : Ins MX1_byTrying 69 (.i2l) 1 70 := ⟨by decide +kernel, rfl⟩
theorem iX1_byTrying_70 : LdL MX1_byTrying 70 10 72 := Or.inl ⟨by decide +kernel, rfl⟩
theorem iX1_byTrying_72 : Ins MX1_byTrying 72 (.lmul) 1 73 := ⟨by decide +kernel, rfl⟩
theorem iX1_byTrying_73 : Ins MX1_byTrying 73 (.ladd) 1 74 := ⟨by decide +kernel, rfl⟩
theorem iX1_byTrying_74 : Ins MX1_byTrying 74 (.lreturn) 1 75 := ⟨by decide +kernel, rfl⟩
theorem iX1_bySparing_0 : LdI MX1_bySparing 0 3 1 := Or.inr ⟨3, rfl, by decide +kernel, rfl⟩
theorem iX1_bySparing_1 : LdI MX1_bySparing 1 2 2 := Or.inr ⟨2, rfl, by decide +kernel, rfl⟩
theorem iX1_bySparing_2 : Jmp MX1_bySparing 2 (.if_icmp .lt) 7 5 := ⟨5, ⟨by decide +kernel, rfl⟩, by decide⟩
theorem iX1_bySparing_5 : Ins MX1_bySparing 5 (.lconst 0) 1 6 := ⟨by decide +kernel, rfl⟩
theorem iX1_bySparing_6 : Ins MX1_bySparing 6 (.lreturn) 1 7 := ⟨by decide +kernel, rfl⟩
theorem iX1_bySparing_7 : LdA MX1_bySparing 7 0 8 := Or.inr ⟨0, rfl, by decide +kernel, rfl⟩
theorem iX1_bySparing_8 : LdI MX1_bySparing 8 1 9 := Or.inr ⟨1, rfl, by decide +kernel, rfl⟩
theorem iX1_bySparing_9 : LdI MX1_bySparing 9 2 10 := Or.inr ⟨2, rfl, by decide +kernel, rfl⟩
theorem iX1_bySparing_10 : LdI MX1_bySparing 10 3 11 := Or.inr ⟨3, rfl, by decide +kernel, rfl⟩
theorem iX1_bySparing_11 : Ins MX1_bySparing 11 (.iconst 1) 1 12 := ⟨by decide +kernel, rfl⟩
theorem iX1_bySparing_12 : Ins MX1_bySparing 12 (.iadd) 1 13 := ⟨by decide +kernel, rfl⟩
theorem iX1_bySparing_13 : LdI MX1_bySparing 13 4 15 := Or.inl ⟨by decide +kernel, rfl⟩
theorem iX1_bySparing_15 : LdI MX1_bySparing 15 5 17 := Or.inl ⟨by decide +kernel, rfl⟩
theorem iX1_bySparing_17 : LdI MX1_bySparing 17 6 19 := Or.inl ⟨by decide +kernel, rfl⟩
theorem iX1_bySparing_19 : Ins MX1_bySparing 19 (.invokestatic 40) 3 22 := ⟨by decide +kernel, rfl⟩
theorem iX1_bySparing_22 : Ins MX1_bySparing 22 (.lreturn) 1 23 := ⟨by decide +kernel, rfl⟩
theorem iX1_unbeaten_0 : LdI MX1_unbeaten 0 5 2 := Or.inl ⟨by decide +kernel, rfl⟩
theorem iX1_unbeaten_2 : Jmp MX1_unbeaten 2 (.ifCond .lt) 12 5 := ⟨10, ⟨by decide +kernel, rfl⟩, by decide⟩
theorem iX1_unbeaten_5 : LdI MX1_unbeaten 5 5 7 := Or.inl ⟨by decide +kernel, rfl⟩
theorem iX1_unbeaten_7 : LdA MX1_unbeaten 7 2 8 := Or.inr ⟨2, rfl, by decide +kernel, rfl⟩
theorem iX1_unbeaten_8 : Ins MX1_unbeaten 8 (.arraylength) 1 9 := ⟨by decide +kernel, rfl⟩
theorem iX1_unbeaten_9 : Jmp MX1_unbeaten 9 (.if_icmp .lt) 14 12 := ⟨5, ⟨by decide +kernel, rfl⟩, by decide⟩
theorem iX1_unbeaten_12 : Ins MX1_unbeaten 12 (.lconst 0) 1 13 := ⟨by decide +kernel, rfl⟩
theorem iX1_unbeaten_13 : Ins MX1_unbeaten 13 (.lreturn) 1 14 := ⟨by decide +kernel, rfl⟩
theorem iX1_unbeaten_14 : LdA MX1_unbeaten 14 2 15 := Or.inr ⟨2, rfl, by decide +kernel, rfl⟩
theorem iX1_unbeaten_15 : LdI MX1_unbeaten 15 5 17 := Or.inl ⟨by decide +kernel, rfl⟩
theorem iX1_unbeaten_17 : Ins MX1_unbeaten 17 (.aaload) 1 18 := ⟨by decide +kernel, rfl⟩
theorem iX1_unbeaten_18 : StA MX1_unbeaten 18 6 20 := ⟨Or.inl ⟨by decide +kernel, rfl⟩, Nat.le_of_ble_eq_true rfl⟩
theorem iX1_unbeaten_20 : LdI MX1_unbeaten 20 4 22 := Or.inl ⟨by decide +kernel, rfl⟩
theorem iX1_unbeaten_22 : LdI MX1_unbeaten 22 3 23 := Or.inr ⟨3, rfl, by decide +kernel, rfl⟩
theorem iX1_unbeaten_23 : Jmp MX1_unbeaten 23 (.if_icmp .ge) 43 26 := ⟨20, ⟨by decide +kernel, rfl⟩, by decide⟩
theorem iX1_unbeaten_26 : LdA MX1_unbeaten 26 6 28 := Or.inl ⟨by decide +kernel, rfl⟩
theorem iX1_unbeaten_28 : Ins MX1_unbeaten 28 (.invokevirtual 43) 3 31 := ⟨by decide +kernel, rfl⟩
theorem iX1_unbeaten_31 : Jmp MX1_unbeaten 31 (.ifCond .ne) 43 34 := ⟨12, ⟨by decide +kernel, rfl⟩, by decide⟩
theorem iX1_unbeaten_34 : LdI MX1_unbeaten 34 5 36 := Or.inl ⟨by decide +kernel, rfl⟩
theorem iX1_unbeaten_36 : Ins MX1_unbeaten 36 (.iconst 1) 1 37 := ⟨by decide +kernel, rfl⟩
theorem iX1_unbeaten_37 : Ins MX1_unbeaten 37 (.iadd) 1 38 := ⟨by decide +kernel, rfl⟩
theorem iX1_unbeaten_38 : LdA MX1_unbeaten 38 2 39 := Or.inr ⟨2, rfl, by decide +kernel, rfl⟩
theorem iX1_unbeaten_39 : Ins MX1_unbeaten 39 (.arraylength) 1 40 := ⟨by decide +kernel, rfl⟩
theorem iX1_unbeaten_40 : Jmp MX1_unbeaten 40 (.if_icmp .lt) 63 43 := ⟨23, ⟨by decide +kernel, rfl⟩, by decide⟩
theorem iX1_unbeaten_43 : LdA MX1_unbeaten 43 0 44 := Or.inr ⟨0, rfl, by decide +kernel, rfl⟩
theorem iX1_unbeaten_44 : LdI MX1_unbeaten 44 1 45 := Or.inr ⟨1, rfl, by decide +kernel, rfl⟩
theorem iX1_unbeaten_45 : LdA MX1_unbeaten 45 6 47 := Or.inl ⟨by decide +kernel, rfl⟩
theorem iX1_unbeaten_47 : Ins MX1_unbeaten 47 (.invokestatic 47) 3 50 := ⟨by decide +kernel, rfl⟩
theorem iX1_unbeaten_50 : Jmp MX1_unbeaten 50 (.ifCond .eq) 61 53 := ⟨11, ⟨by decide +kernel, rfl⟩, by decide⟩
theorem iX1_unbeaten_53 : LdI MX1_unbeaten 53 5 55 := Or.inl ⟨by decide +kernel, rfl⟩
theorem iX1_unbeaten_55 : Ins MX1_unbeaten 55 (.invokestatic 21) 3 58 := ⟨by decide +kernel, rfl⟩
theorem iX1_unbeaten_58 : Jmp MX1_unbeaten 58 .goto 62 61 := ⟨4, ⟨by decide +kernel, rfl⟩, by decide⟩
theorem iX1_unbeaten_61 : Ins MX1_unbeaten 61 (.lconst 0) 1 62 := ⟨by decide +kernel, rfl⟩
theorem iX1_unbeaten_62 : Ins MX1_unbeaten 62 (.lreturn) 1 63 := ⟨by decide +kernel, rfl⟩
theorem iX1_unbeaten_63 : LdA MX1_unbeaten 63 0 64 := Or.inr ⟨0, rfl, by decide +kernel, rfl⟩
theorem iX1_unbeaten_64 : Ins MX1_unbeaten 64 (.getfield 51) 3 67 := ⟨by decide +kernel, rfl⟩
theorem iX1_unbeaten_67 : LdI MX1_unbeaten 67 4 69 := Or.inl ⟨by decide +kernel, rfl⟩
theorem iX1_unbeaten_69 : Ins MX1_unbeaten 69 (.iadd) 1 70 := ⟨by decide +kernel, rfl⟩
theorem iX1_unbeaten_70 : StI MX1_unbeaten 70 7 72 := ⟨Or.inl ⟨by decide +kernel, rfl⟩, Nat.le_of_ble_eq_true rfl⟩
theorem iX1_unbeaten_72 : LdA MX1_unbeaten 72 6 74 := Or.inl ⟨by decide +kernel, rfl⟩
theorem iX1_unbeaten_74 : LdI MX1_unbeaten 74 7 76 := Or.inl ⟨by decide +kernel, rfl⟩
theorem iX1_unbeaten_76 : Ins MX1_unbeaten 76 (.iconst 0) 1 77 := ⟨by decide +kernel, rfl⟩
theorem iX1_unbeaten_77 : Ins MX1_unbeaten 77 (.invokevirtual 17) 3 80 := ⟨by decide +kernel, rfl⟩
theorem iX1_unbeaten_80 : StI MX1_unbeaten 80 8 82 := ⟨Or.inl ⟨by decide +kernel, rfl⟩, Nat.le_of_ble_eq_true rfl⟩
theorem iX1_unbeaten_82 : LdA MX1_unbeaten 82 2 83 := Or.inr ⟨2, rfl, by decide +kernel, rfl⟩
theorem iX1_unbeaten_83 : LdI MX1_unbeaten 83 5 85 := Or.inl ⟨by decide +kernel, rfl⟩
theorem iX1_unbeaten_85 : Ins MX1_unbeaten 85 (.iconst 1) 1 86 := ⟨by decide +kernel, rfl⟩
theorem iX1_unbeaten_86 : Ins MX1_unbeaten 86 (.iadd) 1 87 := ⟨by decide +kernel, rfl⟩
theorem iX1_unbeaten_87 : Ins MX1_unbeaten 87 (.aaload) 1 88 := ⟨by decide +kernel, rfl⟩
theorem iX1_unbeaten_88 : StA MX1_unbeaten 88 9 90 := ⟨Or.inl ⟨by decide +kernel, rfl⟩, Nat.le_of_ble_eq_true rfl⟩
theorem iX1_unbeaten_90 : LdA MX1_unbeaten 90 9 92 := Or.inl ⟨by decide +kernel, rfl⟩
theorem iX1_unbeaten_92 : LdA MX1_unbeaten 92 6 94 := Or.inl ⟨by decide +kernel, rfl⟩
theorem iX1_unbeaten_94 : Ins MX1_unbeaten 94 (.invokevirtual 56) 3 97 := ⟨by decide +kernel, rfl⟩
theorem iX1_unbeaten_97 : LdA MX1_unbeaten 97 9 99 := Or.inl ⟨by decide +kernel, rfl⟩
theorem iX1_unbeaten_99 : Ins MX1_unbeaten 99 (.iconst 1) 1 100 := ⟨by decide +kernel, rfl⟩
theorem iX1_unbeaten_100 : LdI MX1_unbeaten 100 7 102 := Or.inl ⟨by decide +kernel, rfl⟩
theorem iX1_unbeaten_102 : Ins MX1_unbeaten 102 (.invokevirtual 60) 3 105 := ⟨by decide +kernel, rfl⟩
theorem iX1_unbeaten_105 : LdA MX1_unbeaten 105 9 107 := Or.inl ⟨by decide +kernel, rfl⟩
theorem iX1_unbeaten_107 : Ins MX1_unbeaten 107 (.invokevirtual 64) 3 110 := ⟨by decide +kernel, rfl⟩
theorem iX1_unbeaten_110 : LdA MX1_unbeaten 110 0 111 := Or.inr ⟨0, rfl, by decide +kernel, rfl⟩
theorem iX1_unbeaten_111 : LdI MX1_unbeaten 111 1 112 := Or.inr ⟨1, rfl, by decide +kernel, rfl⟩
theorem iX1_unbeaten_112 : LdA MX1_unbeaten 112 2 113 := Or.inr ⟨2, rfl, by decide +kernel, rfl⟩
theorem iX1_unbeaten_113 : LdI MX1_unbeaten 113 3 114 := Or.inr ⟨3, rfl, by decide +kernel, rfl⟩
theorem iX1_unbeaten_114 : LdI MX1_unbeaten 114 4 116 := Or.inl ⟨by decide +kernel, rfl⟩
theorem iX1_unbeaten_116 : Ins MX1_unbeaten 116 (.iconst 1) 1 117 := ⟨by decide +kernel, rfl⟩
theorem iX1_unbeaten_117 : Ins MX1_unbeaten 117 (.iadd) 1 118 := ⟨by decide +kernel, rfl⟩
theorem iX1_unbeaten_118 : LdI MX1_unbeaten 118 5 120 := Or.inl ⟨by decide +kernel, rfl⟩
theorem iX1_unbeaten_120 : Ins MX1_unbeaten 120 (.iconst 1) 1 121 := ⟨by decide +kernel, rfl⟩
theorem iX1_unbeaten_121 : Ins MX1_unbeaten 121 (.iadd) 1 122 := ⟨by decide +kernel, rfl⟩
theorem iX1_unbeaten_122 : Ins MX1_unbeaten 122 (.invokestatic 67) 3 125 := ⟨by decide +kernel, rfl⟩
theorem iX1_unbeaten_125 : StL MX1_unbeaten 125 10 127 := ⟨Or.inl ⟨by decide +kernel, rfl⟩, Nat.le_of_ble_eq_true rfl⟩
theorem iX1_unbeaten_127 : LdA MX1_unbeaten 127 9 129 := Or.inl ⟨by decide +kernel, rfl⟩
theorem iX1_unbeaten_129 : LdA MX1_unbeaten 129 6 131 := Or.inl ⟨by decide +kernel, rfl⟩
theorem iX1_unbeaten_131 : Ins MX1_unbeaten 131 (.invokevirtual 56) 3 134 := ⟨by decide +kernel, rfl⟩
theorem iX1_unbeaten_134 : LdA MX1_unbeaten 134 9 136 := Or.inl ⟨by decide +kernel, rfl⟩
theorem iX1_unbeaten_136 : Ins MX1_unbeaten 136 (.iconst 0) 1 137 := ⟨by decide +kernel, rfl⟩
theorem iX1_unbeaten_137 : LdI MX1_unbeaten 137 7 139 := Or.inl ⟨by decide +kernel, rfl⟩
theorem iX1_unbeaten_139 : Ins MX1_unbeaten 139 (.invokevirtual 60) 3 142 := ⟨by decide +kernel, rfl⟩
theorem iX1_unbeaten_142 : LdA MX1_unbeaten 142 0 143 := Or.inr ⟨0, rfl, by decide +kernel, rfl⟩
theorem iX1_unbeaten_143 : LdI MX1_unbeaten 143 1 144 := Or.inr ⟨1, rfl, by decide +kernel, rfl⟩
theorem iX1_unbeaten_144 : LdA MX1_unbeaten 144 2 145 := Or.inr ⟨2, rfl, by decide +kernel, rfl⟩
theorem iX1_unbeaten_145 : LdI MX1_unbeaten 145 3 146 := Or.inr ⟨3, rfl, by decide +kernel, rfl⟩
theorem iX1_unbeaten_146 : LdI MX1_unbeaten 146 4 148 := Or.inl ⟨by decide +kernel, rfl⟩
theorem iX1_unbeaten_148 : LdI MX1_unbeaten 148 5 150 := Or.inl ⟨by decide +kernel, rfl⟩
theorem iX1_unbeaten_150 : Ins MX1_unbeaten 150 (.iconst 1) 1 151 := ⟨by decide +kernel, rfl⟩
theorem iX1_unbeaten_151 : Ins MX1_unbeaten 151 (.iadd) 1 152 := ⟨by decide +kernel, rfl⟩
theorem iX1_unbeaten_152 : Ins MX1_unbeaten 152 (.invokestatic 67) 3 155 := ⟨by decide +kernel, rfl⟩
theorem iX1_unbeaten_155 : StL MX1_unbeaten 155 12 157 := ⟨Or.inl ⟨by decide +kernel, rfl⟩, Nat.le_of_ble_eq_true rfl⟩
theorem iX1_unbeaten_157 : LdI MX1_unbeaten 157 8 159 := Or.inl ⟨by decide +kernel, rfl⟩
theorem iX1_unbeaten_159 : Ins MX1_unbeaten 159 (.i2l) 1 160 := ⟨by decide +kernel, rfl⟩
theorem iX1_unbeaten_160 : LdL MX1_unbeaten 160 10 162 := Or.inl ⟨by decide +kernel, rfl⟩
theorem iX1_unbeaten_162 : Ins MX1_unbeaten 162 (.lmul) 1 163 := ⟨by decide +kernel, rfl⟩
theorem iX1_unbeaten_163 : Ins MX1_unbeaten 163 (.bipush 10) 2 165 := ⟨by decide +kernel, rfl⟩
theorem iX1_unbeaten_165 : LdI MX1_unbeaten 165 8 167 := Or.inl ⟨by decide +kernel, rfl⟩
theorem iX1_unbeaten_167 : Ins MX1_unbeaten 167 (.isub) 1 168 := ⟨by decide +kernel, rfl⟩
theorem iX1_unbeaten_168 : Ins MX1_unbeaten 168 (.i2l) 1 169 := ⟨by decide +kernel, rfl⟩
theorem iX1_unbeaten_169 : LdL MX1_unbeaten 169 12 171 := Or.inl ⟨by decide +kernel, rfl⟩
theorem iX1_unbeaten_171 : Ins MX1_unbeaten 171 (.lmul) 1 172 := ⟨by decide +kernel, rfl⟩
theorem iX1_unbeaten_172 : Ins MX1_unbeaten 172 (.ladd) 1 173 := ⟨by decide +kernel, rfl⟩
theorem iX1_unbeaten_173 : Ins MX1_unbeaten 173 (.lreturn) 1 174 := ⟨by decide +kernel, rfl⟩
theorem iX1_noOtherBeats_0 : Ins MX1_noOtherBeats 0 (.iconst 0) 1 1 := ⟨by decide +kernel, rfl⟩
theorem iX1_noOtherBeats_1 : StI MX1_noOtherBeats 1 3 2 := ⟨Or.inr ⟨3, rfl, by decide +kernel, rfl⟩, Nat.le_of_ble_eq_true rfl⟩
theorem iX1_noOtherBeats_2 : LdI MX1_noOtherBeats 2 3 3 := Or.inr ⟨3, rfl, by decide +kernel, rfl⟩
theorem iX1_noOtherBeats_3 : LdA MX1_noOtherBeats 3 0 4 := Or.inr ⟨0, rfl, by decide +kernel, rfl⟩
theorem iX1_noOtherBeats_4 : Ins MX1_noOtherBeats 4 (.getfield 71) 3 7 := ⟨by decide +kernel, rfl⟩
theorem iX1_noOtherBeats_7 : Jmp MX1_noOtherBeats 7 (.if_icmp .ge) 36 10 := ⟨29, ⟨by decide +kernel, rfl⟩, by decide⟩
theorem iX1_noOtherBeats_10 : LdI MX1_noOtherBeats 10 3 11 := Or.inr ⟨3, rfl, by decide +kernel, rfl⟩
theorem iX1_noOtherBeats_11 : LdI MX1_noOtherBeats 11 1 12 := Or.inr ⟨1, rfl, by decide +kernel, rfl⟩
theorem iX1_noOtherBeats_12 : Jmp MX1_noOtherBeats 12 (.if_icmp .eq) 30 15 := ⟨18, ⟨by decide +kernel, rfl⟩, by decide⟩
theorem iX1_noOtherBeats_15 : LdA MX1_noOtherBeats 15 0 16 := Or.inr ⟨0, rfl, by decide +kernel, rfl⟩
theorem iX1_noOtherBeats_16 : Ins MX1_noOtherBeats 16 (.getfield 74) 3 19 := ⟨by decide +kernel, rfl⟩
theorem iX1_noOtherBeats_19 : LdI MX1_noOtherBeats 19 3 20 := Or.inr ⟨3, rfl, by decide +kernel, rfl⟩
theorem iX1_noOtherBeats_20 : Ins MX1_noOtherBeats 20 (.aaload) 1 21 := ⟨by decide +kernel, rfl⟩
theorem iX1_noOtherBeats_21 : LdA MX1_noOtherBeats 21 2 22 := Or.inr ⟨2, rfl, by decide +kernel, rfl⟩
theorem iX1_noOtherBeats_22 : Ins MX1_noOtherBeats 22 (.invokevirtual 78) 3 25 := ⟨by decide +kernel, rfl⟩
theorem iX1_noOtherBeats_25 : Jmp MX1_noOtherBeats 25 (.ifCond .eq) 30 28 := ⟨5, ⟨by decide +kernel, rfl⟩, by decide⟩
theorem iX1_noOtherBeats_28 : Ins MX1_noOtherBeats 28 (.iconst 0) 1 29 := ⟨by decide +kernel, rfl⟩
theorem iX1_noOtherBeats_29 : Ins MX1_noOtherBeats 29 (.ireturn) 1 30 := ⟨by decide +kernel, rfl⟩
theorem iX1_noOtherBeats_30 : Inc MX1_noOtherBeats 30 3 (1) 33 := ⟨⟨by decide +kernel, rfl⟩, Nat.le_of_ble_eq_true rfl⟩
theorem iX1_noOtherBeats_33 : Jmp MX1_noOtherBeats 33 .goto 2 36 := ⟨-31, ⟨by decide +kernel, rfl⟩, by decide⟩
theorem iX1_noOtherBeats_36 : Ins MX1_noOtherBeats 36 (.iconst 1) 1 37 := ⟨by decide +kernel, rfl⟩
theorem iX1_noOtherBeats_37 : Ins MX1_noOtherBeats 37 (.ireturn) 1 38 := ⟨by decide +kernel, rfl⟩
theorem iX1_unitsLeft_0 : Ins MX1_unitsLeft 0 (.bipush 12) 2 2 := ⟨by decide +kernel, rfl⟩
theorem iX1_unitsLeft_2 : LdI MX1_unitsLeft 2 0 3 := Or.inr ⟨0, rfl, by decide +kernel, rfl⟩
theorem iX1_unitsLeft_3 : Ins MX1_unitsLeft 3 (.isub) 1 4 := ⟨by decide +kernel, rfl⟩
theorem iX1_unitsLeft_4 : StI MX1_unitsLeft 4 1 5 := ⟨Or.inr ⟨1, rfl, by decide +kernel, rfl⟩, Nat.le_of_ble_eq_true rfl⟩
theorem iX1_unitsLeft_5 : LdI MX1_unitsLeft 5 1 6 := Or.inr ⟨1, rfl, by decide +kernel, rfl⟩
theorem iX1_unitsLeft_6 : Jmp MX1_unitsLeft 6 (.ifCond .lt) 25 9 := ⟨19, ⟨by decide +kernel, rfl⟩, by decide⟩
theorem iX1_unitsLeft_9 : LdI MX1_unitsLeft 9 1 10 := Or.inr ⟨1, rfl, by decide +kernel, rfl⟩
theorem iX1_unitsLeft_10 : Ins MX1_unitsLeft 10 (.getstatic 82) 3 13 := ⟨by decide +kernel, rfl⟩
theorem iX1_unitsLeft_13 : Ins MX1_unitsLeft 13 (.arraylength) 1 14 := ⟨by decide +kernel, rfl⟩
theorem iX1_unitsLeft_14 : Jmp MX1_unitsLeft 14 (.if_icmp .ge) 25 17 := ⟨11, ⟨by decide +kernel, rfl⟩, by decide⟩
theorem iX1_unitsLeft_17 : Ins MX1_unitsLeft 17 (.getstatic 82) 3 20 := ⟨by decide +kernel, rfl⟩
theorem iX1_unitsLeft_20 : LdI MX1_unitsLeft 20 1 21 := Or.inr ⟨1, rfl, by decide +kernel, rfl⟩
theorem iX1_unitsLeft_21 : Ins MX1_unitsLeft 21 (.laload) 1 22 := ⟨by decide +kernel, rfl⟩
theorem iX1_unitsLeft_22 : Jmp MX1_unitsLeft 22 .goto 26 25 := ⟨4, ⟨by decide +kernel, rfl⟩, by decide⟩
theorem iX1_unitsLeft_25 : Ins MX1_unitsLeft 25 (.lconst 0) 1 26 := ⟨by decide +kernel, rfl⟩
theorem iX1_unitsLeft_26 : Ins MX1_unitsLeft 26 (.lreturn) 1 27 := ⟨by decide +kernel, rfl⟩
theorem iX2_init_0 : LdA MX2_init 0 0 1 := Or.inr ⟨0, rfl, by decide +kernel, rfl⟩
theorem iX2_init_1 : Ins MX2_init 1 (.invokespecial 3) 3 4 := ⟨by decide +kernel, rfl⟩
theorem iX2_init_4 : LdA MX2_init 4 0 5 := Or.inr ⟨0, rfl, by decide +kernel, rfl⟩
theorem iX2_init_5 : Ins MX2_init 5 (.iconst 4) 1 6 := ⟨by decide +kernel, rfl⟩
theorem iX2_init_6 : Ins MX2_init 6 (.anewarray 9) 3 9 := ⟨by decide +kernel, rfl⟩
theorem iX2_init_9 : Ins MX2_init 9 (.putfield 11) 3 12 := ⟨by decide +kernel, rfl⟩
theorem iX2_init_12 : Ins MX2_init 12 (.iconst 0) 1 13 := ⟨by decide +kernel, rfl⟩
theorem iX2_init_13 : StI MX2_init 13 1 14 := ⟨Or.inr ⟨1, rfl, by decide +kernel, rfl⟩, Nat.le_of_ble_eq_true rfl⟩
theorem iX2_init_14 : LdI MX2_init 14 1 15 := Or.inr ⟨1, rfl, by decide +kernel, rfl⟩
theorem iX2_init_15 : Ins MX2_init 15 (.iconst 4) 1 16 := ⟨by decide +kernel, rfl⟩
theorem iX2_init_16 : Jmp MX2_init 16 (.if_icmp .ge) 38 19 := ⟨22, ⟨by decide +kernel, rfl⟩, by decide⟩
theorem iX2_init_19 : LdA MX2_init 19 0 20 := Or.inr ⟨0, rfl, by decide +kernel, rfl⟩
theorem iX2_init_20 : Ins MX2_init 20 (.getfield 11) 3 23 := ⟨by decide +kernel, rfl⟩
theorem iX2_init_23 : LdI MX2_init 23 1 24 := Or.inr ⟨1, rfl, by decide +kernel, rfl⟩
theorem iX2_init_24 : Ins MX2_init 24 (.new 9) 3 27 := ⟨by decide +kernel, rfl⟩
theorem iX2_init_27 : Ins MX2_init 27 (.dup) 1 28 := ⟨by decide +kernel, rfl⟩
theorem iX2_init_28 : Ins MX2_init 28 (.invokespecial 17) 3 31 := ⟨by decide +kernel, rfl⟩
theorem iX2_init_31 : Ins MX2_init 31 (.aastore) 1 32 := ⟨by decide +kernel, rfl⟩
theorem iX2_init_32 : Inc MX2_init 32 1 (1) 35 := ⟨⟨by decide +kernel, rfl⟩, Nat.le_of_ble_eq_true rfl⟩
theorem iX2_init_35 : Jmp MX2_init 35 .goto 14 38 := ⟨-21, ⟨by decide +kernel, rfl⟩, by decide⟩
theorem iX2_init_38 : LdA MX2_init 38 0 39 := Or.inr ⟨0, rfl, by decide +kernel, rfl⟩
theorem iX2_init_39 : Ins MX2_init 39 (.iconst 0) 1 40 := ⟨by decide +kernel, rfl⟩
theorem iX2_init_40 : Ins MX2_init 40 (.putfield 18) 3 43 := ⟨by decide +kernel, rfl⟩
theorem iX2_init_43 : LdA MX2_init 43 0 44 := Or.inr ⟨0, rfl, by decide +kernel, rfl⟩
theorem iX2_init_44 : Ins MX2_init 44 (.iconst 0) 1 45 := ⟨by decide +kernel, rfl⟩
theorem iX2_init_45 : Ins MX2_init 45 (.putfield 22) 3 48 := ⟨by decide +kernel, rfl⟩
theorem iX2_init_48 : LdA MX2_init 48 0 49 := Or.inr ⟨0, rfl, by decide +kernel, rfl⟩
theorem iX2_init_49 : Ins MX2_init 49 (.bipush (-9)) 2 51 := ⟨by decide +kernel, rfl⟩
theorem iX2_init_51 : Ins MX2_init 51 (.putfield 25) 3 54 := ⟨by decide +kernel, rfl⟩
theorem iX2_init_54 : Ins MX2_init 54 (.return_) 1 55 := ⟨by decide +kernel, rfl⟩
theorem iX2_startFrom_0 : LdA MX2_startFrom 0 0 1 := Or.inr ⟨0, rfl, by decide +kernel, rfl⟩
theorem iX2_startFrom_1 : LdA MX2_startFrom 1 1 2 := Or.inr ⟨1, rfl, by decide +kernel, rfl⟩
theorem iX2_startFrom_2 : Ins MX2_startFrom 2 (.invokevirtual 28) 3 5 := ⟨by decide +kernel, rfl⟩
theorem iX2_startFrom_5 : Ins MX2_startFrom 5 (.putfield 18) 3 8 := ⟨by decide +kernel, rfl⟩
theorem iX2_startFrom_8 : LdA MX2_startFrom 8 0 9 := Or.inr ⟨0, rfl, by decide +kernel, rfl⟩
theorem iX2_startFrom_9 : LdA MX2_startFrom 9 1 10 := Or.inr ⟨1, rfl, by decide +kernel, rfl⟩
theorem iX2_startFrom_10 : Ins MX2_startFrom 10 (.invokevirtual 34) 3 13 := ⟨by decide +kernel, rfl⟩
theorem iX2_startFrom_13 : Ins MX2_startFrom 13 (.putfield 22) 3 16 := ⟨by decide +kernel, rfl⟩
theorem iX2_startFrom_16 : Ins MX2_startFrom 16 (.iconst 0) 1 17 := ⟨by decide +kernel, rfl⟩
theorem iX2_startFrom_17 : StI MX2_startFrom 17 2 18 := ⟨Or.inr ⟨2, rfl, by decide +kernel, rfl⟩, Nat.le_of_ble_eq_true rfl⟩
theorem iX2_startFrom_18 : LdI MX2_startFrom 18 2 19 := Or.inr ⟨2, rfl, by decide +kernel, rfl⟩
theorem iX2_startFrom_19 : LdA MX2_startFrom 19 0 20 := Or.inr ⟨0, rfl, by decide +kernel, rfl⟩
theorem iX2_startFrom_20 : Ins MX2_startFrom 20 (.getfield 18) 3 23 := ⟨by decide +kernel, rfl⟩
theorem iX2_startFrom_23 : Jmp MX2_startFrom 23 (.if_icmp .ge) 51 26 := ⟨28, ⟨by decide +kernel, rfl⟩, by decide⟩
theorem iX2_startFrom_26 : LdA MX2_startFrom 26 0 27 := Or.inr ⟨0, rfl, by decide +kernel, rfl⟩
theorem iX2_startFrom_27 : Ins MX2_startFrom 27 (.getfield 11) 3 30 := ⟨by decide +kernel, rfl⟩
theorem iX2_startFrom_30 : LdI MX2_startFrom 30 2 31 := Or.inr ⟨2, rfl, by decide +kernel, rfl⟩
theorem iX2_startFrom_31 : Ins MX2_startFrom 31 (.aaload) 1 32 := ⟨by decide +kernel, rfl⟩
theorem iX2_startFrom_32 : LdA MX2_startFrom 32 1 33 := Or.inr ⟨1, rfl, by decide +kernel, rfl⟩
theorem iX2_startFrom_33 : LdI MX2_startFrom 33 2 34 := Or.inr ⟨2, rfl, by decide +kernel, rfl⟩
theorem iX2_startFrom_34 : Ins MX2_startFrom 34 (.invokevirtual 37) 3 37 := ⟨by decide +kernel, rfl⟩
theorem iX2_startFrom_37 : LdA MX2_startFrom 37 1 38 := Or.inr ⟨1, rfl, by decide +kernel, rfl⟩
theorem iX2_startFrom_38 : LdI MX2_startFrom 38 2 39 := Or.inr ⟨2, rfl, by decide +kernel, rfl⟩
theorem iX2_startFrom_39 : Ins MX2_startFrom 39 (.invokevirtual 41) 3 42 := ⟨by decide +kernel, rfl⟩
theorem iX2_startFrom_42 : Ins MX2_startFrom 42 (.invokevirtual 44) 3 45 := ⟨by decide +kernel, rfl⟩
theorem iX2_startFrom_45 : Inc MX2_startFrom 45 2 (1) 48 := ⟨⟨by decide +kernel, rfl⟩, Nat.le_of_ble_eq_true rfl⟩
theorem iX2_startFrom_48 : Jmp MX2_startFrom 48 .goto 18 51 := ⟨-30, ⟨by decide +kernel, rfl⟩, by decide⟩
theorem iX2_startFrom_51 : LdA MX2_startFrom 51 0 52 := Or.inr ⟨0, rfl, by decide +kernel, rfl⟩
theorem iX2_startFrom_52 : LdA MX2_startFrom 52 0 53 := Or.inr ⟨0, rfl, by decide +kernel, rfl⟩
theorem iX2_startFrom_53 : LdA MX2_startFrom 53 0 54 := Or.inr ⟨0, rfl, by decide +kernel, rfl⟩
theorem iX2_startFrom_54 : Ins MX2_startFrom 54 (.getfield 18) 3 57 := ⟨by decide +kernel, rfl⟩
theorem iX2_startFrom_57 : Ins MX2_startFrom 57 (.iconst 1) 1 58 := ⟨by decide +kernel, rfl⟩
theorem iX2_startFrom_58 : Ins MX2_startFrom 58 (.isub) 1 59 := ⟨by decide +kernel, rfl⟩
theorem iX2_startFrom_59 : Ins MX2_startFrom 59 (.invokevirtual 48) 3 62 := ⟨by decide +kernel, rfl⟩
theorem iX2_startFrom_62 : Ins MX2_startFrom 62 (.putfield 25) 3 65 := ⟨by decide +kernel, rfl⟩
theorem iX2_startFrom_65 : Ins MX2_startFrom 65 (.return_) 1 66 := ⟨by decide +kernel, rfl⟩
theorem iX2_copyFrom_0 : LdA MX2_copyFrom 0 0 1 := Or.inr ⟨0, rfl, by decide +kernel, rfl⟩
theorem iX2_copyFrom_1 : LdA MX2_copyFrom 1 1 2 := Or.inr ⟨1, rfl, by decide +kernel, rfl⟩
theorem iX2_copyFrom_2 : Ins MX2_copyFrom 2 (.getfield 18) 3 5 := ⟨by decide +kernel, rfl⟩
theorem iX2_copyFrom_5 : Ins MX2_copyFrom 5 (.putfield 18) 3 8 := ⟨by decide +kernel, rfl⟩
theorem iX2_copyFrom_8 : LdA MX2_copyFrom 8 0 9 := Or.inr ⟨0, rfl, by decide +kernel, rfl⟩
theorem iX2_copyFrom_9 : LdA MX2_copyFrom 9 1 10 := Or.inr ⟨1, rfl, by decide +kernel, rfl⟩
theorem iX2_copyFrom_10 : Ins MX2_copyFrom 10 (.getfield 22) 3 13 := ⟨by decide +kernel, rfl⟩
theorem iX2_copyFrom_13 : Ins MX2_copyFrom 13 (.putfield 22) 3 16 := ⟨by decide +kernel, rfl⟩
theorem iX2_copyFrom_16 : LdA MX2_copyFrom 16 0 17 := Or.inr ⟨0, rfl, by decide +kernel, rfl⟩
theorem iX2_copyFrom_17 : LdA MX2_copyFrom 17 1 18 := Or.inr ⟨1, rfl, by decide +kernel, rfl⟩
theorem iX2_copyFrom_18 : Ins MX2_copyFrom 18 (.getfield 25) 3 21 := ⟨by decide +kernel, rfl⟩
theorem iX2_copyFrom_21 : Ins MX2_copyFrom 21 (.putfield 25) 3 24 := ⟨by decide +kernel, rfl⟩
theorem iX2_copyFrom_24 : Ins MX2_copyFrom 24 (.iconst 0) 1 25 := ⟨by decide +kernel, rfl⟩
theorem iX2_copyFrom_25 : StI MX2_copyFrom 25 2 26 := ⟨Or.inr ⟨2, rfl, by decide +kernel, rfl⟩, Nat.le_of_ble_eq_true rfl⟩
theorem iX2_copyFrom_26 : LdI MX2_copyFrom 26 2 27 := Or.inr ⟨2, rfl, by decide +kernel, rfl⟩
theorem iX2_copyFrom_27 : LdA MX2_copyFrom 27 0 28 := Or.inr ⟨0, rfl, by decide +kernel, rfl⟩
theorem iX2_copyFrom_28 : Ins MX2_copyFrom 28 (.getfield 18) 3 31 := ⟨by decide +kernel, rfl⟩
theorem iX2_copyFrom_31 : Jmp MX2_copyFrom 31 (.if_icmp .ge) 55 34 := ⟨24, ⟨by decide +kernel, rfl⟩, by decide⟩
theorem iX2_copyFrom_34 : LdA MX2_copyFrom 34 0 35 := Or.inr ⟨0, rfl, by decide +kernel, rfl⟩
theorem iX2_copyFrom_35 : Ins MX2_copyFrom 35 (.getfield 11) 3 38 := ⟨by decide +kernel, rfl⟩
theorem iX2_copyFrom_38 : LdI MX2_copyFrom 38 2 39 := Or.inr ⟨2, rfl, by decide +kernel, rfl⟩
theorem iX2_copyFrom_39 : Ins MX2_copyFrom 39 (.aaload) 1 40 := ⟨by decide +kernel, rfl⟩
theorem iX2_copyFrom_40 : LdA MX2_copyFrom 40 1 41 := Or.inr ⟨1, rfl, by decide +kernel, rfl⟩
theorem iX2_copyFrom_41 : Ins MX2_copyFrom 41 (.getfield 11) 3 44 := ⟨by decide +kernel, rfl⟩
theorem iX2_copyFrom_44 : LdI MX2_copyFrom 44 2 45 := Or.inr ⟨2, rfl, by decide +kernel, rfl⟩
theorem iX2_copyFrom_45 : Ins MX2_copyFrom 45 (.aaload) 1 46 := ⟨by decide +kernel, rfl⟩
theorem iX2_copyFrom_46 : Ins MX2_copyFrom 46 (.invokevirtual 51) 3 49 := ⟨by decide +kernel, rfl⟩
theorem iX2_copyFrom_49 : Inc MX2_copyFrom 49 2 (1) 52 := ⟨⟨by decide +kernel, rfl⟩, Nat.le_of_ble_eq_true rfl⟩
theorem iX2_copyFrom_52 : Jmp MX2_copyFrom 52 .goto 26 55 := ⟨-26, ⟨by decide +kernel, rfl⟩, by decide⟩
theorem iX2_copyFrom_55 : Ins MX2_copyFrom 55 (.return_) 1 56 := ⟨by decide +kernel, rfl⟩
theorem iX2_knows_0 : LdI MX2_knows 0 1 1 := Or.inr ⟨1, rfl, by decide +kernel, rfl⟩
theorem iX2_knows_1 : Jmp MX2_knows 1 (.ifCond .lt) 16 4 := ⟨15, ⟨by decide +kernel, rfl⟩, by decide⟩
theorem iX2_knows_4 : LdI MX2_knows 4 1 5 := Or.inr ⟨1, rfl, by decide +kernel, rfl⟩
theorem iX2_knows_5 : LdA MX2_knows 5 0 6 := Or.inr ⟨0, rfl, by decide +kernel, rfl⟩
theorem iX2_knows_6 : Ins MX2_knows 6 (.getfield 18) 3 9 := ⟨by decide +kernel, rfl⟩
theorem iX2_knows_9 : Jmp MX2_knows 9 (.if_icmp .ge) 16 12 := ⟨7, ⟨by decide +kernel, rfl⟩, by decide⟩
theorem iX2_knows_12 : Ins MX2_knows 12 (.iconst 1) 1 13 := ⟨by decide +kernel, rfl⟩
theorem iX2_knows_13 : Jmp MX2_knows 13 .goto 17 16 := ⟨4, ⟨by decide +kernel, rfl⟩, by decide⟩
theorem iX2_knows_16 : Ins MX2_knows 16 (.iconst 0) 1 17 := ⟨by decide +kernel, rfl⟩
theorem iX2_knows_17 : Ins MX2_knows 17 (.ireturn) 1 18 := ⟨by decide +kernel, rfl⟩
theorem iX2_isEnded_0 : LdA MX2_isEnded 0 0 1 := Or.inr ⟨0, rfl, by decide +kernel, rfl⟩
theorem iX2_isEnded_1 : LdA MX2_isEnded 1 0 2 := Or.inr ⟨0, rfl, by decide +kernel, rfl⟩
theorem iX2_isEnded_2 : Ins MX2_isEnded 2 (.getfield 25) 3 5 := ⟨by decide +kernel, rfl⟩
theorem iX2_isEnded_5 : Ins MX2_isEnded 5 (.invokevirtual 55) 3 8 := ⟨by decide +kernel, rfl⟩
theorem iX2_isEnded_8 : Jmp MX2_isEnded 8 (.ifCond .ne) 15 11 := ⟨7, ⟨by decide +kernel, rfl⟩, by decide⟩
theorem iX2_isEnded_11 : Ins MX2_isEnded 11 (.iconst 1) 1 12 := ⟨by decide +kernel, rfl⟩
theorem iX2_isEnded_12 : Jmp MX2_isEnded 12 .goto 16 15 := ⟨4, ⟨by decide +kernel, rfl⟩, by decide⟩
theorem iX2_isEnded_15 : Ins MX2_isEnded 15 (.iconst 0) 1 16 := ⟨by decide +kernel, rfl⟩
theorem iX2_isEnded_16 : Ins MX2_isEnded 16 (.ireturn) 1 17 := ⟨by decide +kernel, rfl⟩
theorem iX2_act_0 : LdA MX2_act 0 0 1 := Or.inr ⟨0, rfl, by decide +kernel, rfl⟩
theorem iX2_act_1 : LdA MX2_act 1 0 2 := Or.inr ⟨0, rfl, by decide +kernel, rfl⟩
theorem iX2_act_2 : Ins MX2_act 2 (.getfield 25) 3 5 := ⟨by decide +kernel, rfl⟩
theorem iX2_act_5 : Ins MX2_act 5 (.invokevirtual 55) 3 8 := ⟨by decide +kernel, rfl⟩
theorem iX2_act_8 : Jmp MX2_act 8 (.ifCond .ne) 12 11 := ⟨4, ⟨by decide +kernel, rfl⟩, by decide⟩
theorem iX2_act_11 : Ins MX2_act 11 (.return_) 1 12 := ⟨by decide +kernel, rfl⟩
theorem iX2_act_12 : LdA MX2_act 12 0 13 := Or.inr ⟨0, rfl, by decide +kernel, rfl⟩
theorem iX2_act_13 : Ins MX2_act 13 (.getfield 11) 3 16 := ⟨by decide +kernel, rfl⟩
theorem iX2_act_16 : LdA MX2_act 16 0 17 := Or.inr ⟨0, rfl, by decide +kernel, rfl⟩
theorem iX2_act_17 : Ins MX2_act 17 (.getfield 25) 3 20 := ⟨by decide +kernel, rfl⟩
theorem iX2_act_20 : Ins MX2_act 20 (.aaload) 1 21 := ⟨by decide +kernel, rfl⟩
theorem iX2_act_21 : StA MX2_act 21 2 22 := ⟨Or.inr ⟨2, rfl, by decide +kernel, rfl⟩, Nat.le_of_ble_eq_true rfl⟩
theorem iX2_act_22 : LdI MX2_act 22 1 23 := Or.inr ⟨1, rfl, by decide +kernel, rfl⟩
theorem iX2_act_23 : Ins MX2_act 23 (.iconst 2) 1 24 := ⟨by decide +kernel, rfl⟩
theorem iX2_act_24 : Jmp MX2_act 24 (.if_icmp .ne) 34 27 := ⟨10, ⟨by decide +kernel, rfl⟩, by decide⟩
theorem iX2_act_27 : LdA MX2_act 27 2 28 := Or.inr ⟨2, rfl, by decide +kernel, rfl⟩
theorem iX2_act_28 : Ins MX2_act 28 (.invokevirtual 59) 3 31 := ⟨by decide +kernel, rfl⟩
theorem iX2_act_31 : Jmp MX2_act 31 .goto 52 34 := ⟨21, ⟨by decide +kernel, rfl⟩, by decide⟩
theorem iX2_act_34 : LdA MX2_act 34 2 35 := Or.inr ⟨2, rfl, by decide +kernel, rfl⟩
theorem iX2_act_35 : LdI MX2_act 35 1 36 := Or.inr ⟨1, rfl, by decide +kernel, rfl⟩
theorem iX2_act_36 : Ins MX2_act 36 (.iconst 1) 1 37 := ⟨by decide +kernel, rfl⟩
theorem iX2_act_37 : Jmp MX2_act 37 (.if_icmp .ne) 44 40 := ⟨7, ⟨by decide +kernel, rfl⟩, by decide⟩
theorem iX2_act_40 : Ins MX2_act 40 (.iconst 1) 1 41 := ⟨by decide +kernel, rfl⟩
theorem iX2_act_41 : Jmp MX2_act 41 .goto 45 44 := ⟨4, ⟨by decide +kernel, rfl⟩, by decide⟩
theorem iX2_act_44 : Ins MX2_act 44 (.iconst 0) 1 45 := ⟨by decide +kernel, rfl⟩
theorem iX2_act_45 : LdA MX2_act 45 0 46 := Or.inr ⟨0, rfl, by decide +kernel, rfl⟩
theorem iX2_act_46 : Ins MX2_act 46 (.getfield 22) 3 49 := ⟨by decide +kernel, rfl⟩
theorem iX2_act_49 : Ins MX2_act 49 (.invokevirtual 62) 3 52 := ⟨by decide +kernel, rfl⟩
theorem iX2_act_52 : LdA MX2_act 52 0 53 := Or.inr ⟨0, rfl, by decide +kernel, rfl⟩
theorem iX2_act_53 : LdA MX2_act 53 0 54 := Or.inr ⟨0, rfl, by decide +kernel, rfl⟩
theorem iX2_act_54 : LdA MX2_act 54 0 55 := Or.inr ⟨0, rfl, by decide +kernel, rfl⟩
theorem iX2_act_55 : Ins MX2_act 55 (.getfield 25) 3 58 := ⟨by decide +kernel, rfl⟩
theorem iX2_act_58 : Ins MX2_act 58 (.invokevirtual 48) 3 61 := ⟨by decide +kernel, rfl⟩
theorem iX2_act_61 : Ins MX2_act 61 (.putfield 25) 3 64 := ⟨by decide +kernel, rfl⟩
theorem iX2_act_64 : LdA MX2_act 64 0 65 := Or.inr ⟨0, rfl, by decide +kernel, rfl⟩
theorem iX2_act_65 : Ins MX2_act 65 (.getfield 25) 3 68 := ⟨by decide +kernel, rfl⟩
theorem iX2_act_68 : Ins MX2_act 68 (.bipush (-9)) 2 70 := ⟨by decide +kernel, rfl⟩
theorem iX2_act_70 : Jmp MX2_act 70 (.if_icmp .ne) 93 73 := ⟨23, ⟨by decide +kernel, rfl⟩, by decide⟩
theorem iX2_act_73 : LdA MX2_act 73 0 74 := Or.inr ⟨0, rfl, by decide +kernel, rfl⟩
theorem iX2_act_74 : Ins MX2_act 74 (.getfield 22) 3 77 := ⟨by decide +kernel, rfl⟩
theorem iX2_act_77 : Ins MX2_act 77 (.bipush 11) 2 79 := ⟨by decide +kernel, rfl⟩
theorem iX2_act_79 : Jmp MX2_act 79 (.if_icmp .ge) 93 82 := ⟨14, ⟨by decide +kernel, rfl⟩, by decide⟩
theorem iX2_act_82 : LdA MX2_act 82 0 83 := Or.inr ⟨0, rfl, by decide +kernel, rfl⟩
theorem iX2_act_83 : Ins MX2_act 83 (.invokevirtual 66) 3 86 := ⟨by decide +kernel, rfl⟩
theorem iX2_act_86 : Jmp MX2_act 86 (.ifCond .eq) 93 89 := ⟨7, ⟨by decide +kernel, rfl⟩, by decide⟩
theorem iX2_act_89 : LdA MX2_act 89 0 90 := Or.inr ⟨0, rfl, by decide +kernel, rfl⟩
theorem iX2_act_90 : Ins MX2_act 90 (.invokevirtual 69) 3 93 := ⟨by decide +kernel, rfl⟩
theorem iX2_act_93 : Ins MX2_act 93 (.return_) 1 94 := ⟨by decide +kernel, rfl⟩
theorem iX2_raise_0 : LdA MX2_raise 0 0 1 := Or.inr ⟨0, rfl, by decide +kernel, rfl⟩
theorem iX2_raise_1 : Ins MX2_raise 1 (.dup) 1 2 := ⟨by decide +kernel, rfl⟩
theorem iX2_raise_2 : Ins MX2_raise 2 (.getfield 22) 3 5 := ⟨by decide +kernel, rfl⟩
theorem iX2_raise_5 : Ins MX2_raise 5 (.iconst 1) 1 6 := ⟨by decide +kernel, rfl⟩
theorem iX2_raise_6 : Ins MX2_raise 6 (.iadd) 1 7 := ⟨by decide +kernel, rfl⟩
theorem iX2_raise_7 : Ins MX2_raise 7 (.putfield 22) 3 10 := ⟨by decide +kernel, rfl⟩
theorem iX2_raise_10 : Ins MX2_raise 10 (.iconst 0) 1 11 := ⟨by decide +kernel, rfl⟩
theorem iX2_raise_11 : StI MX2_raise 11 1 12 := ⟨Or.inr ⟨1, rfl, by decide +kernel, rfl⟩, Nat.le_of_ble_eq_true rfl⟩
theorem iX2_raise_12 : LdI MX2_raise 12 1 13 := Or.inr ⟨1, rfl, by decide +kernel, rfl⟩
theorem iX2_raise_13 : LdA MX2_raise 13 0 14 := Or.inr ⟨0, rfl, by decide +kernel, rfl⟩
theorem iX2_raise_14 : Ins MX2_raise 14 (.getfield 18) 3 17 := ⟨by decide +kernel, rfl⟩
theorem iX2_raise_17 : Jmp MX2_raise 17 (.if_icmp .ge) 35 20 := ⟨18, ⟨by decide +kernel, rfl⟩, by decide⟩
theorem iX2_raise_20 : LdA MX2_raise 20 0 21 := Or.inr ⟨0, rfl, by decide +kernel, rfl⟩
theorem iX2_raise_21 : Ins MX2_raise 21 (.getfield 11) 3 24 := ⟨by decide +kernel, rfl⟩
theorem iX2_raise_24 : LdI MX2_raise 24 1 25 := Or.inr ⟨1, rfl, by decide +kernel, rfl⟩
theorem iX2_raise_25 : Ins MX2_raise 25 (.aaload) 1 26 := ⟨by decide +kernel, rfl⟩
theorem iX2_raise_26 : Ins MX2_raise 26 (.invokevirtual 72) 3 29 := ⟨by decide +kernel, rfl⟩
theorem iX2_raise_29 : Inc MX2_raise 29 1 (1) 32 := ⟨⟨by decide +kernel, rfl⟩, Nat.le_of_ble_eq_true rfl⟩
theorem iX2_raise_32 : Jmp MX2_raise 32 .goto 12 35 := ⟨-20, ⟨by decide +kernel, rfl⟩, by decide⟩
theorem iX2_raise_35 : LdA MX2_raise 35 0 36 := Or.inr ⟨0, rfl, by decide +kernel, rfl⟩
theorem iX2_raise_36 : LdA MX2_raise 36 0 37 := Or.inr ⟨0, rfl, by decide +kernel, rfl⟩
theorem iX2_raise_37 : LdA MX2_raise 37 0 38 := Or.inr ⟨0, rfl, by decide +kernel, rfl⟩
theorem iX2_raise_38 : Ins MX2_raise 38 (.getfield 18) 3 41 := ⟨by decide +kernel, rfl⟩
theorem iX2_raise_41 : Ins MX2_raise 41 (.iconst 1) 1 42 := ⟨by decide +kernel, rfl⟩
theorem iX2_raise_42 : Ins MX2_raise 42 (.isub) 1 43 := ⟨by decide +kernel, rfl⟩
theorem iX2_raise_43 : Ins MX2_raise 43 (.invokevirtual 48) 3 46 := ⟨by decide +kernel, rfl⟩
theorem iX2_raise_46 : Ins MX2_raise 46 (.putfield 25) 3 49 := ⟨by decide +kernel, rfl⟩
theorem iX2_raise_49 : Ins MX2_raise 49 (.return_) 1 50 := ⟨by decide +kernel, rfl⟩
theorem iX2_nextBehind_0 : Ins MX2_nextBehind 0 (.iconst 1) 1 1 := ⟨by decide +kernel, rfl⟩
theorem iX2_nextBehind_1 : StI MX2_nextBehind 1 2 2 := ⟨Or.inr ⟨2, rfl, by decide +kernel, rfl⟩, Nat.le_of_ble_eq_true rfl⟩
theorem iX2_nextBehind_2 : LdI MX2_nextBehind 2 2 3 := Or.inr ⟨2, rfl, by decide +kernel, rfl⟩
theorem iX2_nextBehind_3 : LdA MX2_nextBehind 3 0 4 := Or.inr ⟨0, rfl, by decide +kernel, rfl⟩
theorem iX2_nextBehind_4 : Ins MX2_nextBehind 4 (.getfield 18) 3 7 := ⟨by decide +kernel, rfl⟩
theorem iX2_nextBehind_7 : Jmp MX2_nextBehind 7 (.if_icmp .gt) 57 10 := ⟨50, ⟨by decide +kernel, rfl⟩, by decide⟩
theorem iX2_nextBehind_10 : LdI MX2_nextBehind 10 1 11 := Or.inr ⟨1, rfl, by decide +kernel, rfl⟩
theorem iX2_nextBehind_11 : LdI MX2_nextBehind 11 2 12 := Or.inr ⟨2, rfl, by decide +kernel, rfl⟩
theorem iX2_nextBehind_12 : Ins MX2_nextBehind 12 (.iadd) 1 13 := ⟨by decide +kernel, rfl⟩
theorem iX2_nextBehind_13 : StI MX2_nextBehind 13 3 14 := ⟨Or.inr ⟨3, rfl, by decide +kernel, rfl⟩, Nat.le_of_ble_eq_true rfl⟩
theorem iX2_nextBehind_14 : LdI MX2_nextBehind 14 3 15 := Or.inr ⟨3, rfl, by decide +kernel, rfl⟩
theorem iX2_nextBehind_15 : LdA MX2_nextBehind 15 0 16 := Or.inr ⟨0, rfl, by decide +kernel, rfl⟩
theorem iX2_nextBehind_16 : Ins MX2_nextBehind 16 (.getfield 18) 3 19 := ⟨by decide +kernel, rfl⟩
theorem iX2_nextBehind_19 : Jmp MX2_nextBehind 19 (.if_icmp .lt) 29 22 := ⟨10, ⟨by decide +kernel, rfl⟩, by decide⟩
theorem iX2_nextBehind_22 : LdI MX2_nextBehind 22 3 23 := Or.inr ⟨3, rfl, by decide +kernel, rfl⟩
theorem iX2_nextBehind_23 : LdA MX2_nextBehind 23 0 24 := Or.inr ⟨0, rfl, by decide +kernel, rfl⟩
theorem iX2_nextBehind_24 : Ins MX2_nextBehind 24 (.getfield 18) 3 27 := ⟨by decide +kernel, rfl⟩
theorem iX2_nextBehind_27 : Ins MX2_nextBehind 27 (.isub) 1 28 := ⟨by decide +kernel, rfl⟩
theorem iX2_nextBehind_28 : StI MX2_nextBehind 28 3 29 := ⟨Or.inr ⟨3, rfl, by decide +kernel, rfl⟩, Nat.le_of_ble_eq_true rfl⟩
theorem iX2_nextBehind_29 : LdA MX2_nextBehind 29 0 30 := Or.inr ⟨0, rfl, by decide +kernel, rfl⟩
theorem iX2_nextBehind_30 : LdI MX2_nextBehind 30 3 31 := Or.inr ⟨3, rfl, by decide +kernel, rfl⟩
theorem iX2_nextBehind_31 : Ins MX2_nextBehind 31 (.invokevirtual 55) 3 34 := ⟨by decide +kernel, rfl⟩
theorem iX2_nextBehind_34 : Jmp MX2_nextBehind 34 (.ifCond .eq) 51 37 := ⟨17, ⟨by decide +kernel, rfl⟩, by decide⟩
theorem iX2_nextBehind_37 : LdA MX2_nextBehind 37 0 38 := Or.inr ⟨0, rfl, by decide +kernel, rfl⟩
theorem iX2_nextBehind_38 : Ins MX2_nextBehind 38 (.getfield 11) 3 41 := ⟨by decide +kernel, rfl⟩
theorem iX2_nextBehind_41 : LdI MX2_nextBehind 41 3 42 := Or.inr ⟨3, rfl, by decide +kernel, rfl⟩
theorem iX2_nextBehind_42 : Ins MX2_nextBehind 42 (.aaload) 1 43 := ⟨by decide +kernel, rfl⟩
theorem iX2_nextBehind_43 : Ins MX2_nextBehind 43 (.invokevirtual 75) 3 46 := ⟨by decide +kernel, rfl⟩
theorem iX2_nextBehind_46 : Jmp MX2_nextBehind 46 (.ifCond .eq) 51 49 := ⟨5, ⟨by decide +kernel, rfl⟩, by decide⟩
theorem iX2_nextBehind_49 : LdI MX2_nextBehind 49 3 50 := Or.inr ⟨3, rfl, by decide +kernel, rfl⟩
theorem iX2_nextBehind_50 : Ins MX2_nextBehind 50 (.ireturn) 1 51 := ⟨by decide +kernel, rfl⟩
theorem iX2_nextBehind_51 : Inc MX2_nextBehind 51 2 (1) 54 := ⟨⟨by decide +kernel, rfl⟩, Nat.le_of_ble_eq_true rfl⟩
theorem iX2_nextBehind_54 : Jmp MX2_nextBehind 54 .goto 2 57 := ⟨-52, ⟨by decide +kernel, rfl⟩, by decide⟩
theorem iX2_nextBehind_57 : Ins MX2_nextBehind 57 (.bipush (-9)) 2 59 := ⟨by decide +kernel, rfl⟩
theorem iX2_nextBehind_59 : Ins MX2_nextBehind 59 (.ireturn) 1 60 := ⟨by decide +kernel, rfl⟩
theorem iX2_oddsOfTurn_0 : LdA MX2_oddsOfTurn 0 0 1 := Or.inr ⟨0, rfl, by decide +kernel, rfl⟩
theorem iX2_oddsOfTurn_1 : LdA MX2_oddsOfTurn 1 0 2 := Or.inr ⟨0, rfl, by decide +kernel, rfl⟩
theorem iX2_oddsOfTurn_2 : Ins MX2_oddsOfTurn 2 (.getfield 25) 3 5 := ⟨by decide +kernel, rfl⟩
theorem iX2_oddsOfTurn_5 : Ins MX2_oddsOfTurn 5 (.invokevirtual 55) 3 8 := ⟨by decide +kernel, rfl⟩
theorem iX2_oddsOfTurn_8 : Jmp MX2_oddsOfTurn 8 (.ifCond .eq) 31 11 := ⟨23, ⟨by decide +kernel, rfl⟩, by decide⟩
theorem iX2_oddsOfTurn_11 : LdA MX2_oddsOfTurn 11 0 12 := Or.inr ⟨0, rfl, by decide +kernel, rfl⟩
theorem iX2_oddsOfTurn_12 : Ins MX2_oddsOfTurn 12 (.getfield 11) 3 15 := ⟨by decide +kernel, rfl⟩
theorem iX2_oddsOfTurn_15 : LdA MX2_oddsOfTurn 15 0 16 := Or.inr ⟨0, rfl, by decide +kernel, rfl⟩
theorem iX2_oddsOfTurn_16 : Ins MX2_oddsOfTurn 16 (.getfield 25) 3 19 := ⟨by decide +kernel, rfl⟩
theorem iX2_oddsOfTurn_19 : Ins MX2_oddsOfTurn 19 (.aaload) 1 20 := ⟨by decide +kernel, rfl⟩
theorem iX2_oddsOfTurn_20 : LdA MX2_oddsOfTurn 20 0 21 := Or.inr ⟨0, rfl, by decide +kernel, rfl⟩
theorem iX2_oddsOfTurn_21 : Ins MX2_oddsOfTurn 21 (.getfield 22) 3 24 := ⟨by decide +kernel, rfl⟩
theorem iX2_oddsOfTurn_24 : Ins MX2_oddsOfTurn 24 (.iconst 0) 1 25 := ⟨by decide +kernel, rfl⟩
theorem iX2_oddsOfTurn_25 : Ins MX2_oddsOfTurn 25 (.invokevirtual 79) 3 28 := ⟨by decide +kernel, rfl⟩
theorem iX2_oddsOfTurn_28 : Jmp MX2_oddsOfTurn 28 .goto 32 31 := ⟨4, ⟨by decide +kernel, rfl⟩, by decide⟩
theorem iX2_oddsOfTurn_31 : Ins MX2_oddsOfTurn 31 (.iconst 0) 1 32 := ⟨by decide +kernel, rfl⟩
theorem iX2_oddsOfTurn_32 : Ins MX2_oddsOfTurn 32 (.ireturn) 1 33 := ⟨by decide +kernel, rfl⟩
theorem iX2_betterThan_0 : Ins MX2_betterThan 0 (.iconst 0) 1 1 := ⟨by decide +kernel, rfl⟩
theorem iX2_betterThan_1 : StI MX2_betterThan 1 2 2 := ⟨Or.inr ⟨2, rfl, by decide +kernel, rfl⟩, Nat.le_of_ble_eq_true rfl⟩
theorem iX2_betterThan_2 : Ins MX2_betterThan 2 (.iconst 0) 1 3 := ⟨by decide +kernel, rfl⟩
theorem iX2_betterThan_3 : StI MX2_betterThan 3 3 4 := ⟨Or.inr ⟨3, rfl, by decide +kernel, rfl⟩, Nat.le_of_ble_eq_true rfl⟩
theorem iX2_betterThan_4 : LdI MX2_betterThan 4 3 5 := Or.inr ⟨3, rfl, by decide +kernel, rfl⟩
theorem iX2_betterThan_5 : LdA MX2_betterThan 5 0 6 := Or.inr ⟨0, rfl, by decide +kernel, rfl⟩
theorem iX2_betterThan_6 : Ins MX2_betterThan 6 (.getfield 18) 3 9 := ⟨by decide +kernel, rfl⟩
theorem iX2_betterThan_9 : Jmp MX2_betterThan 9 (.if_icmp .ge) 34 12 := ⟨25, ⟨by decide +kernel, rfl⟩, by decide⟩
theorem iX2_betterThan_12 : LdA MX2_betterThan 12 0 13 := Or.inr ⟨0, rfl, by decide +kernel, rfl⟩
theorem iX2_betterThan_13 : Ins MX2_betterThan 13 (.getfield 11) 3 16 := ⟨by decide +kernel, rfl⟩
theorem iX2_betterThan_16 : LdI MX2_betterThan 16 3 17 := Or.inr ⟨3, rfl, by decide +kernel, rfl⟩
theorem iX2_betterThan_17 : Ins MX2_betterThan 17 (.aaload) 1 18 := ⟨by decide +kernel, rfl⟩
theorem iX2_betterThan_18 : LdA MX2_betterThan 18 1 19 := Or.inr ⟨1, rfl, by decide +kernel, rfl⟩
theorem iX2_betterThan_19 : Ins MX2_betterThan 19 (.invokevirtual 83) 3 22 := ⟨by decide +kernel, rfl⟩
theorem iX2_betterThan_22 : Jmp MX2_betterThan 22 (.ifCond .eq) 28 25 := ⟨6, ⟨by decide +kernel, rfl⟩, by decide⟩
theorem iX2_betterThan_25 : Inc MX2_betterThan 25 2 (1) 28 := ⟨⟨by decide +kernel, rfl⟩, Nat.le_of_ble_eq_true rfl⟩
theorem iX2_betterThan_28 : Inc MX2_betterThan 28 3 (1) 31 := ⟨⟨by decide +kernel, rfl⟩, Nat.le_of_ble_eq_true rfl⟩
theorem iX2_betterThan_31 : Jmp MX2_betterThan 31 .goto 4 34 := ⟨-27, ⟨by decide +kernel, rfl⟩, by decide⟩
theorem iX2_betterThan_34 : LdI MX2_betterThan 34 2 35 := Or.inr ⟨2, rfl, by decide +kernel, rfl⟩
theorem iX2_betterThan_35 : Ins MX2_betterThan 35 (.ireturn) 1 36 := ⟨by decide +kernel, rfl⟩
theorem iX2_leaders_0 : Ins MX2_leaders 0 (.iconst 0) 1 1 := ⟨by decide +kernel, rfl⟩
theorem iX2_leaders_1 : StI MX2_leaders 1 1 2 := ⟨Or.inr ⟨1, rfl, by decide +kernel, rfl⟩, Nat.le_of_ble_eq_true rfl⟩
theorem iX2_leaders_2 : Ins MX2_leaders 2 (.iconst 0) 1 3 := ⟨by decide +kernel, rfl⟩
theorem iX2_leaders_3 : StI MX2_leaders 3 2 4 := ⟨Or.inr ⟨2, rfl, by decide +kernel, rfl⟩, Nat.le_of_ble_eq_true rfl⟩
theorem iX2_leaders_4 : LdI MX2_leaders 4 2 5 := Or.inr ⟨2, rfl, by decide +kernel, rfl⟩
theorem iX2_leaders_5 : LdA MX2_leaders 5 0 6 := Or.inr ⟨0, rfl, by decide +kernel, rfl⟩
theorem iX2_leaders_6 : Ins MX2_leaders 6 (.getfield 18) 3 9 := ⟨by decide +kernel, rfl⟩
theorem iX2_leaders_9 : Jmp MX2_leaders 9 (.if_icmp .ge) 37 12 := ⟨28, ⟨by decide +kernel, rfl⟩, by decide⟩
theorem iX2_leaders_12 : LdA MX2_leaders 12 0 13 := Or.inr ⟨0, rfl, by decide +kernel, rfl⟩
theorem iX2_leaders_13 : LdA MX2_leaders 13 0 14 := Or.inr ⟨0, rfl, by decide +kernel, rfl⟩
theorem iX2_leaders_14 : Ins MX2_leaders 14 (.getfield 11) 3 17 := ⟨by decide +kernel, rfl⟩
theorem iX2_leaders_17 : LdI MX2_leaders 17 2 18 := Or.inr ⟨2, rfl, by decide +kernel, rfl⟩
theorem iX2_leaders_18 : Ins MX2_leaders 18 (.aaload) 1 19 := ⟨by decide +kernel, rfl⟩
theorem iX2_leaders_19 : Ins MX2_leaders 19 (.invokevirtual 87) 3 22 := ⟨by decide +kernel, rfl⟩
theorem iX2_leaders_22 : Jmp MX2_leaders 22 (.ifCond .ne) 31 25 := ⟨9, ⟨by decide +kernel, rfl⟩, by decide⟩
theorem iX2_leaders_25 : LdI MX2_leaders 25 1 26 := Or.inr ⟨1, rfl, by decide +kernel, rfl⟩
theorem iX2_leaders_26 : Ins MX2_leaders 26 (.iconst 1) 1 27 := ⟨by decide +kernel, rfl⟩
theorem iX2_leaders_27 : LdI MX2_leaders 27 2 28 := Or.inr ⟨2, rfl, by decide +kernel, rfl⟩
theorem iX2_leaders_28 : Ins MX2_leaders 28 (.ishl) 1 29 := ⟨by decide +kernel, rfl⟩
theorem iX2_leaders_29 : Ins MX2_leaders 29 (.ior) 1 30 := ⟨by decide +kernel, rfl⟩
theorem iX2_leaders_30 : StI MX2_leaders 30 1 31 := ⟨Or.inr ⟨1, rfl, by decide +kernel, rfl⟩, Nat.le_of_ble_eq_true rfl⟩
theorem iX2_leaders_31 : Inc MX2_leaders 31 2 (1) 34 := ⟨⟨by decide +kernel, rfl⟩, Nat.le_of_ble_eq_true rfl⟩
theorem iX2_leaders_34 : Jmp MX2_leaders 34 .goto 4 37 := ⟨-30, ⟨by decide +kernel, rfl⟩, by decide⟩
theorem iX2_leaders_37 : LdI MX2_leaders 37 1 38 := Or.inr ⟨1, rfl, by decide +kernel, rfl⟩
theorem iX2_leaders_38 : Ins MX2_leaders 38 (.ireturn) 1 39 := ⟨by decide +kernel, rfl⟩
theorem iX2_who_0 : Ins MX2_who 0 (.iconst 0) 1 1 := ⟨by decide +kernel, rfl⟩
theorem iX2_who_1 : StI MX2_who 1 2 2 := ⟨Or.inr ⟨2, rfl, by decide +kernel, rfl⟩, Nat.le_of_ble_eq_true rfl⟩
theorem iX2_who_2 : Ins MX2_who 2 (.iconst 0) 1 3 := ⟨by decide +kernel, rfl⟩
theorem iX2_who_3 : StI MX2_who 3 3 4 := ⟨Or.inr ⟨3, rfl, by decide +kernel, rfl⟩, Nat.le_of_ble_eq_true rfl⟩
theorem iX2_who_4 : LdI MX2_who 4 3 5 := Or.inr ⟨3, rfl, by decide +kernel, rfl⟩
theorem iX2_who_5 : LdA MX2_who 5 0 6 := Or.inr ⟨0, rfl, by decide +kernel, rfl⟩
theorem iX2_who_6 : Ins MX2_who 6 (.getfield 18) 3 9 := ⟨by decide +kernel, rfl⟩
theorem iX2_who_9 : Jmp MX2_who 9 (.if_icmp .ge) 37 12 := ⟨28, ⟨by decide +kernel, rfl⟩, by decide⟩
theorem iX2_who_12 : LdA MX2_who 12 0 13 := Or.inr ⟨0, rfl, by decide +kernel, rfl⟩
theorem iX2_who_13 : Ins MX2_who 13 (.getfield 11) 3 16 := ⟨by decide +kernel, rfl⟩
theorem iX2_who_16 : LdI MX2_who 16 3 17 := Or.inr ⟨3, rfl, by decide +kernel, rfl⟩
theorem iX2_who_17 : Ins MX2_who 17 (.aaload) 1 18 := ⟨by decide +kernel, rfl⟩
theorem iX2_who_18 : Ins MX2_who 18 (.getfield 91) 3 21 := ⟨by decide +kernel, rfl⟩
theorem iX2_who_21 : LdI MX2_who 21 1 22 := Or.inr ⟨1, rfl, by decide +kernel, rfl⟩
theorem iX2_who_22 : Jmp MX2_who 22 (.if_icmp .ne) 31 25 := ⟨9, ⟨by decide +kernel, rfl⟩, by decide⟩
theorem iX2_who_25 : LdI MX2_who 25 2 26 := Or.inr ⟨2, rfl, by decide +kernel, rfl⟩
theorem iX2_who_26 : Ins MX2_who 26 (.iconst 1) 1 27 := ⟨by decide +kernel, rfl⟩
theorem iX2_who_27 : LdI MX2_who 27 3 28 := Or.inr ⟨3, rfl, by decide +kernel, rfl⟩
theorem iX2_who_28 : Ins MX2_who 28 (.ishl) 1 29 := ⟨by decide +kernel, rfl⟩
theorem iX2_who_29 : Ins MX2_who 29 (.ior) 1 30 := ⟨by decide +kernel, rfl⟩
theorem iX2_who_30 : StI MX2_who 30 2 31 := ⟨Or.inr ⟨2, rfl, by decide +kernel, rfl⟩, Nat.le_of_ble_eq_true rfl⟩
theorem iX2_who_31 : Inc MX2_who 31 3 (1) 34 := ⟨⟨by decide +kernel, rfl⟩, Nat.le_of_ble_eq_true rfl⟩
theorem iX2_who_34 : Jmp MX2_who 34 .goto 4 37 := ⟨-30, ⟨by decide +kernel, rfl⟩, by decide⟩
theorem iX2_who_37 : LdI MX2_who 37 2 38 := Or.inr ⟨2, rfl, by decide +kernel, rfl⟩
theorem iX2_who_38 : Ins MX2_who 38 (.ireturn) 1 39 := ⟨by decide +kernel, rfl⟩
theorem iX2_notOut_0 : Ins MX2_notOut 0 (.iconst 1) 1 1 := ⟨by decide +kernel, rfl⟩
theorem iX2_notOut_1 : LdA MX2_notOut 1 0 2 := Or.inr ⟨0, rfl, by decide +kernel, rfl⟩
theorem iX2_notOut_2 : Ins MX2_notOut 2 (.getfield 18) 3 5 := ⟨by decide +kernel, rfl⟩
theorem iX2_notOut_5 : Ins MX2_notOut 5 (.ishl) 1 6 := ⟨by decide +kernel, rfl⟩
theorem iX2_notOut_6 : Ins MX2_notOut 6 (.iconst 1) 1 7 := ⟨by decide +kernel, rfl⟩
theorem iX2_notOut_7 : Ins MX2_notOut 7 (.isub) 1 8 := ⟨by decide +kernel, rfl⟩
theorem iX2_notOut_8 : LdA MX2_notOut 8 0 9 := Or.inr ⟨0, rfl, by decide +kernel, rfl⟩
theorem iX2_notOut_9 : Ins MX2_notOut 9 (.iconst 3) 1 10 := ⟨by decide +kernel, rfl⟩
theorem iX2_notOut_10 : Ins MX2_notOut 10 (.invokevirtual 94) 3 13 := ⟨by decide +kernel, rfl⟩
theorem iX2_notOut_13 : Ins MX2_notOut 13 (.iconst (-1)) 1 14 := ⟨by decide +kernel, rfl⟩
theorem iX2_notOut_14 : Ins MX2_notOut 14 (.ixor) 1 15 := ⟨by decide +kernel, rfl⟩
theorem iX2_notOut_15 : Ins MX2_notOut 15 (.iand) 1 16 := ⟨by decide +kernel, rfl⟩
theorem iX2_notOut_16 : Ins MX2_notOut 16 (.ireturn) 1 17 := ⟨by decide +kernel, rfl⟩
theorem iX3_init_0 : LdA MX3_init 0 0 1 := Or.inr ⟨0, rfl, by decide +kernel, rfl⟩
theorem iX3_init_1 : Ins MX3_init 1 (.invokespecial 3) 3 4 := ⟨by decide +kernel, rfl⟩
theorem iX3_init_4 : LdA MX3_init 4 0 5 := Or.inr ⟨0, rfl, by decide +kernel, rfl⟩
theorem iX3_init_5 : Ins MX3_init 5 (.iconst 3) 1 6 := ⟨by decide +kernel, rfl⟩
theorem iX3_init_6 : Ins MX3_init 6 (.bipush 19) 2 8 := ⟨by decide +kernel, rfl⟩
theorem iX3_init_8 : Ins MX3_init 8 (.multianewarray 9 2) 4 12 := ⟨by decide +kernel, rfl⟩
theorem iX3_init_12 : Ins MX3_init 12 (.putfield 11) 3 15 := ⟨by decide +kernel, rfl⟩
theorem iX3_init_15 : LdA MX3_init 15 0 16 := Or.inr ⟨0, rfl, by decide +kernel, rfl⟩
theorem iX3_init_16 : Ins MX3_init 16 (.iconst 3) 1 17 := ⟨by decide +kernel, rfl⟩
theorem iX3_init_17 : Ins MX3_init 17 (.bipush 19) 2 19 := ⟨by decide +kernel, rfl⟩
theorem iX3_init_19 : Ins MX3_init 19 (.multianewarray 9 2) 4 23 := ⟨by decide +kernel, rfl⟩
theorem iX3_init_23 : Ins MX3_init 23 (.putfield 16) 3 26 := ⟨by decide +kernel, rfl⟩
theorem iX3_init_26 : Ins MX3_init 26 (.return_) 1 27 := ⟨by decide +kernel, rfl⟩
theorem iX3_such_0 : LdA MX3_such 0 0 1 := Or.inr ⟨0, rfl, by decide +kernel, rfl⟩
theorem iX3_such_1 : Ins MX3_such 1 (.getfield 11) 3 4 := ⟨by decide +kernel, rfl⟩
theorem iX3_such_4 : Ins MX3_such 4 (.invokestatic 19) 3 7 := ⟨by decide +kernel, rfl⟩
theorem iX3_such_7 : LdA MX3_such 7 0 8 := Or.inr ⟨0, rfl, by decide +kernel, rfl⟩
theorem iX3_such_8 : Ins MX3_such 8 (.getfield 11) 3 11 := ⟨by decide +kernel, rfl⟩
theorem iX3_such_11 : Ins MX3_such 11 (.iconst 0) 1 12 := ⟨by decide +kernel, rfl⟩
theorem iX3_such_12 : Ins MX3_such 12 (.aaload) 1 13 := ⟨by decide +kernel, rfl⟩
theorem iX3_such_13 : Ins MX3_such 13 (.iconst 0) 1 14 := ⟨by decide +kernel, rfl⟩
theorem iX3_such_14 : Ins MX3_such 14 (.iconst 1) 1 15 := ⟨by decide +kernel, rfl⟩
theorem iX3_such_15 : Ins MX3_such 15 (.iastore) 1 16 := ⟨by decide +kernel, rfl⟩
theorem iX3_such_16 : Ins MX3_such 16 (.iconst 0) 1 17 := ⟨by decide +kernel, rfl⟩
theorem iX3_such_17 : StI MX3_such 17 4 19 := ⟨Or.inl ⟨by decide +kernel, rfl⟩, Nat.le_of_ble_eq_true rfl⟩
theorem iX3_such_19 : Ins MX3_such 19 (.iconst 1) 1 20 := ⟨by decide +kernel, rfl⟩
theorem iX3_such_20 : StI MX3_such 20 5 22 := ⟨Or.inl ⟨by decide +kernel, rfl⟩, Nat.le_of_ble_eq_true rfl⟩
theorem iX3_such_22 : LdI MX3_such 22 5 24 := Or.inl ⟨by decide +kernel, rfl⟩
theorem iX3_such_24 : LdI MX3_such 24 1 25 := Or.inr ⟨1, rfl, by decide +kernel, rfl⟩
theorem iX3_such_25 : Jmp MX3_such 25 (.if_icmp .gt) 76 28 := ⟨51, ⟨by decide +kernel, rfl⟩, by decide⟩
theorem iX3_such_28 : LdI MX3_such 28 5 30 := Or.inl ⟨by decide +kernel, rfl⟩
theorem iX3_such_30 : LdI MX3_such 30 2 31 := Or.inr ⟨2, rfl, by decide +kernel, rfl⟩
theorem iX3_such_31 : Jmp MX3_such 31 (.if_icmp .le) 44 34 := ⟨13, ⟨by decide +kernel, rfl⟩, by decide⟩
theorem iX3_such_34 : LdI MX3_such 34 4 36 := Or.inl ⟨by decide +kernel, rfl⟩
theorem iX3_such_36 : LdA MX3_such 36 0 37 := Or.inr ⟨0, rfl, by decide +kernel, rfl⟩
theorem iX3_such_37 : LdI MX3_such 37 3 38 := Or.inr ⟨3, rfl, by decide +kernel, rfl⟩
theorem iX3_such_38 : Ins MX3_such 38 (.invokevirtual 23) 3 41 := ⟨by decide +kernel, rfl⟩
theorem iX3_such_41 : Ins MX3_such 41 (.iadd) 1 42 := ⟨by decide +kernel, rfl⟩
theorem iX3_such_42 : StI MX3_such 42 4 44 := ⟨Or.inl ⟨by decide +kernel, rfl⟩, Nat.le_of_ble_eq_true rfl⟩
theorem iX3_such_44 : LdA MX3_such 44 0 45 := Or.inr ⟨0, rfl, by decide +kernel, rfl⟩
theorem iX3_such_45 : LdI MX3_such 45 5 47 := Or.inl ⟨by decide +kernel, rfl⟩
theorem iX3_such_47 : LdI MX3_such 47 2 48 := Or.inr ⟨2, rfl, by decide +kernel, rfl⟩
theorem iX3_such_48 : Jmp MX3_such 48 (.if_icmp .gt) 55 51 := ⟨7, ⟨by decide +kernel, rfl⟩, by decide⟩
theorem iX3_such_51 : Ins MX3_such 51 (.iconst 1) 1 52 := ⟨by decide +kernel, rfl⟩
theorem iX3_such_52 : Jmp MX3_such 52 .goto 56 55 := ⟨4, ⟨by decide +kernel, rfl⟩, by decide⟩
theorem iX3_such_55 : Ins MX3_such 55 (.iconst 0) 1 56 := ⟨by decide +kernel, rfl⟩
theorem iX3_such_56 : LdI MX3_such 56 5 58 := Or.inl ⟨by decide +kernel, rfl⟩
theorem iX3_such_58 : LdI MX3_such 58 2 59 := Or.inr ⟨2, rfl, by decide +kernel, rfl⟩
theorem iX3_such_59 : Jmp MX3_such 59 (.if_icmp .eq) 66 62 := ⟨7, ⟨by decide +kernel, rfl⟩, by decide⟩
theorem iX3_such_62 : Ins MX3_such 62 (.iconst 1) 1 63 := ⟨by decide +kernel, rfl⟩
theorem iX3_such_63 : Jmp MX3_such 63 .goto 67 66 := ⟨4, ⟨by decide +kernel, rfl⟩, by decide⟩
theorem iX3_such_66 : Ins MX3_such 66 (.iconst 0) 1 67 := ⟨by decide +kernel, rfl⟩
theorem iX3_such_67 : Ins MX3_such 67 (.invokevirtual 27) 3 70 := ⟨by decide +kernel, rfl⟩
theorem iX3_such_70 : Inc MX3_such 70 5 (1) 73 := ⟨⟨by decide +kernel, rfl⟩, Nat.le_of_ble_eq_true rfl⟩
theorem iX3_such_73 : Jmp MX3_such 73 .goto 22 76 := ⟨-51, ⟨by decide +kernel, rfl⟩, by decide⟩
theorem iX3_such_76 : Ins MX3_such 76 (.iconst 0) 1 77 := ⟨by decide +kernel, rfl⟩
theorem iX3_such_77 : StI MX3_such 77 5 79 := ⟨Or.inl ⟨by decide +kernel, rfl⟩, Nat.le_of_ble_eq_true rfl⟩
theorem iX3_such_79 : LdI MX3_such 79 5 81 := Or.inl ⟨by decide +kernel, rfl⟩
theorem iX3_such_81 : Ins MX3_such 81 (.iconst 3) 1 82 := ⟨by decide +kernel, rfl⟩
theorem iX3_such_82 : Jmp MX3_such 82 (.if_icmp .ge) 105 85 := ⟨23, ⟨by decide +kernel, rfl⟩, by decide⟩
theorem iX3_such_85 : LdI MX3_such 85 4 87 := Or.inl ⟨by decide +kernel, rfl⟩
theorem iX3_such_87 : LdA MX3_such 87 0 88 := Or.inr ⟨0, rfl, by decide +kernel, rfl⟩
theorem iX3_such_88 : Ins MX3_such 88 (.getfield 11) 3 91 := ⟨by decide +kernel, rfl⟩
theorem iX3_such_91 : LdI MX3_such 91 5 93 := Or.inl ⟨by decide +kernel, rfl⟩
theorem iX3_such_93 : Ins MX3_such 93 (.aaload) 1 94 := ⟨by decide +kernel, rfl⟩
theorem iX3_such_94 : LdI MX3_such 94 3 95 := Or.inr ⟨3, rfl, by decide +kernel, rfl⟩
theorem iX3_such_95 : Ins MX3_such 95 (.iaload) 1 96 := ⟨by decide +kernel, rfl⟩
theorem iX3_such_96 : Ins MX3_such 96 (.iadd) 1 97 := ⟨by decide +kernel, rfl⟩
theorem iX3_such_97 : StI MX3_such 97 4 99 := ⟨Or.inl ⟨by decide +kernel, rfl⟩, Nat.le_of_ble_eq_true rfl⟩
theorem iX3_such_99 : Inc MX3_such 99 5 (1) 102 := ⟨⟨by decide +kernel, rfl⟩, Nat.le_of_ble_eq_true rfl⟩
theorem iX3_such_102 : Jmp MX3_such 102 .goto 79 105 := ⟨-23, ⟨by decide +kernel, rfl⟩, by decide⟩
theorem iX3_such_105 : LdI MX3_such 105 4 107 := Or.inl ⟨by decide +kernel, rfl⟩
theorem iX3_such_107 : Ins MX3_such 107 (.ireturn) 1 108 := ⟨by decide +kernel, rfl⟩
theorem iX3_outHere_0 : Ins MX3_outHere 0 (.iconst 0) 1 1 := ⟨by decide +kernel, rfl⟩
theorem iX3_outHere_1 : StI MX3_outHere 1 2 2 := ⟨Or.inr ⟨2, rfl, by decide +kernel, rfl⟩, Nat.le_of_ble_eq_true rfl⟩
theorem iX3_outHere_2 : Ins MX3_outHere 2 (.iconst 0) 1 3 := ⟨by decide +kernel, rfl⟩
theorem iX3_outHere_3 : StI MX3_outHere 3 3 4 := ⟨Or.inr ⟨3, rfl, by decide +kernel, rfl⟩, Nat.le_of_ble_eq_true rfl⟩
theorem iX3_outHere_4 : LdI MX3_outHere 4 3 5 := Or.inr ⟨3, rfl, by decide +kernel, rfl⟩
theorem iX3_outHere_5 : Ins MX3_outHere 5 (.iconst 3) 1 6 := ⟨by decide +kernel, rfl⟩
theorem iX3_outHere_6 : Jmp MX3_outHere 6 (.if_icmp .ge) 39 9 := ⟨33, ⟨by decide +kernel, rfl⟩, by decide⟩
theorem iX3_outHere_9 : LdI MX3_outHere 9 1 10 := Or.inr ⟨1, rfl, by decide +kernel, rfl⟩
theorem iX3_outHere_10 : Ins MX3_outHere 10 (.iconst 3) 1 11 := ⟨by decide +kernel, rfl⟩
theorem iX3_outHere_11 : LdI MX3_outHere 11 3 12 := Or.inr ⟨3, rfl, by decide +kernel, rfl⟩
theorem iX3_outHere_12 : Ins MX3_outHere 12 (.isub) 1 13 := ⟨by decide +kernel, rfl⟩
theorem iX3_outHere_13 : Ins MX3_outHere 13 (.isub) 1 14 := ⟨by decide +kernel, rfl⟩
theorem iX3_outHere_14 : StI MX3_outHere 14 4 16 := ⟨Or.inl ⟨by decide +kernel, rfl⟩, Nat.le_of_ble_eq_true rfl⟩
theorem iX3_outHere_16 : LdI MX3_outHere 16 4 18 := Or.inl ⟨by decide +kernel, rfl⟩
theorem iX3_outHere_18 : Jmp MX3_outHere 18 (.ifCond .lt) 33 21 := ⟨15, ⟨by decide +kernel, rfl⟩, by decide⟩
theorem iX3_outHere_21 : LdI MX3_outHere 21 2 22 := Or.inr ⟨2, rfl, by decide +kernel, rfl⟩
theorem iX3_outHere_22 : LdA MX3_outHere 22 0 23 := Or.inr ⟨0, rfl, by decide +kernel, rfl⟩
theorem iX3_outHere_23 : Ins MX3_outHere 23 (.getfield 11) 3 26 := ⟨by decide +kernel, rfl⟩
theorem iX3_outHere_26 : LdI MX3_outHere 26 3 27 := Or.inr ⟨3, rfl, by decide +kernel, rfl⟩
theorem iX3_outHere_27 : Ins MX3_outHere 27 (.aaload) 1 28 := ⟨by decide +kernel, rfl⟩
theorem iX3_outHere_28 : LdI MX3_outHere 28 4 30 := Or.inl ⟨by decide +kernel, rfl⟩
theorem iX3_outHere_30 : Ins MX3_outHere 30 (.iaload) 1 31 := ⟨by decide +kernel, rfl⟩
theorem iX3_outHere_31 : Ins MX3_outHere 31 (.iadd) 1 32 := ⟨by decide +kernel, rfl⟩
theorem iX3_outHere_32 : StI MX3_outHere 32 2 33 := ⟨Or.inr ⟨2, rfl, by decide +kernel, rfl⟩, Nat.le_of_ble_eq_true rfl⟩
theorem iX3_outHere_33 : Inc MX3_outHere 33 3 (1) 36 := ⟨⟨by decide +kernel, rfl⟩, Nat.le_of_ble_eq_true rfl⟩
theorem iX3_outHere_36 : Jmp MX3_outHere 36 .goto 4 39 := ⟨-32, ⟨by decide +kernel, rfl⟩, by decide⟩
theorem iX3_outHere_39 : LdI MX3_outHere 39 2 40 := Or.inr ⟨2, rfl, by decide +kernel, rfl⟩
theorem iX3_outHere_40 : Ins MX3_outHere 40 (.ireturn) 1 41 := ⟨by decide +kernel, rfl⟩
theorem iX3_goOn_0 : LdA MX3_goOn 0 0 1 := Or.inr ⟨0, rfl, by decide +kernel, rfl⟩
theorem iX3_goOn_1 : Ins MX3_goOn 1 (.getfield 16) 3 4 := ⟨by decide +kernel, rfl⟩
theorem iX3_goOn_4 : Ins MX3_goOn 4 (.invokestatic 19) 3 7 := ⟨by decide +kernel, rfl⟩
theorem iX3_goOn_7 : Ins MX3_goOn 7 (.iconst 0) 1 8 := ⟨by decide +kernel, rfl⟩
theorem iX3_goOn_8 : StI MX3_goOn 8 3 9 := ⟨Or.inr ⟨3, rfl, by decide +kernel, rfl⟩, Nat.le_of_ble_eq_true rfl⟩
theorem iX3_goOn_9 : LdI MX3_goOn 9 3 10 := Or.inr ⟨3, rfl, by decide +kernel, rfl⟩
theorem iX3_goOn_10 : Ins MX3_goOn 10 (.iconst 3) 1 11 := ⟨by decide +kernel, rfl⟩
theorem iX3_goOn_11 : Jmp MX3_goOn 11 (.if_icmp .ge) 109 14 := ⟨98, ⟨by decide +kernel, rfl⟩, by decide⟩
theorem iX3_goOn_14 : LdI MX3_goOn 14 3 15 := Or.inr ⟨3, rfl, by decide +kernel, rfl⟩
theorem iX3_goOn_15 : StI MX3_goOn 15 4 17 := ⟨Or.inl ⟨by decide +kernel, rfl⟩, Nat.le_of_ble_eq_true rfl⟩
theorem iX3_goOn_17 : LdI MX3_goOn 17 4 19 := Or.inl ⟨by decide +kernel, rfl⟩
theorem iX3_goOn_19 : Ins MX3_goOn 19 (.iconst 3) 1 20 := ⟨by decide +kernel, rfl⟩
theorem iX3_goOn_20 : Jmp MX3_goOn 20 (.if_icmp .ge) 103 23 := ⟨83, ⟨by decide +kernel, rfl⟩, by decide⟩
theorem iX3_goOn_23 : LdI MX3_goOn 23 4 25 := Or.inl ⟨by decide +kernel, rfl⟩
theorem iX3_goOn_25 : LdI MX3_goOn 25 3 26 := Or.inr ⟨3, rfl, by decide +kernel, rfl⟩
theorem iX3_goOn_26 : Ins MX3_goOn 26 (.isub) 1 27 := ⟨by decide +kernel, rfl⟩
theorem iX3_goOn_27 : StI MX3_goOn 27 5 29 := ⟨Or.inl ⟨by decide +kernel, rfl⟩, Nat.le_of_ble_eq_true rfl⟩
theorem iX3_goOn_29 : LdI MX3_goOn 29 5 31 := Or.inl ⟨by decide +kernel, rfl⟩
theorem iX3_goOn_31 : StI MX3_goOn 31 6 33 := ⟨Or.inl ⟨by decide +kernel, rfl⟩, Nat.le_of_ble_eq_true rfl⟩
theorem iX3_goOn_33 : LdI MX3_goOn 33 6 35 := Or.inl ⟨by decide +kernel, rfl⟩
theorem iX3_goOn_35 : Ins MX3_goOn 35 (.bipush 18) 2 37 := ⟨by decide +kernel, rfl⟩
theorem iX3_goOn_37 : Jmp MX3_goOn 37 (.if_icmp .gt) 97 40 := ⟨60, ⟨by decide +kernel, rfl⟩, by decide⟩
theorem iX3_goOn_40 : LdA MX3_goOn 40 0 41 := Or.inr ⟨0, rfl, by decide +kernel, rfl⟩
theorem iX3_goOn_41 : Ins MX3_goOn 41 (.getfield 11) 3 44 := ⟨by decide +kernel, rfl⟩
theorem iX3_goOn_44 : LdI MX3_goOn 44 3 45 := Or.inr ⟨3, rfl, by decide +kernel, rfl⟩
theorem iX3_goOn_45 : Ins MX3_goOn 45 (.aaload) 1 46 := ⟨by decide +kernel, rfl⟩
theorem iX3_goOn_46 : LdI MX3_goOn 46 6 48 := Or.inl ⟨by decide +kernel, rfl⟩
theorem iX3_goOn_48 : LdI MX3_goOn 48 5 50 := Or.inl ⟨by decide +kernel, rfl⟩
theorem iX3_goOn_50 : Ins MX3_goOn 50 (.isub) 1 51 := ⟨by decide +kernel, rfl⟩
theorem iX3_goOn_51 : Ins MX3_goOn 51 (.iaload) 1 52 := ⟨by decide +kernel, rfl⟩
theorem iX3_goOn_52 : StI MX3_goOn 52 7 54 := ⟨Or.inl ⟨by decide +kernel, rfl⟩, Nat.le_of_ble_eq_true rfl⟩
theorem iX3_goOn_54 : LdI MX3_goOn 54 1 55 := Or.inr ⟨1, rfl, by decide +kernel, rfl⟩
theorem iX3_goOn_55 : Jmp MX3_goOn 55 (.ifCond .eq) 72 58 := ⟨17, ⟨by decide +kernel, rfl⟩, by decide⟩
theorem iX3_goOn_58 : LdA MX3_goOn 58 0 59 := Or.inr ⟨0, rfl, by decide +kernel, rfl⟩
theorem iX3_goOn_59 : Ins MX3_goOn 59 (.getfield 16) 3 62 := ⟨by decide +kernel, rfl⟩
theorem iX3_goOn_62 : Ins MX3_goOn 62 (.iconst 0) 1 63 := ⟨by decide +kernel, rfl⟩
theorem iX3_goOn_63 : Ins MX3_goOn 63 (.aaload) 1 64 := ⟨by decide +kernel, rfl⟩
theorem iX3_goOn_64 : LdI MX3_goOn 64 6 66 := Or.inl ⟨by decide +kernel, rfl⟩
theorem iX3_goOn_66 : Ins MX3_goOn 66 (.dup2) 1 67 := ⟨by decide +kernel, rfl⟩
theorem iX3_goOn_67 : Ins MX3_goOn 67 (.iaload) 1 68 := ⟨by decide +kernel, rfl⟩
theorem iX3_goOn_68 : LdI MX3_goOn 68 7 70 := Or.inl ⟨by decide +kernel, rfl⟩
theorem iX3_goOn_70 : Ins MX3_goOn 70 (.iadd) 1 71 := ⟨by decide +kernel, rfl⟩
theorem iX3_goOn_71 : Ins MX3_goOn 71 (.iastore) 1 72 := ⟨by decide +kernel, rfl⟩
theorem iX3_goOn_72 : LdI MX3_goOn 72 2 73 := Or.inr ⟨2, rfl, by decide +kernel, rfl⟩
theorem iX3_goOn_73 : Jmp MX3_goOn 73 (.ifCond .eq) 91 76 := ⟨18, ⟨by decide +kernel, rfl⟩, by decide⟩
theorem iX3_goOn_76 : LdA MX3_goOn 76 0 77 := Or.inr ⟨0, rfl, by decide +kernel, rfl⟩
theorem iX3_goOn_77 : Ins MX3_goOn 77 (.getfield 16) 3 80 := ⟨by decide +kernel, rfl⟩
theorem iX3_goOn_80 : LdI MX3_goOn 80 4 82 := Or.inl ⟨by decide +kernel, rfl⟩
theorem iX3_goOn_82 : Ins MX3_goOn 82 (.aaload) 1 83 := ⟨by decide +kernel, rfl⟩
theorem iX3_goOn_83 : LdI MX3_goOn 83 6 85 := Or.inl ⟨by decide +kernel, rfl⟩
theorem iX3_goOn_85 : Ins MX3_goOn 85 (.dup2) 1 86 := ⟨by decide +kernel, rfl⟩
theorem iX3_goOn_86 : Ins MX3_goOn 86 (.iaload) 1 87 := ⟨by decide +kernel, rfl⟩
theorem iX3_goOn_87 : LdI MX3_goOn 87 7 89 := Or.inl ⟨by decide +kernel, rfl⟩
theorem iX3_goOn_89 : Ins MX3_goOn 89 (.iadd) 1 90 := ⟨by decide +kernel, rfl⟩
theorem iX3_goOn_90 : Ins MX3_goOn 90 (.iastore) 1 91 := ⟨by decide +kernel, rfl⟩
theorem iX3_goOn_91 : Inc MX3_goOn 91 6 (1) 94 := ⟨⟨by decide +kernel, rfl⟩, Nat.le_of_ble_eq_true rfl⟩
theorem iX3_goOn_94 : Jmp MX3_goOn 94 .goto 33 97 := ⟨-61, ⟨by decide +kernel, rfl⟩, by decide⟩
theorem iX3_goOn_97 : Inc MX3_goOn 97 4 (1) 100 := ⟨⟨by decide +kernel, rfl⟩, Nat.le_of_ble_eq_true rfl⟩
theorem iX3_goOn_100 : Jmp MX3_goOn 100 .goto 17 103 := ⟨-83, ⟨by decide +kernel, rfl⟩, by decide⟩
theorem iX3_goOn_103 : Inc MX3_goOn 103 3 (1) 106 := ⟨⟨by decide +kernel, rfl⟩, Nat.le_of_ble_eq_true rfl⟩
theorem iX3_goOn_106 : Jmp MX3_goOn 106 .goto 9 109 := ⟨-97, ⟨by decide +kernel, rfl⟩, by decide⟩
theorem iX3_goOn_109 : Ins MX3_goOn 109 (.iconst 0) 1 110 := ⟨by decide +kernel, rfl⟩
theorem iX3_goOn_110 : StI MX3_goOn 110 3 111 := ⟨Or.inr ⟨3, rfl, by decide +kernel, rfl⟩, Nat.le_of_ble_eq_true rfl⟩
theorem iX3_goOn_111 : LdI MX3_goOn 111 3 112 := Or.inr ⟨3, rfl, by decide +kernel, rfl⟩
theorem iX3_goOn_112 : Ins MX3_goOn 112 (.iconst 3) 1 113 := ⟨by decide +kernel, rfl⟩
theorem iX3_goOn_113 : Jmp MX3_goOn 113 (.if_icmp .ge) 141 116 := ⟨28, ⟨by decide +kernel, rfl⟩, by decide⟩
theorem iX3_goOn_116 : LdA MX3_goOn 116 0 117 := Or.inr ⟨0, rfl, by decide +kernel, rfl⟩
theorem iX3_goOn_117 : Ins MX3_goOn 117 (.getfield 16) 3 120 := ⟨by decide +kernel, rfl⟩
theorem iX3_goOn_120 : LdI MX3_goOn 120 3 121 := Or.inr ⟨3, rfl, by decide +kernel, rfl⟩
theorem iX3_goOn_121 : Ins MX3_goOn 121 (.aaload) 1 122 := ⟨by decide +kernel, rfl⟩
theorem iX3_goOn_122 : Ins MX3_goOn 122 (.iconst 0) 1 123 := ⟨by decide +kernel, rfl⟩
theorem iX3_goOn_123 : LdA MX3_goOn 123 0 124 := Or.inr ⟨0, rfl, by decide +kernel, rfl⟩
theorem iX3_goOn_124 : Ins MX3_goOn 124 (.getfield 11) 3 127 := ⟨by decide +kernel, rfl⟩
theorem iX3_goOn_127 : LdI MX3_goOn 127 3 128 := Or.inr ⟨3, rfl, by decide +kernel, rfl⟩
theorem iX3_goOn_128 : Ins MX3_goOn 128 (.aaload) 1 129 := ⟨by decide +kernel, rfl⟩
theorem iX3_goOn_129 : Ins MX3_goOn 129 (.iconst 0) 1 130 := ⟨by decide +kernel, rfl⟩
theorem iX3_goOn_130 : Ins MX3_goOn 130 (.bipush 19) 2 132 := ⟨by decide +kernel, rfl⟩
theorem iX3_goOn_132 : Ins MX3_goOn 132 (.invokestatic 31) 3 135 := ⟨by decide +kernel, rfl⟩
theorem iX3_goOn_135 : Inc MX3_goOn 135 3 (1) 138 := ⟨⟨by decide +kernel, rfl⟩, Nat.le_of_ble_eq_true rfl⟩
theorem iX3_goOn_138 : Jmp MX3_goOn 138 .goto 111 141 := ⟨-27, ⟨by decide +kernel, rfl⟩, by decide⟩
theorem iX3_goOn_141 : Ins MX3_goOn 141 (.return_) 1 142 := ⟨by decide +kernel, rfl⟩
theorem iX3_empty_0 : Ins MX3_empty 0 (.iconst 0) 1 1 := ⟨by decide +kernel, rfl⟩
theorem iX3_empty_1 : StI MX3_empty 1 1 2 := ⟨Or.inr ⟨1, rfl, by decide +kernel, rfl⟩, Nat.le_of_ble_eq_true rfl⟩
theorem iX3_empty_2 : LdI MX3_empty 2 1 3 := Or.inr ⟨1, rfl, by decide +kernel, rfl⟩
theorem iX3_empty_3 : Ins MX3_empty 3 (.iconst 3) 1 4 := ⟨by decide +kernel, rfl⟩
theorem iX3_empty_4 : Jmp MX3_empty 4 (.if_icmp .ge) 33 7 := ⟨29, ⟨by decide +kernel, rfl⟩, by decide⟩
theorem iX3_empty_7 : Ins MX3_empty 7 (.iconst 0) 1 8 := ⟨by decide +kernel, rfl⟩
theorem iX3_empty_8 : StI MX3_empty 8 2 9 := ⟨Or.inr ⟨2, rfl, by decide +kernel, rfl⟩, Nat.le_of_ble_eq_true rfl⟩
theorem iX3_empty_9 : LdI MX3_empty 9 2 10 := Or.inr ⟨2, rfl, by decide +kernel, rfl⟩
theorem iX3_empty_10 : Ins MX3_empty 10 (.bipush 18) 2 12 := ⟨by decide +kernel, rfl⟩
theorem iX3_empty_12 : Jmp MX3_empty 12 (.if_icmp .gt) 27 15 := ⟨15, ⟨by decide +kernel, rfl⟩, by decide⟩
theorem iX3_empty_15 : LdA MX3_empty 15 0 16 := Or.inr ⟨0, rfl, by decide +kernel, rfl⟩
theorem iX3_empty_16 : LdI MX3_empty 16 1 17 := Or.inr ⟨1, rfl, by decide +kernel, rfl⟩
theorem iX3_empty_17 : Ins MX3_empty 17 (.aaload) 1 18 := ⟨by decide +kernel, rfl⟩
theorem iX3_empty_18 : LdI MX3_empty 18 2 19 := Or.inr ⟨2, rfl, by decide +kernel, rfl⟩
theorem iX3_empty_19 : Ins MX3_empty 19 (.iconst 0) 1 20 := ⟨by decide +kernel, rfl⟩
theorem iX3_empty_20 : Ins MX3_empty 20 (.iastore) 1 21 := ⟨by decide +kernel, rfl⟩
theorem iX3_empty_21 : Inc MX3_empty 21 2 (1) 24 := ⟨⟨by decide +kernel, rfl⟩, Nat.le_of_ble_eq_true rfl⟩
theorem iX3_empty_24 : Jmp MX3_empty 24 .goto 9 27 := ⟨-15, ⟨by decide +kernel, rfl⟩, by decide⟩
theorem iX3_empty_27 : Inc MX3_empty 27 1 (1) 30 := ⟨⟨by decide +kernel, rfl⟩, Nat.le_of_ble_eq_true rfl⟩
theorem iX3_empty_30 : Jmp MX3_empty 30 .goto 2 33 := ⟨-28, ⟨by decide +kernel, rfl⟩, by decide⟩
theorem iX3_empty_33 : Ins MX3_empty 33 (.return_) 1 34 := ⟨by decide +kernel, rfl⟩
theorem iX4_init_0 : LdA MX4_init 0 0 1 := Or.inr ⟨0, rfl, by decide +kernel, rfl⟩
theorem iX4_init_1 : Ins MX4_init 1 (.invokespecial 3) 3 4 := ⟨by decide +kernel, rfl⟩
theorem iX4_init_4 : LdA MX4_init 4 0 5 := Or.inr ⟨0, rfl, by decide +kernel, rfl⟩
theorem iX4_init_5 : Ins MX4_init 5 (.bipush 16) 2 7 := ⟨by decide +kernel, rfl⟩
theorem iX4_init_7 : Ins MX4_init 7 (.newarray .int) 2 9 := ⟨by decide +kernel, rfl⟩
theorem iX4_init_9 : Ins MX4_init 9 (.putfield 9) 3 12 := ⟨by decide +kernel, rfl⟩
theorem iX4_init_12 : Ins MX4_init 12 (.return_) 1 13 := ⟨by decide +kernel, rfl⟩
theorem iX4_append_0 : LdI MX4_append 0 1 1 := Or.inr ⟨1, rfl, by decide +kernel, rfl⟩
theorem iX4_append_1 : Ins MX4_append 1 (.iconst 1) 1 2 := ⟨by decide +kernel, rfl⟩
theorem iX4_append_2 : Ins MX4_append 2 (.isub) 1 3 := ⟨by decide +kernel, rfl⟩
theorem iX4_append_3 : StI MX4_append 3 4 5 := ⟨Or.inl ⟨by decide +kernel, rfl⟩, Nat.le_of_ble_eq_true rfl⟩
theorem iX4_append_5 : LdI MX4_append 5 4 7 := Or.inl ⟨by decide +kernel, rfl⟩
theorem iX4_append_7 : Jmp MX4_append 7 (.ifCond .lt) 64 10 := ⟨57, ⟨by decide +kernel, rfl⟩, by decide⟩
theorem iX4_append_10 : LdA MX4_append 10 0 11 := Or.inr ⟨0, rfl, by decide +kernel, rfl⟩
theorem iX4_append_11 : Ins MX4_append 11 (.getfield 15) 3 14 := ⟨by decide +kernel, rfl⟩
theorem iX4_append_14 : Jmp MX4_append 14 (.ifCond .lt) 26 17 := ⟨12, ⟨by decide +kernel, rfl⟩, by decide⟩
theorem iX4_append_17 : LdA MX4_append 17 0 18 := Or.inr ⟨0, rfl, by decide +kernel, rfl⟩
theorem iX4_append_18 : Ins MX4_append 18 (.getfield 15) 3 21 := ⟨by decide +kernel, rfl⟩
theorem iX4_append_21 : Ins MX4_append 21 (.bipush 16) 2 23 := ⟨by decide +kernel, rfl⟩
theorem iX4_append_23 : Jmp MX4_append 23 (.if_icmp .lt) 27 26 := ⟨4, ⟨by decide +kernel, rfl⟩, by decide⟩
theorem iX4_append_26 : Ins MX4_append 26 (.return_) 1 27 := ⟨by decide +kernel, rfl⟩
theorem iX4_append_27 : LdA MX4_append 27 0 28 := Or.inr ⟨0, rfl, by decide +kernel, rfl⟩
theorem iX4_append_28 : Ins MX4_append 28 (.getfield 9) 3 31 := ⟨by decide +kernel, rfl⟩
theorem iX4_append_31 : LdA MX4_append 31 0 32 := Or.inr ⟨0, rfl, by decide +kernel, rfl⟩
theorem iX4_append_32 : Ins MX4_append 32 (.getfield 15) 3 35 := ⟨by decide +kernel, rfl⟩
theorem iX4_append_35 : LdL MX4_append 35 2 36 := Or.inr ⟨2, rfl, by decide +kernel, rfl⟩
theorem iX4_append_36 : Ins MX4_append 36 (.bipush 8) 2 38 := ⟨by decide +kernel, rfl⟩
theorem iX4_append_38 : LdI MX4_append 38 4 40 := Or.inl ⟨by decide +kernel, rfl⟩
theorem iX4_append_40 : Ins MX4_append 40 (.imul) 1 41 := ⟨by decide +kernel, rfl⟩
theorem iX4_append_41 : Ins MX4_append 41 (.lushr) 1 42 := ⟨by decide +kernel, rfl⟩
theorem iX4_append_42 : Ins MX4_append 42 (.l2i) 1 43 := ⟨by decide +kernel, rfl⟩
theorem iX4_append_43 : Ins MX4_append 43 (.sipush 255) 3 46 := ⟨by decide +kernel, rfl⟩
theorem iX4_append_46 : Ins MX4_append 46 (.iand) 1 47 := ⟨by decide +kernel, rfl⟩
theorem iX4_append_47 : Ins MX4_append 47 (.iastore) 1 48 := ⟨by decide +kernel, rfl⟩
theorem iX4_append_48 : LdA MX4_append 48 0 49 := Or.inr ⟨0, rfl, by decide +kernel, rfl⟩
theorem iX4_append_49 : Ins MX4_append 49 (.dup) 1 50 := ⟨by decide +kernel, rfl⟩
theorem iX4_append_50 : Ins MX4_append 50 (.getfield 15) 3 53 := ⟨by decide +kernel, rfl⟩
theorem iX4_append_53 : Ins MX4_append 53 (.iconst 1) 1 54 := ⟨by decide +kernel, rfl⟩
theorem iX4_append_54 : Ins MX4_append 54 (.iadd) 1 55 := ⟨by decide +kernel, rfl⟩
theorem iX4_append_55 : Ins MX4_append 55 (.putfield 15) 3 58 := ⟨by decide +kernel, rfl⟩
theorem iX4_append_58 : Inc MX4_append 58 4 (-1) 61 := ⟨⟨by decide +kernel, rfl⟩, Nat.le_of_ble_eq_true rfl⟩
theorem iX4_append_61 : Jmp MX4_append 61 .goto 5 64 := ⟨-56, ⟨by decide +kernel, rfl⟩, by decide⟩
theorem iX4_append_64 : Ins MX4_append 64 (.return_) 1 65 := ⟨by decide +kernel, rfl⟩
theorem iX4_firstFault_0 : Ins MX4_firstFault 0 (.iconst 0) 1 1 := ⟨by decide +kernel, rfl⟩
theorem iX4_firstFault_1 : StI MX4_firstFault 1 1 2 := ⟨Or.inr ⟨1, rfl, by decide +kernel, rfl⟩, Nat.le_of_ble_eq_true rfl⟩
theorem iX4_firstFault_2 : LdI MX4_firstFault 2 1 3 := Or.inr ⟨1, rfl, by decide +kernel, rfl⟩
theorem iX4_firstFault_3 : LdA MX4_firstFault 3 0 4 := Or.inr ⟨0, rfl, by decide +kernel, rfl⟩
theorem iX4_firstFault_4 : Ins MX4_firstFault 4 (.getfield 15) 3 7 := ⟨by decide +kernel, rfl⟩
theorem iX4_firstFault_7 : Jmp MX4_firstFault 7 (.if_icmp .ge) 37 10 := ⟨30, ⟨by decide +kernel, rfl⟩, by decide⟩
theorem iX4_firstFault_10 : LdI MX4_firstFault 10 1 11 := Or.inr ⟨1, rfl, by decide +kernel, rfl⟩
theorem iX4_firstFault_11 : Ins MX4_firstFault 11 (.bipush 16) 2 13 := ⟨by decide +kernel, rfl⟩
theorem iX4_firstFault_13 : Jmp MX4_firstFault 13 (.if_icmp .ge) 37 16 := ⟨24, ⟨by decide +kernel, rfl⟩, by decide⟩
theorem iX4_firstFault_16 : LdI MX4_firstFault 16 1 17 := Or.inr ⟨1, rfl, by decide +kernel, rfl⟩
theorem iX4_firstFault_17 : LdA MX4_firstFault 17 0 18 := Or.inr ⟨0, rfl, by decide +kernel, rfl⟩
theorem iX4_firstFault_18 : Ins MX4_firstFault 18 (.getfield 9) 3 21 := ⟨by decide +kernel, rfl⟩
theorem iX4_firstFault_21 : LdI MX4_firstFault 21 1 22 := Or.inr ⟨1, rfl, by decide +kernel, rfl⟩
theorem iX4_firstFault_22 : Ins MX4_firstFault 22 (.iaload) 1 23 := ⟨by decide +kernel, rfl⟩
theorem iX4_firstFault_23 : Ins MX4_firstFault 23 (.invokestatic 19) 3 26 := ⟨by decide +kernel, rfl⟩
theorem iX4_firstFault_26 : Jmp MX4_firstFault 26 (.ifCond .ne) 31 29 := ⟨5, ⟨by decide +kernel, rfl⟩, by decide⟩
theorem iX4_firstFault_29 : LdI MX4_firstFault 29 1 30 := Or.inr ⟨1, rfl, by decide +kernel, rfl⟩
theorem iX4_firstFault_30 : Ins MX4_firstFault 30 (.ireturn) 1 31 := ⟨by decide +kernel, rfl⟩
theorem iX4_firstFault_31 : Inc MX4_firstFault 31 1 (1) 34 := ⟨⟨by decide +kernel, rfl⟩, Nat.le_of_ble_eq_true rfl⟩
theorem iX4_firstFault_34 : Jmp MX4_firstFault 34 .goto 2 37 := ⟨-32, ⟨by decide +kernel, rfl⟩, by decide⟩
theorem iX4_firstFault_37 : LdA MX4_firstFault 37 0 38 := Or.inr ⟨0, rfl, by decide +kernel, rfl⟩
theorem iX4_firstFault_38 : Ins MX4_firstFault 38 (.getfield 15) 3 41 := ⟨by decide +kernel, rfl⟩
theorem iX4_firstFault_41 : Ins MX4_firstFault 41 (.iconst 2) 1 42 := ⟨by decide +kernel, rfl⟩
theorem iX4_firstFault_42 : Jmp MX4_firstFault 42 (.if_icmp .lt) 56 45 := ⟨14, ⟨by decide +kernel, rfl⟩, by decide⟩
theorem iX4_firstFault_45 : LdA MX4_firstFault 45 0 46 := Or.inr ⟨0, rfl, by decide +kernel, rfl⟩
theorem iX4_firstFault_46 : Ins MX4_firstFault 46 (.getfield 15) 3 49 := ⟨by decide +kernel, rfl⟩
theorem iX4_firstFault_49 : Ins MX4_firstFault 49 (.iconst 2) 1 50 := ⟨by decide +kernel, rfl⟩
theorem iX4_firstFault_50 : Ins MX4_firstFault 50 (.isub) 1 51 := ⟨by decide +kernel, rfl⟩
theorem iX4_firstFault_51 : Ins MX4_firstFault 51 (.iconst 3) 1 52 := ⟨by decide +kernel, rfl⟩
theorem iX4_firstFault_52 : Ins MX4_firstFault 52 (.irem) 1 53 := ⟨by decide +kernel, rfl⟩
theorem iX4_firstFault_53 : Jmp MX4_firstFault 53 (.ifCond .eq) 61 56 := ⟨8, ⟨by decide +kernel, rfl⟩, by decide⟩
theorem iX4_firstFault_56 : LdA MX4_firstFault 56 0 57 := Or.inr ⟨0, rfl, by decide +kernel, rfl⟩
theorem iX4_firstFault_57 : Ins MX4_firstFault 57 (.getfield 15) 3 60 := ⟨by decide +kernel, rfl⟩
theorem iX4_firstFault_60 : Ins MX4_firstFault 60 (.ireturn) 1 61 := ⟨by decide +kernel, rfl⟩
theorem iX4_firstFault_61 : Ins MX4_firstFault 61 (.bipush (-9)) 2 63 := ⟨by decide +kernel, rfl⟩
theorem iX4_firstFault_63 : Ins MX4_firstFault 63 (.ireturn) 1 64 := ⟨by decide +kernel, rfl⟩
theorem iX4_canStand_0 : LdI MX4_canStand 0 0 1 := Or.inr ⟨0, rfl, by decide +kernel, rfl⟩
theorem iX4_canStand_1 : Jmp MX4_canStand 1 (.ifCond .ne) 16 4 := ⟨15, ⟨by decide +kernel, rfl⟩, by decide⟩
theorem iX4_canStand_4 : LdI MX4_canStand 4 1 5 := Or.inr ⟨1, rfl, by decide +kernel, rfl⟩
theorem iX4_canStand_5 : Ins MX4_canStand 5 (.bipush 85) 2 7 := ⟨by decide +kernel, rfl⟩
theorem iX4_canStand_7 : Jmp MX4_canStand 7 (.if_icmp .ne) 14 10 := ⟨7, ⟨by decide +kernel, rfl⟩, by decide⟩
theorem iX4_canStand_10 : Ins MX4_canStand 10 (.iconst 1) 1 11 := ⟨by decide +kernel, rfl⟩
theorem iX4_canStand_11 : Jmp MX4_canStand 11 .goto 15 14 := ⟨4, ⟨by decide +kernel, rfl⟩, by decide⟩
theorem iX4_canStand_14 : Ins MX4_canStand 14 (.iconst 0) 1 15 := ⟨by decide +kernel, rfl⟩
theorem iX4_canStand_15 : Ins MX4_canStand 15 (.ireturn) 1 16 := ⟨by decide +kernel, rfl⟩
theorem iX4_canStand_16 : LdI MX4_canStand 16 0 17 := Or.inr ⟨0, rfl, by decide +kernel, rfl⟩
theorem iX4_canStand_17 : Ins MX4_canStand 17 (.iconst 1) 1 18 := ⟨by decide +kernel, rfl⟩
theorem iX4_canStand_18 : Jmp MX4_canStand 18 (.if_icmp .ne) 39 21 := ⟨21, ⟨by decide +kernel, rfl⟩, by decide⟩
theorem iX4_canStand_21 : LdI MX4_canStand 21 1 22 := Or.inr ⟨1, rfl, by decide +kernel, rfl⟩
theorem iX4_canStand_22 : Ins MX4_canStand 22 (.bipush 48) 2 24 := ⟨by decide +kernel, rfl⟩
theorem iX4_canStand_24 : Jmp MX4_canStand 24 (.if_icmp .lt) 37 27 := ⟨13, ⟨by decide +kernel, rfl⟩, by decide⟩
theorem iX4_canStand_27 : LdI MX4_canStand 27 1 28 := Or.inr ⟨1, rfl, by decide +kernel, rfl⟩
theorem iX4_canStand_28 : Ins MX4_canStand 28 (.bipush 57) 2 30 := ⟨by decide +kernel, rfl⟩
theorem iX4_canStand_30 : Jmp MX4_canStand 30 (.if_icmp .gt) 37 33 := ⟨7, ⟨by decide +kernel, rfl⟩, by decide⟩
theorem iX4_canStand_33 : Ins MX4_canStand 33 (.iconst 1) 1 34 := ⟨by decide +kernel, rfl⟩
theorem iX4_canStand_34 : Jmp MX4_canStand 34 .goto 38 37 := ⟨4, ⟨by decide +kernel, rfl⟩, by decide⟩
theorem iX4_canStand_37 : Ins MX4_canStand 37 (.iconst 0) 1 38 := ⟨by decide +kernel, rfl⟩
theorem iX4_canStand_38 : Ins MX4_canStand 38 (.ireturn) 1 39 := ⟨by decide +kernel, rfl⟩
theorem iX4_canStand_39 : LdI MX4_canStand 39 0 40 := Or.inr ⟨0, rfl, by decide +kernel, rfl⟩
theorem iX4_canStand_40 : Ins MX4_canStand 40 (.bipush 14) 2 42 := ⟨by decide +kernel, rfl⟩
theorem iX4_canStand_42 : Jmp MX4_canStand 42 (.if_icmp .lt) 47 45 := ⟨5, ⟨by decide +kernel, rfl⟩, by decide⟩
theorem iX4_canStand_45 : Ins MX4_canStand 45 (.iconst 0) 1 46 := ⟨by decide +kernel, rfl⟩
theorem iX4_canStand_46 : Ins MX4_canStand 46 (.ireturn) 1 47 := ⟨by decide +kernel, rfl⟩
theorem iX4_canStand_47 : LdI MX4_canStand 47 0 48 := Or.inr ⟨0, rfl, by decide +kernel, rfl⟩
theorem iX4_canStand_48 : Ins MX4_canStand 48 (.iconst 2) 1 49 := ⟨by decide +kernel, rfl⟩
theorem iX4_canStand_49 : Ins MX4_canStand 49 (.isub) 1 50 := ⟨by decide +kernel, rfl⟩
theorem iX4_canStand_50 : Ins MX4_canStand 50 (.iconst 3) 1 51 := ⟨by decide +kernel, rfl⟩
theorem iX4_canStand_51 : Ins MX4_canStand 51 (.irem) 1 52 := ⟨by decide +kernel, rfl⟩
theorem iX4_canStand_52 : StI MX4_canStand 52 2 53 := ⟨Or.inr ⟨2, rfl, by decide +kernel, rfl⟩, Nat.le_of_ble_eq_true rfl⟩
theorem iX4_canStand_53 : LdI MX4_canStand 53 2 54 := Or.inr ⟨2, rfl, by decide +kernel, rfl⟩
theorem iX4_canStand_54 : Jmp MX4_canStand 54 (.ifCond .ne) 69 57 := ⟨15, ⟨by decide +kernel, rfl⟩, by decide⟩
theorem iX4_canStand_57 : LdI MX4_canStand 57 1 58 := Or.inr ⟨1, rfl, by decide +kernel, rfl⟩
theorem iX4_canStand_58 : Ins MX4_canStand 58 (.bipush 84) 2 60 := ⟨by decide +kernel, rfl⟩
theorem iX4_canStand_60 : Jmp MX4_canStand 60 (.if_icmp .ne) 67 63 := ⟨7, ⟨by decide +kernel, rfl⟩, by decide⟩
theorem iX4_canStand_63 : Ins MX4_canStand 63 (.iconst 1) 1 64 := ⟨by decide +kernel, rfl⟩
theorem iX4_canStand_64 : Jmp MX4_canStand 64 .goto 68 67 := ⟨4, ⟨by decide +kernel, rfl⟩, by decide⟩
theorem iX4_canStand_67 : Ins MX4_canStand 67 (.iconst 0) 1 68 := ⟨by decide +kernel, rfl⟩
theorem iX4_canStand_68 : Ins MX4_canStand 68 (.ireturn) 1 69 := ⟨by decide +kernel, rfl⟩
theorem iX4_canStand_69 : LdI MX4_canStand 69 1 70 := Or.inr ⟨1, rfl, by decide +kernel, rfl⟩
theorem iX4_canStand_70 : LdI MX4_canStand 70 2 71 := Or.inr ⟨2, rfl, by decide +kernel, rfl⟩
theorem iX4_canStand_71 : Ins MX4_canStand 71 (.iconst 1) 1 72 := ⟨by decide +kernel, rfl⟩
theorem iX4_canStand_72 : Jmp MX4_canStand 72 (.if_icmp .ne) 80 75 := ⟨8, ⟨by decide +kernel, rfl⟩, by decide⟩
theorem iX4_canStand_75 : Ins MX4_canStand 75 (.bipush 48) 2 77 := ⟨by decide +kernel, rfl⟩
theorem iX4_canStand_77 : Jmp MX4_canStand 77 .goto 82 80 := ⟨5, ⟨by decide +kernel, rfl⟩, by decide⟩
theorem iX4_canStand_80 : Ins MX4_canStand 80 (.bipush 49) 2 82 := ⟨by decide +kernel, rfl⟩
theorem iX4_canStand_82 : Jmp MX4_canStand 82 (.if_icmp .lt) 95 85 := ⟨13, ⟨by decide +kernel, rfl⟩, by decide⟩
theorem iX4_canStand_85 : LdI MX4_canStand 85 1 86 := Or.inr ⟨1, rfl, by decide +kernel, rfl⟩
theorem iX4_canStand_86 : Ins MX4_canStand 86 (.bipush 57) 2 88 := ⟨by decide +kernel, rfl⟩
theorem iX4_canStand_88 : Jmp MX4_canStand 88 (.if_icmp .gt) 95 91 := ⟨7, ⟨by decide +kernel, rfl⟩, by decide⟩
theorem iX4_canStand_91 : Ins MX4_canStand 91 (.iconst 1) 1 92 := ⟨by decide +kernel, rfl⟩
theorem iX4_canStand_92 : Jmp MX4_canStand 92 .goto 96 95 := ⟨4, ⟨by decide +kernel, rfl⟩, by decide⟩
theorem iX4_canStand_95 : Ins MX4_canStand 95 (.iconst 0) 1 96 := ⟨by decide +kernel, rfl⟩
theorem iX4_canStand_96 : Ins MX4_canStand 96 (.ireturn) 1 97 := ⟨by decide +kernel, rfl⟩
theorem iX4_throwersTold_0 : LdA MX4_throwersTold 0 0 1 := Or.inr ⟨0, rfl, by decide +kernel, rfl⟩
theorem iX4_throwersTold_1 : Ins MX4_throwersTold 1 (.getfield 15) 3 4 := ⟨by decide +kernel, rfl⟩
theorem iX4_throwersTold_4 : Ins MX4_throwersTold 4 (.iconst 2) 1 5 := ⟨by decide +kernel, rfl⟩
theorem iX4_throwersTold_5 : Jmp MX4_throwersTold 5 (.if_icmp .ge) 12 8 := ⟨7, ⟨by decide +kernel, rfl⟩, by decide⟩
theorem iX4_throwersTold_8 : Ins MX4_throwersTold 8 (.iconst 0) 1 9 := ⟨by decide +kernel, rfl⟩
theorem iX4_throwersTold_9 : Jmp MX4_throwersTold 9 .goto 24 12 := ⟨15, ⟨by decide +kernel, rfl⟩, by decide⟩
theorem iX4_throwersTold_12 : LdA MX4_throwersTold 12 0 13 := Or.inr ⟨0, rfl, by decide +kernel, rfl⟩
theorem iX4_throwersTold_13 : Ins MX4_throwersTold 13 (.getfield 15) 3 16 := ⟨by decide +kernel, rfl⟩
theorem iX4_throwersTold_16 : Ins MX4_throwersTold 16 (.iconst 2) 1 17 := ⟨by decide +kernel, rfl⟩
theorem iX4_throwersTold_17 : Ins MX4_throwersTold 17 (.isub) 1 18 := ⟨by decide +kernel, rfl⟩
theorem iX4_throwersTold_18 : Ins MX4_throwersTold 18 (.iconst 3) 1 19 := ⟨by decide +kernel, rfl⟩
theorem iX4_throwersTold_19 : Ins MX4_throwersTold 19 (.idiv) 1 20 := ⟨by decide +kernel, rfl⟩
theorem iX4_throwersTold_20 : Ins MX4_throwersTold 20 (.iconst 4) 1 21 := ⟨by decide +kernel, rfl⟩
theorem iX4_throwersTold_21 : Ins MX4_throwersTold 21 (.invokestatic 23) 3 24 := ⟨by decide +kernel, rfl⟩
theorem iX4_throwersTold_24 : Ins MX4_throwersTold 24 (.ireturn) 1 25 := ⟨by decide +kernel, rfl⟩
theorem iX4_barTold_0 : LdA MX4_barTold 0 0 1 := Or.inr ⟨0, rfl, by decide +kernel, rfl⟩
theorem iX4_barTold_1 : Ins MX4_barTold 1 (.iconst 1) 1 2 := ⟨by decide +kernel, rfl⟩
theorem iX4_barTold_2 : Ins MX4_barTold 2 (.invokevirtual 29) 3 5 := ⟨by decide +kernel, rfl⟩
theorem iX4_barTold_5 : Ins MX4_barTold 5 (.ireturn) 1 6 := ⟨by decide +kernel, rfl⟩
theorem iX4_strengthTold_0 : LdA MX4_strengthTold 0 0 1 := Or.inr ⟨0, rfl, by decide +kernel, rfl⟩
theorem iX4_strengthTold_1 : Ins MX4_strengthTold 1 (.iconst 2) 1 2 := ⟨by decide +kernel, rfl⟩
theorem iX4_strengthTold_2 : Ins MX4_strengthTold 2 (.iconst 3) 1 3 := ⟨by decide +kernel, rfl⟩
theorem iX4_strengthTold_3 : LdI MX4_strengthTold 3 1 4 := Or.inr ⟨1, rfl, by decide +kernel, rfl⟩
theorem iX4_strengthTold_4 : Ins MX4_strengthTold 4 (.imul) 1 5 := ⟨by decide +kernel, rfl⟩
theorem iX4_strengthTold_5 : Ins MX4_strengthTold 5 (.iadd) 1 6 := ⟨by decide +kernel, rfl⟩
theorem iX4_strengthTold_6 : Ins MX4_strengthTold 6 (.iconst 1) 1 7 := ⟨by decide +kernel, rfl⟩
theorem iX4_strengthTold_7 : Ins MX4_strengthTold 7 (.iadd) 1 8 := ⟨by decide +kernel, rfl⟩
theorem iX4_strengthTold_8 : Ins MX4_strengthTold 8 (.invokevirtual 29) 3 11 := ⟨by decide +kernel, rfl⟩
theorem iX4_strengthTold_11 : Ins MX4_strengthTold 11 (.ireturn) 1 12 := ⟨by decide +kernel, rfl⟩
theorem iX4_windTold_0 : LdA MX4_windTold 0 0 1 := Or.inr ⟨0, rfl, by decide +kernel, rfl⟩
theorem iX4_windTold_1 : Ins MX4_windTold 1 (.iconst 2) 1 2 := ⟨by decide +kernel, rfl⟩
theorem iX4_windTold_2 : Ins MX4_windTold 2 (.iconst 3) 1 3 := ⟨by decide +kernel, rfl⟩
theorem iX4_windTold_3 : LdI MX4_windTold 3 1 4 := Or.inr ⟨1, rfl, by decide +kernel, rfl⟩
theorem iX4_windTold_4 : Ins MX4_windTold 4 (.imul) 1 5 := ⟨by decide +kernel, rfl⟩
theorem iX4_windTold_5 : Ins MX4_windTold 5 (.iadd) 1 6 := ⟨by decide +kernel, rfl⟩
theorem iX4_windTold_6 : Ins MX4_windTold 6 (.iconst 2) 1 7 := ⟨by decide +kernel, rfl⟩
theorem iX4_windTold_7 : Ins MX4_windTold 7 (.iadd) 1 8 := ⟨by decide +kernel, rfl⟩
theorem iX4_windTold_8 : Ins MX4_windTold 8 (.invokevirtual 29) 3 11 := ⟨by decide +kernel, rfl⟩
theorem iX4_windTold_11 : Ins MX4_windTold 11 (.ireturn) 1 12 := ⟨by decide +kernel, rfl⟩
theorem iX4_figureAt_0 : LdI MX4_figureAt 0 1 1 := Or.inr ⟨1, rfl, by decide +kernel, rfl⟩
theorem iX4_figureAt_1 : Jmp MX4_figureAt 1 (.ifCond .lt) 30 4 := ⟨29, ⟨by decide +kernel, rfl⟩, by decide⟩
theorem iX4_figureAt_4 : LdI MX4_figureAt 4 1 5 := Or.inr ⟨1, rfl, by decide +kernel, rfl⟩
theorem iX4_figureAt_5 : LdA MX4_figureAt 5 0 6 := Or.inr ⟨0, rfl, by decide +kernel, rfl⟩
theorem iX4_figureAt_6 : Ins MX4_figureAt 6 (.getfield 15) 3 9 := ⟨by decide +kernel, rfl⟩
theorem iX4_figureAt_9 : Jmp MX4_figureAt 9 (.if_icmp .ge) 30 12 := ⟨21, ⟨by decide +kernel, rfl⟩, by decide⟩
theorem iX4_figureAt_12 : LdI MX4_figureAt 12 1 13 := Or.inr ⟨1, rfl, by decide +kernel, rfl⟩
theorem iX4_figureAt_13 : Ins MX4_figureAt 13 (.bipush 16) 2 15 := ⟨by decide +kernel, rfl⟩
theorem iX4_figureAt_15 : Jmp MX4_figureAt 15 (.if_icmp .ge) 30 18 := ⟨15, ⟨by decide +kernel, rfl⟩, by decide⟩
theorem iX4_figureAt_18 : LdA MX4_figureAt 18 0 19 := Or.inr ⟨0, rfl, by decide +kernel, rfl⟩
theorem iX4_figureAt_19 : Ins MX4_figureAt 19 (.getfield 9) 3 22 := ⟨by decide +kernel, rfl⟩
theorem iX4_figureAt_22 : LdI MX4_figureAt 22 1 23 := Or.inr ⟨1, rfl, by decide +kernel, rfl⟩
theorem iX4_figureAt_23 : Ins MX4_figureAt 23 (.iaload) 1 24 := ⟨by decide +kernel, rfl⟩
theorem iX4_figureAt_24 : Ins MX4_figureAt 24 (.bipush 48) 2 26 := ⟨by decide +kernel, rfl⟩
theorem iX4_figureAt_26 : Ins MX4_figureAt 26 (.isub) 1 27 := ⟨by decide +kernel, rfl⟩
theorem iX4_figureAt_27 : Jmp MX4_figureAt 27 .goto 31 30 := ⟨4, ⟨by decide +kernel, rfl⟩, by decide⟩
theorem iX4_figureAt_30 : Ins MX4_figureAt 30 (.iconst 0) 1 31 := ⟨by decide +kernel, rfl⟩
theorem iX4_figureAt_31 : Ins MX4_figureAt 31 (.ireturn) 1 32 := ⟨by decide +kernel, rfl⟩
theorem iX5_init_0 : LdA MX5_init 0 0 1 := Or.inr ⟨0, rfl, by decide +kernel, rfl⟩
theorem iX5_init_1 : Ins MX5_init 1 (.invokespecial 3) 3 4 := ⟨by decide +kernel, rfl⟩
theorem iX5_init_4 : LdA MX5_init 4 0 5 := Or.inr ⟨0, rfl, by decide +kernel, rfl⟩
theorem iX5_init_5 : Ins MX5_init 5 (.iconst 0) 1 6 := ⟨by decide +kernel, rfl⟩
theorem iX5_init_6 : Ins MX5_init 6 (.iconst 1) 1 7 := ⟨by decide +kernel, rfl⟩
theorem iX5_init_7 : Ins MX5_init 7 (.invokevirtual 9) 3 10 := ⟨by decide +kernel, rfl⟩
theorem iX5_init_10 : Ins MX5_init 10 (.return_) 1 11 := ⟨by decide +kernel, rfl⟩
theorem iX5_start_0 : LdA MX5_start 0 0 1 := Or.inr ⟨0, rfl, by decide +kernel, rfl⟩
theorem iX5_start_1 : LdI MX5_start 1 1 2 := Or.inr ⟨1, rfl, by decide +kernel, rfl⟩
theorem iX5_start_2 : Ins MX5_start 2 (.putfield 15) 3 5 := ⟨by decide +kernel, rfl⟩
theorem iX5_start_5 : LdA MX5_start 5 0 6 := Or.inr ⟨0, rfl, by decide +kernel, rfl⟩
theorem iX5_start_6 : LdI MX5_start 6 2 7 := Or.inr ⟨2, rfl, by decide +kernel, rfl⟩
theorem iX5_start_7 : Ins MX5_start 7 (.putfield 19) 3 10 := ⟨by decide +kernel, rfl⟩
theorem iX5_start_10 : LdA MX5_start 10 0 11 := Or.inr ⟨0, rfl, by decide +kernel, rfl⟩
theorem iX5_start_11 : Ins MX5_start 11 (.iconst 0) 1 12 := ⟨by decide +kernel, rfl⟩
theorem iX5_start_12 : Ins MX5_start 12 (.putfield 22) 3 15 := ⟨by decide +kernel, rfl⟩
theorem iX5_start_15 : LdA MX5_start 15 0 16 := Or.inr ⟨0, rfl, by decide +kernel, rfl⟩
theorem iX5_start_16 : Ins MX5_start 16 (.iconst 0) 1 17 := ⟨by decide +kernel, rfl⟩
theorem iX5_start_17 : Ins MX5_start 17 (.putfield 25) 3 20 := ⟨by decide +kernel, rfl⟩
theorem iX5_start_20 : LdA MX5_start 20 0 21 := Or.inr ⟨0, rfl, by decide +kernel, rfl⟩
theorem iX5_start_21 : Ins MX5_start 21 (.bipush (-9)) 2 23 := ⟨by decide +kernel, rfl⟩
theorem iX5_start_23 : Ins MX5_start 23 (.putfield 28) 3 26 := ⟨by decide +kernel, rfl⟩
theorem iX5_start_26 : LdA MX5_start 26 0 27 := Or.inr ⟨0, rfl, by decide +kernel, rfl⟩
theorem iX5_start_27 : Ins MX5_start 27 (.bipush (-9)) 2 29 := ⟨by decide +kernel, rfl⟩
theorem iX5_start_29 : Ins MX5_start 29 (.putfield 31) 3 32 := ⟨by decide +kernel, rfl⟩
theorem iX5_start_32 : LdA MX5_start 32 0 33 := Or.inr ⟨0, rfl, by decide +kernel, rfl⟩
theorem iX5_start_33 : Ins MX5_start 33 (.iconst 0) 1 34 := ⟨by decide +kernel, rfl⟩
theorem iX5_start_34 : Ins MX5_start 34 (.putfield 34) 3 37 := ⟨by decide +kernel, rfl⟩
theorem iX5_start_37 : LdA MX5_start 37 0 38 := Or.inr ⟨0, rfl, by decide +kernel, rfl⟩
theorem iX5_start_38 : Ins MX5_start 38 (.iconst 0) 1 39 := ⟨by decide +kernel, rfl⟩
theorem iX5_start_39 : Ins MX5_start 39 (.putfield 37) 3 42 := ⟨by decide +kernel, rfl⟩
theorem iX5_start_42 : LdA MX5_start 42 0 43 := Or.inr ⟨0, rfl, by decide +kernel, rfl⟩
theorem iX5_start_43 : Ins MX5_start 43 (.iconst 0) 1 44 := ⟨by decide +kernel, rfl⟩
theorem iX5_start_44 : Ins MX5_start 44 (.putfield 40) 3 47 := ⟨by decide +kernel, rfl⟩
theorem iX5_start_47 : Ins MX5_start 47 (.return_) 1 48 := ⟨by decide +kernel, rfl⟩
theorem iX5_copyFrom_0 : LdA MX5_copyFrom 0 0 1 := Or.inr ⟨0, rfl, by decide +kernel, rfl⟩
theorem iX5_copyFrom_1 : LdA MX5_copyFrom 1 1 2 := Or.inr ⟨1, rfl, by decide +kernel, rfl⟩
theorem iX5_copyFrom_2 : Ins MX5_copyFrom 2 (.getfield 15) 3 5 := ⟨by decide +kernel, rfl⟩
theorem iX5_copyFrom_5 : Ins MX5_copyFrom 5 (.putfield 15) 3 8 := ⟨by decide +kernel, rfl⟩
theorem iX5_copyFrom_8 : LdA MX5_copyFrom 8 0 9 := Or.inr ⟨0, rfl, by decide +kernel, rfl⟩
theorem iX5_copyFrom_9 : LdA MX5_copyFrom 9 1 10 := Or.inr ⟨1, rfl, by decide +kernel, rfl⟩
theorem iX5_copyFrom_10 : Ins MX5_copyFrom 10 (.getfield 19) 3 13 := ⟨by decide +kernel, rfl⟩
theorem iX5_copyFrom_13 : Ins MX5_copyFrom 13 (.putfield 19) 3 16 := ⟨by decide +kernel, rfl⟩
theorem iX5_copyFrom_16 : LdA MX5_copyFrom 16 0 17 := Or.inr ⟨0, rfl, by decide +kernel, rfl⟩
theorem iX5_copyFrom_17 : LdA MX5_copyFrom 17 1 18 := Or.inr ⟨1, rfl, by decide +kernel, rfl⟩
theorem iX5_copyFrom_18 : Ins MX5_copyFrom 18 (.getfield 22) 3 21 := ⟨by decide +kernel, rfl⟩
theorem iX5_copyFrom_21 : Ins MX5_copyFrom 21 (.putfield 22) 3 24 := ⟨by decide +kernel, rfl⟩
theorem iX5_copyFrom_24 : LdA MX5_copyFrom 24 0 25 := Or.inr ⟨0, rfl, by decide +kernel, rfl⟩
theorem iX5_copyFrom_25 : LdA MX5_copyFrom 25 1 26 := Or.inr ⟨1, rfl, by decide +kernel, rfl⟩
theorem iX5_copyFrom_26 : Ins MX5_copyFrom 26 (.getfield 25) 3 29 := ⟨by decide +kernel, rfl⟩
theorem iX5_copyFrom_29 : Ins MX5_copyFrom 29 (.putfield 25) 3 32 := ⟨by decide +kernel, rfl⟩
theorem iX5_copyFrom_32 : LdA MX5_copyFrom 32 0 33 := Or.inr ⟨0, rfl, by decide +kernel, rfl⟩
theorem iX5_copyFrom_33 : LdA MX5_copyFrom 33 1 34 := Or.inr ⟨1, rfl, by decide +kernel, rfl⟩
theorem iX5_copyFrom_34 : Ins MX5_copyFrom 34 (.getfield 28) 3 37 := ⟨by decide +kernel, rfl⟩
theorem iX5_copyFrom_37 : Ins MX5_copyFrom 37 (.putfield 28) 3 40 := ⟨by decide +kernel, rfl⟩
theorem iX5_copyFrom_40 : LdA MX5_copyFrom 40 0 41 := Or.inr ⟨0, rfl, by decide +kernel, rfl⟩
theorem iX5_copyFrom_41 : LdA MX5_copyFrom 41 1 42 := Or.inr ⟨1, rfl, by decide +kernel, rfl⟩
theorem iX5_copyFrom_42 : Ins MX5_copyFrom 42 (.getfield 31) 3 45 := ⟨by decide +kernel, rfl⟩
theorem iX5_copyFrom_45 : Ins MX5_copyFrom 45 (.putfield 31) 3 48 := ⟨by decide +kernel, rfl⟩
theorem iX5_copyFrom_48 : LdA MX5_copyFrom 48 0 49 := Or.inr ⟨0, rfl, by decide +kernel, rfl⟩
theorem iX5_copyFrom_49 : LdA MX5_copyFrom 49 1 50 := Or.inr ⟨1, rfl, by decide +kernel, rfl⟩
theorem iX5_copyFrom_50 : Ins MX5_copyFrom 50 (.getfield 34) 3 53 := ⟨by decide +kernel, rfl⟩
theorem iX5_copyFrom_53 : Ins MX5_copyFrom 53 (.putfield 34) 3 56 := ⟨by decide +kernel, rfl⟩
theorem iX5_copyFrom_56 : LdA MX5_copyFrom 56 0 57 := Or.inr ⟨0, rfl, by decide +kernel, rfl⟩
theorem iX5_copyFrom_57 : LdA MX5_copyFrom 57 1 58 := Or.inr ⟨1, rfl, by decide +kernel, rfl⟩
theorem iX5_copyFrom_58 : Ins MX5_copyFrom 58 (.getfield 37) 3 61 := ⟨by decide +kernel, rfl⟩
theorem iX5_copyFrom_61 : Ins MX5_copyFrom 61 (.putfield 37) 3 64 := ⟨by decide +kernel, rfl⟩
theorem iX5_copyFrom_64 : LdA MX5_copyFrom 64 0 65 := Or.inr ⟨0, rfl, by decide +kernel, rfl⟩
theorem iX5_copyFrom_65 : LdA MX5_copyFrom 65 1 66 := Or.inr ⟨1, rfl, by decide +kernel, rfl⟩
theorem iX5_copyFrom_66 : Ins MX5_copyFrom 66 (.getfield 40) 3 69 := ⟨by decide +kernel, rfl⟩
theorem iX5_copyFrom_69 : Ins MX5_copyFrom 69 (.putfield 40) 3 72 := ⟨by decide +kernel, rfl⟩
theorem iX5_copyFrom_72 : Ins MX5_copyFrom 72 (.return_) 1 73 := ⟨by decide +kernel, rfl⟩
theorem iX5_isOut_0 : LdA MX5_isOut 0 0 1 := Or.inr ⟨0, rfl, by decide +kernel, rfl⟩
theorem iX5_isOut_1 : Ins MX5_isOut 1 (.getfield 37) 3 4 := ⟨by decide +kernel, rfl⟩
theorem iX5_isOut_4 : Ins MX5_isOut 4 (.iconst 3) 1 5 := ⟨by decide +kernel, rfl⟩
theorem iX5_isOut_5 : Jmp MX5_isOut 5 (.if_icmp .ne) 12 8 := ⟨7, ⟨by decide +kernel, rfl⟩, by decide⟩
theorem iX5_isOut_8 : Ins MX5_isOut 8 (.iconst 1) 1 9 := ⟨by decide +kernel, rfl⟩
theorem iX5_isOut_9 : Jmp MX5_isOut 9 .goto 13 12 := ⟨4, ⟨by decide +kernel, rfl⟩, by decide⟩
theorem iX5_isOut_12 : Ins MX5_isOut 12 (.iconst 0) 1 13 := ⟨by decide +kernel, rfl⟩
theorem iX5_isOut_13 : Ins MX5_isOut 13 (.ireturn) 1 14 := ⟨by decide +kernel, rfl⟩
theorem iX5_mayTry_0 : LdA MX5_mayTry 0 0 1 := Or.inr ⟨0, rfl, by decide +kernel, rfl⟩
theorem iX5_mayTry_1 : Ins MX5_mayTry 1 (.getfield 37) 3 4 := ⟨by decide +kernel, rfl⟩
theorem iX5_mayTry_4 : Jmp MX5_mayTry 4 (.ifCond .ne) 11 7 := ⟨7, ⟨by decide +kernel, rfl⟩, by decide⟩
theorem iX5_mayTry_7 : Ins MX5_mayTry 7 (.iconst 1) 1 8 := ⟨by decide +kernel, rfl⟩
theorem iX5_mayTry_8 : Jmp MX5_mayTry 8 .goto 12 11 := ⟨4, ⟨by decide +kernel, rfl⟩, by decide⟩
theorem iX5_mayTry_11 : Ins MX5_mayTry 11 (.iconst 0) 1 12 := ⟨by decide +kernel, rfl⟩
theorem iX5_mayTry_12 : Ins MX5_mayTry 12 (.ireturn) 1 13 := ⟨by decide +kernel, rfl⟩
theorem iX5_attempt_0 : LdA MX5_attempt 0 0 1 := Or.inr ⟨0, rfl, by decide +kernel, rfl⟩
theorem iX5_attempt_1 : Ins MX5_attempt 1 (.dup) 1 2 := ⟨by decide +kernel, rfl⟩
theorem iX5_attempt_2 : Ins MX5_attempt 2 (.getfield 22) 3 5 := ⟨by decide +kernel, rfl⟩
theorem iX5_attempt_5 : Ins MX5_attempt 5 (.iconst 1) 1 6 := ⟨by decide +kernel, rfl⟩
theorem iX5_attempt_6 : Ins MX5_attempt 6 (.iadd) 1 7 := ⟨by decide +kernel, rfl⟩
theorem iX5_attempt_7 : Ins MX5_attempt 7 (.putfield 22) 3 10 := ⟨by decide +kernel, rfl⟩
theorem iX5_attempt_10 : LdI MX5_attempt 10 1 11 := Or.inr ⟨1, rfl, by decide +kernel, rfl⟩
theorem iX5_attempt_11 : Jmp MX5_attempt 11 (.ifCond .eq) 38 14 := ⟨27, ⟨by decide +kernel, rfl⟩, by decide⟩
theorem iX5_attempt_14 : LdA MX5_attempt 14 0 15 := Or.inr ⟨0, rfl, by decide +kernel, rfl⟩
theorem iX5_attempt_15 : LdI MX5_attempt 15 2 16 := Or.inr ⟨2, rfl, by decide +kernel, rfl⟩
theorem iX5_attempt_16 : Ins MX5_attempt 16 (.putfield 28) 3 19 := ⟨by decide +kernel, rfl⟩
theorem iX5_attempt_19 : LdA MX5_attempt 19 0 20 := Or.inr ⟨0, rfl, by decide +kernel, rfl⟩
theorem iX5_attempt_20 : LdA MX5_attempt 20 0 21 := Or.inr ⟨0, rfl, by decide +kernel, rfl⟩
theorem iX5_attempt_21 : Ins MX5_attempt 21 (.getfield 40) 3 24 := ⟨by decide +kernel, rfl⟩
theorem iX5_attempt_24 : Ins MX5_attempt 24 (.putfield 31) 3 27 := ⟨by decide +kernel, rfl⟩
theorem iX5_attempt_27 : LdA MX5_attempt 27 0 28 := Or.inr ⟨0, rfl, by decide +kernel, rfl⟩
theorem iX5_attempt_28 : Ins MX5_attempt 28 (.iconst 0) 1 29 := ⟨by decide +kernel, rfl⟩
theorem iX5_attempt_29 : Ins MX5_attempt 29 (.putfield 25) 3 32 := ⟨by decide +kernel, rfl⟩
theorem iX5_attempt_32 : LdA MX5_attempt 32 0 33 := Or.inr ⟨0, rfl, by decide +kernel, rfl⟩
theorem iX5_attempt_33 : Ins MX5_attempt 33 (.iconst 1) 1 34 := ⟨by decide +kernel, rfl⟩
theorem iX5_attempt_34 : Ins MX5_attempt 34 (.putfield 37) 3 37 := ⟨by decide +kernel, rfl⟩
theorem iX5_attempt_37 : Ins MX5_attempt 37 (.return_) 1 38 := ⟨by decide +kernel, rfl⟩
theorem iX5_attempt_38 : LdA MX5_attempt 38 0 39 := Or.inr ⟨0, rfl, by decide +kernel, rfl⟩
theorem iX5_attempt_39 : Ins MX5_attempt 39 (.dup) 1 40 := ⟨by decide +kernel, rfl⟩
theorem iX5_attempt_40 : Ins MX5_attempt 40 (.getfield 40) 3 43 := ⟨by decide +kernel, rfl⟩
theorem iX5_attempt_43 : Ins MX5_attempt 43 (.iconst 1) 1 44 := ⟨by decide +kernel, rfl⟩
theorem iX5_attempt_44 : Ins MX5_attempt 44 (.iadd) 1 45 := ⟨by decide +kernel, rfl⟩
theorem iX5_attempt_45 : Ins MX5_attempt 45 (.putfield 40) 3 48 := ⟨by decide +kernel, rfl⟩
theorem iX5_attempt_48 : LdA MX5_attempt 48 0 49 := Or.inr ⟨0, rfl, by decide +kernel, rfl⟩
theorem iX5_attempt_49 : Ins MX5_attempt 49 (.dup) 1 50 := ⟨by decide +kernel, rfl⟩
theorem iX5_attempt_50 : Ins MX5_attempt 50 (.getfield 34) 3 53 := ⟨by decide +kernel, rfl⟩
theorem iX5_attempt_53 : Ins MX5_attempt 53 (.iconst 1) 1 54 := ⟨by decide +kernel, rfl⟩
theorem iX5_attempt_54 : Ins MX5_attempt 54 (.iadd) 1 55 := ⟨by decide +kernel, rfl⟩
theorem iX5_attempt_55 : Ins MX5_attempt 55 (.putfield 34) 3 58 := ⟨by decide +kernel, rfl⟩
theorem iX5_attempt_58 : LdA MX5_attempt 58 0 59 := Or.inr ⟨0, rfl, by decide +kernel, rfl⟩
theorem iX5_attempt_59 : Ins MX5_attempt 59 (.dup) 1 60 := ⟨by decide +kernel, rfl⟩
theorem iX5_attempt_60 : Ins MX5_attempt 60 (.getfield 25) 3 63 := ⟨by decide +kernel, rfl⟩
theorem iX5_attempt_63 : Ins MX5_attempt 63 (.iconst 1) 1 64 := ⟨by decide +kernel, rfl⟩
theorem iX5_attempt_64 : Ins MX5_attempt 64 (.iadd) 1 65 := ⟨by decide +kernel, rfl⟩
theorem iX5_attempt_65 : Ins MX5_attempt 65 (.putfield 25) 3 68 := ⟨by decide +kernel, rfl⟩
theorem iX5_attempt_68 : LdA MX5_attempt 68 0 69 := Or.inr ⟨0, rfl, by decide +kernel, rfl⟩
theorem iX5_attempt_69 : Ins MX5_attempt 69 (.getfield 25) 3 72 := ⟨by decide +kernel, rfl⟩
theorem iX5_attempt_72 : Ins MX5_attempt 72 (.iconst 3) 1 73 := ⟨by decide +kernel, rfl⟩
theorem iX5_attempt_73 : Jmp MX5_attempt 73 (.if_icmp .lt) 81 76 := ⟨8, ⟨by decide +kernel, rfl⟩, by decide⟩
theorem iX5_attempt_76 : LdA MX5_attempt 76 0 77 := Or.inr ⟨0, rfl, by decide +kernel, rfl⟩
theorem iX5_attempt_77 : Ins MX5_attempt 77 (.iconst 3) 1 78 := ⟨by decide +kernel, rfl⟩
theorem iX5_attempt_78 : Ins MX5_attempt 78 (.putfield 37) 3 81 := ⟨by decide +kernel, rfl⟩
theorem iX5_attempt_81 : Ins MX5_attempt 81 (.return_) 1 82 := ⟨by decide +kernel, rfl⟩
theorem iX5_rest_0 : LdA MX5_rest 0 0 1 := Or.inr ⟨0, rfl, by decide +kernel, rfl⟩
theorem iX5_rest_1 : Ins MX5_rest 1 (.iconst 2) 1 2 := ⟨by decide +kernel, rfl⟩
theorem iX5_rest_2 : Ins MX5_rest 2 (.putfield 37) 3 5 := ⟨by decide +kernel, rfl⟩
theorem iX5_rest_5 : Ins MX5_rest 5 (.return_) 1 6 := ⟨by decide +kernel, rfl⟩
theorem iX5_startHeight_0 : LdA MX5_startHeight 0 0 1 := Or.inr ⟨0, rfl, by decide +kernel, rfl⟩
theorem iX5_startHeight_1 : Ins MX5_startHeight 1 (.iconst 0) 1 2 := ⟨by decide +kernel, rfl⟩
theorem iX5_startHeight_2 : Ins MX5_startHeight 2 (.putfield 40) 3 5 := ⟨by decide +kernel, rfl⟩
theorem iX5_startHeight_5 : LdA MX5_startHeight 5 0 6 := Or.inr ⟨0, rfl, by decide +kernel, rfl⟩
theorem iX5_startHeight_6 : Ins MX5_startHeight 6 (.getfield 37) 3 9 := ⟨by decide +kernel, rfl⟩
theorem iX5_startHeight_9 : Ins MX5_startHeight 9 (.iconst 3) 1 10 := ⟨by decide +kernel, rfl⟩
theorem iX5_startHeight_10 : Jmp MX5_startHeight 10 (.if_icmp .eq) 18 13 := ⟨8, ⟨by decide +kernel, rfl⟩, by decide⟩
theorem iX5_startHeight_13 : LdA MX5_startHeight 13 0 14 := Or.inr ⟨0, rfl, by decide +kernel, rfl⟩
theorem iX5_startHeight_14 : Ins MX5_startHeight 14 (.iconst 0) 1 15 := ⟨by decide +kernel, rfl⟩
theorem iX5_startHeight_15 : Ins MX5_startHeight 15 (.putfield 37) 3 18 := ⟨by decide +kernel, rfl⟩
theorem iX5_startHeight_18 : Ins MX5_startHeight 18 (.return_) 1 19 := ⟨by decide +kernel, rfl⟩
theorem iX5_oddsAt_0 : LdA MX5_oddsAt 0 0 1 := Or.inr ⟨0, rfl, by decide +kernel, rfl⟩
theorem iX5_oddsAt_1 : Ins MX5_oddsAt 1 (.getfield 19) 3 4 := ⟨by decide +kernel, rfl⟩
theorem iX5_oddsAt_4 : Jmp MX5_oddsAt 4 (.ifCond .le) 21 7 := ⟨17, ⟨by decide +kernel, rfl⟩, by decide⟩
theorem iX5_oddsAt_7 : LdA MX5_oddsAt 7 0 8 := Or.inr ⟨0, rfl, by decide +kernel, rfl⟩
theorem iX5_oddsAt_8 : Ins MX5_oddsAt 8 (.getfield 22) 3 11 := ⟨by decide +kernel, rfl⟩
theorem iX5_oddsAt_11 : LdI MX5_oddsAt 11 2 12 := Or.inr ⟨2, rfl, by decide +kernel, rfl⟩
theorem iX5_oddsAt_12 : Ins MX5_oddsAt 12 (.iadd) 1 13 := ⟨by decide +kernel, rfl⟩
theorem iX5_oddsAt_13 : LdA MX5_oddsAt 13 0 14 := Or.inr ⟨0, rfl, by decide +kernel, rfl⟩
theorem iX5_oddsAt_14 : Ins MX5_oddsAt 14 (.getfield 19) 3 17 := ⟨by decide +kernel, rfl⟩
theorem iX5_oddsAt_17 : Ins MX5_oddsAt 17 (.idiv) 1 18 := ⟨by decide +kernel, rfl⟩
theorem iX5_oddsAt_18 : Jmp MX5_oddsAt 18 .goto 22 21 := ⟨4, ⟨by decide +kernel, rfl⟩, by decide⟩
theorem iX5_oddsAt_21 : Ins MX5_oddsAt 21 (.iconst 0) 1 22 := ⟨by decide +kernel, rfl⟩
theorem iX5_oddsAt_22 : StI MX5_oddsAt 22 3 23 := ⟨Or.inr ⟨3, rfl, by decide +kernel, rfl⟩, Nat.le_of_ble_eq_true rfl⟩
theorem iX5_oddsAt_23 : Ins MX5_oddsAt 23 (.bipush 9) 2 25 := ⟨by decide +kernel, rfl⟩
theorem iX5_oddsAt_25 : LdA MX5_oddsAt 25 0 26 := Or.inr ⟨0, rfl, by decide +kernel, rfl⟩
theorem iX5_oddsAt_26 : Ins MX5_oddsAt 26 (.getfield 15) 3 29 := ⟨by decide +kernel, rfl⟩
theorem iX5_oddsAt_29 : Ins MX5_oddsAt 29 (.iadd) 1 30 := ⟨by decide +kernel, rfl⟩
theorem iX5_oddsAt_30 : LdI MX5_oddsAt 30 1 31 := Or.inr ⟨1, rfl, by decide +kernel, rfl⟩
theorem iX5_oddsAt_31 : Ins MX5_oddsAt 31 (.isub) 1 32 := ⟨by decide +kernel, rfl⟩
theorem iX5_oddsAt_32 : LdI MX5_oddsAt 32 3 33 := Or.inr ⟨3, rfl, by decide +kernel, rfl⟩
theorem iX5_oddsAt_33 : Ins MX5_oddsAt 33 (.isub) 1 34 := ⟨by decide +kernel, rfl⟩
theorem iX5_oddsAt_34 : StI MX5_oddsAt 34 4 36 := ⟨Or.inl ⟨by decide +kernel, rfl⟩, Nat.le_of_ble_eq_true rfl⟩
theorem iX5_oddsAt_36 : Ins MX5_oddsAt 36 (.iconst 0) 1 37 := ⟨by decide +kernel, rfl⟩
theorem iX5_oddsAt_37 : Ins MX5_oddsAt 37 (.bipush 9) 2 39 := ⟨by decide +kernel, rfl⟩
theorem iX5_oddsAt_39 : LdI MX5_oddsAt 39 4 41 := Or.inl ⟨by decide +kernel, rfl⟩
theorem iX5_oddsAt_41 : Ins MX5_oddsAt 41 (.invokestatic 43) 3 44 := ⟨by decide +kernel, rfl⟩
theorem iX5_oddsAt_44 : Ins MX5_oddsAt 44 (.invokestatic 49) 3 47 := ⟨by decide +kernel, rfl⟩
theorem iX5_oddsAt_47 : Ins MX5_oddsAt 47 (.ireturn) 1 48 := ⟨by decide +kernel, rfl⟩
theorem iX5_isBetterThan_0 : LdA MX5_isBetterThan 0 0 1 := Or.inr ⟨0, rfl, by decide +kernel, rfl⟩
theorem iX5_isBetterThan_1 : Ins MX5_isBetterThan 1 (.getfield 28) 3 4 := ⟨by decide +kernel, rfl⟩
theorem iX5_isBetterThan_4 : LdA MX5_isBetterThan 4 1 5 := Or.inr ⟨1, rfl, by decide +kernel, rfl⟩
theorem iX5_isBetterThan_5 : Ins MX5_isBetterThan 5 (.getfield 28) 3 8 := ⟨by decide +kernel, rfl⟩
theorem iX5_isBetterThan_8 : Jmp MX5_isBetterThan 8 (.if_icmp .eq) 28 11 := ⟨20, ⟨by decide +kernel, rfl⟩, by decide⟩
theorem iX5_isBetterThan_11 : LdA MX5_isBetterThan 11 0 12 := Or.inr ⟨0, rfl, by decide +kernel, rfl⟩
theorem iX5_isBetterThan_12 : Ins MX5_isBetterThan 12 (.getfield 28) 3 15 := ⟨by decide +kernel, rfl⟩
theorem iX5_isBetterThan_15 : LdA MX5_isBetterThan 15 1 16 := Or.inr ⟨1, rfl, by decide +kernel, rfl⟩
theorem iX5_isBetterThan_16 : Ins MX5_isBetterThan 16 (.getfield 28) 3 19 := ⟨by decide +kernel, rfl⟩
theorem iX5_isBetterThan_19 : Jmp MX5_isBetterThan 19 (.if_icmp .le) 26 22 := ⟨7, ⟨by decide +kernel, rfl⟩, by decide⟩
theorem iX5_isBetterThan_22 : Ins MX5_isBetterThan 22 (.iconst 1) 1 23 := ⟨by decide +kernel, rfl⟩
theorem iX5_isBetterThan_23 : Jmp MX5_isBetterThan 23 .goto 27 26 := ⟨4, ⟨by decide +kernel, rfl⟩, by decide⟩
theorem iX5_isBetterThan_26 : Ins MX5_isBetterThan 26 (.iconst 0) 1 27 := ⟨by decide +kernel, rfl⟩
theorem iX5_isBetterThan_27 : Ins MX5_isBetterThan 27 (.ireturn) 1 28 := ⟨by decide +kernel, rfl⟩
theorem iX5_isBetterThan_28 : LdA MX5_isBetterThan 28 0 29 := Or.inr ⟨0, rfl, by decide +kernel, rfl⟩
theorem iX5_isBetterThan_29 : Ins MX5_isBetterThan 29 (.getfield 31) 3 32 := ⟨by decide +kernel, rfl⟩
theorem iX5_isBetterThan_32 : LdA MX5_isBetterThan 32 1 33 := Or.inr ⟨1, rfl, by decide +kernel, rfl⟩
theorem iX5_isBetterThan_33 : Ins MX5_isBetterThan 33 (.getfield 31) 3 36 := ⟨by decide +kernel, rfl⟩
theorem iX5_isBetterThan_36 : Jmp MX5_isBetterThan 36 (.if_icmp .eq) 56 39 := ⟨20, ⟨by decide +kernel, rfl⟩, by decide⟩
theorem iX5_isBetterThan_39 : LdA MX5_isBetterThan 39 0 40 := Or.inr ⟨0, rfl, by decide +kernel, rfl⟩
theorem iX5_isBetterThan_40 : Ins MX5_isBetterThan 40 (.getfield 31) 3 43 := ⟨by decide +kernel, rfl⟩
theorem iX5_isBetterThan_43 : LdA MX5_isBetterThan 43 1 44 := Or.inr ⟨1, rfl, by decide +kernel, rfl⟩
theorem iX5_isBetterThan_44 : Ins MX5_isBetterThan 44 (.getfield 31) 3 47 := ⟨by decide +kernel, rfl⟩
theorem iX5_isBetterThan_47 : Jmp MX5_isBetterThan 47 (.if_icmp .ge) 54 50 := ⟨7, ⟨by decide +kernel, rfl⟩, by decide⟩
theorem iX5_isBetterThan_50 : Ins MX5_isBetterThan 50 (.iconst 1) 1 51 := ⟨by decide +kernel, rfl⟩
theorem iX5_isBetterThan_51 : Jmp MX5_isBetterThan 51 .goto 55 54 := ⟨4, ⟨by decide +kernel, rfl⟩, by decide⟩
theorem iX5_isBetterThan_54 : Ins MX5_isBetterThan 54 (.iconst 0) 1 55 := ⟨by decide +kernel, rfl⟩
theorem iX5_isBetterThan_55 : Ins MX5_isBetterThan 55 (.ireturn) 1 56 := ⟨by decide +kernel, rfl⟩
theorem iX5_isBetterThan_56 : LdA MX5_isBetterThan 56 0 57 := Or.inr ⟨0, rfl, by decide +kernel, rfl⟩
theorem iX5_isBetterThan_57 : Ins MX5_isBetterThan 57 (.getfield 34) 3 60 := ⟨by decide +kernel, rfl⟩
theorem iX5_isBetterThan_60 : LdA MX5_isBetterThan 60 1 61 := Or.inr ⟨1, rfl, by decide +kernel, rfl⟩
theorem iX5_isBetterThan_61 : Ins MX5_isBetterThan 61 (.getfield 34) 3 64 := ⟨by decide +kernel, rfl⟩
theorem iX5_isBetterThan_64 : Jmp MX5_isBetterThan 64 (.if_icmp .ge) 71 67 := ⟨7, ⟨by decide +kernel, rfl⟩, by decide⟩
theorem iX5_isBetterThan_67 : Ins MX5_isBetterThan 67 (.iconst 1) 1 68 := ⟨by decide +kernel, rfl⟩
theorem iX5_isBetterThan_68 : Jmp MX5_isBetterThan 68 .goto 72 71 := ⟨4, ⟨by decide +kernel, rfl⟩, by decide⟩
theorem iX5_isBetterThan_71 : Ins MX5_isBetterThan 71 (.iconst 0) 1 72 := ⟨by decide +kernel, rfl⟩
theorem iX5_isBetterThan_72 : Ins MX5_isBetterThan 72 (.ireturn) 1 73 := ⟨by decide +kernel, rfl⟩
theorem iX5_told_0 : LdI MX5_told 0 1 1 := Or.inr ⟨1, rfl, by decide +kernel, rfl⟩
theorem iX5_told_1 : Ins MX5_told 1 (.tableswitch 87 0 7 #[47, 52, 57, 62, 67, 72, 77, 82]) 47 48 := ⟨by decide +kernel, rfl⟩
theorem iX5_told_48 : LdA MX5_told 48 0 49 := Or.inr ⟨0, rfl, by decide +kernel, rfl⟩
theorem iX5_told_49 : Ins MX5_told 49 (.getfield 15) 3 52 := ⟨by decide +kernel, rfl⟩
theorem iX5_told_52 : Ins MX5_told 52 (.ireturn) 1 53 := ⟨by decide +kernel, rfl⟩
theorem iX5_told_53 : LdA MX5_told 53 0 54 := Or.inr ⟨0, rfl, by decide +kernel, rfl⟩
theorem iX5_told_54 : Ins MX5_told 54 (.getfield 19) 3 57 := ⟨by decide +kernel, rfl⟩
theorem iX5_told_57 : Ins MX5_told 57 (.ireturn) 1 58 := ⟨by decide +kernel, rfl⟩
theorem iX5_told_58 : LdA MX5_told 58 0 59 := Or.inr ⟨0, rfl, by decide +kernel, rfl⟩
theorem iX5_told_59 : Ins MX5_told 59 (.getfield 22) 3 62 := ⟨by decide +kernel, rfl⟩
theorem iX5_told_62 : Ins MX5_told 62 (.ireturn) 1 63 := ⟨by decide +kernel, rfl⟩
theorem iX5_told_63 : LdA MX5_told 63 0 64 := Or.inr ⟨0, rfl, by decide +kernel, rfl⟩
theorem iX5_told_64 : Ins MX5_told 64 (.getfield 25) 3 67 := ⟨by decide +kernel, rfl⟩
theorem iX5_told_67 : Ins MX5_told 67 (.ireturn) 1 68 := ⟨by decide +kernel, rfl⟩
theorem iX5_told_68 : LdA MX5_told 68 0 69 := Or.inr ⟨0, rfl, by decide +kernel, rfl⟩
theorem iX5_told_69 : Ins MX5_told 69 (.getfield 28) 3 72 := ⟨by decide +kernel, rfl⟩
theorem iX5_told_72 : Ins MX5_told 72 (.ireturn) 1 73 := ⟨by decide +kernel, rfl⟩
theorem iX5_told_73 : LdA MX5_told 73 0 74 := Or.inr ⟨0, rfl, by decide +kernel, rfl⟩
theorem iX5_told_74 : Ins MX5_told 74 (.getfield 31) 3 77 := ⟨by decide +kernel, rfl⟩
theorem iX5_told_77 : Ins MX5_told 77 (.ireturn) 1 78 := ⟨by decide +kernel, rfl⟩
theorem iX5_told_78 : LdA MX5_told 78 0 79 := Or.inr ⟨0, rfl, by decide +kernel, rfl⟩
theorem iX5_told_79 : Ins MX5_told 79 (.getfield 34) 3 82 := ⟨by decide +kernel, rfl⟩
theorem iX5_told_82 : Ins MX5_told 82 (.ireturn) 1 83 := ⟨by decide +kernel, rfl⟩
theorem iX5_told_83 : LdA MX5_told 83 0 84 := Or.inr ⟨0, rfl, by decide +kernel, rfl⟩
theorem iX5_told_84 : Ins MX5_told 84 (.getfield 37) 3 87 := ⟨by decide +kernel, rfl⟩
theorem iX5_told_87 : Ins MX5_told 87 (.ireturn) 1 88 := ⟨by decide +kernel, rfl⟩
theorem iX5_told_88 : LdA MX5_told 88 0 89 := Or.inr ⟨0, rfl, by decide +kernel, rfl⟩
theorem iX5_told_89 : Ins MX5_told 89 (.getfield 40) 3 92 := ⟨by decide +kernel, rfl⟩
theorem iX5_told_92 : Ins MX5_told 92 (.ireturn) 1 93 := ⟨by decide +kernel, rfl⟩
theorem iX6_init_0 : LdA MX6_init 0 0 1 := Or.inr ⟨0, rfl, by decide +kernel, rfl⟩
theorem iX6_init_1 : Ins MX6_init 1 (.invokespecial 3) 3 4 := ⟨by decide +kernel, rfl⟩
theorem iX6_init_4 : LdA MX6_init 4 0 5 := Or.inr ⟨0, rfl, by decide +kernel, rfl⟩
theorem iX6_init_5 : Ins MX6_init 5 (.new 9) 3 8 := ⟨by decide +kernel, rfl⟩
theorem iX6_init_8 : Ins MX6_init 8 (.dup) 1 9 := ⟨by decide +kernel, rfl⟩
theorem iX6_init_9 : Ins MX6_init 9 (.invokespecial 11) 3 12 := ⟨by decide +kernel, rfl⟩
theorem iX6_init_12 : Ins MX6_init 12 (.putfield 12) 3 15 := ⟨by decide +kernel, rfl⟩
theorem iX6_init_15 : LdA MX6_init 15 0 16 := Or.inr ⟨0, rfl, by decide +kernel, rfl⟩
theorem iX6_init_16 : Ins MX6_init 16 (.new 16) 3 19 := ⟨by decide +kernel, rfl⟩
theorem iX6_init_19 : Ins MX6_init 19 (.dup) 1 20 := ⟨by decide +kernel, rfl⟩
theorem iX6_init_20 : Ins MX6_init 20 (.invokespecial 18) 3 23 := ⟨by decide +kernel, rfl⟩
theorem iX6_init_23 : Ins MX6_init 23 (.putfield 19) 3 26 := ⟨by decide +kernel, rfl⟩
theorem iX6_init_26 : LdA MX6_init 26 0 27 := Or.inr ⟨0, rfl, by decide +kernel, rfl⟩
theorem iX6_init_27 : Ins MX6_init 27 (.new 16) 3 30 := ⟨by decide +kernel, rfl⟩
theorem iX6_init_30 : Ins MX6_init 30 (.dup) 1 31 := ⟨by decide +kernel, rfl⟩
theorem iX6_init_31 : Ins MX6_init 31 (.invokespecial 18) 3 34 := ⟨by decide +kernel, rfl⟩
theorem iX6_init_34 : Ins MX6_init 34 (.putfield 23) 3 37 := ⟨by decide +kernel, rfl⟩
theorem iX6_init_37 : LdA MX6_init 37 0 38 := Or.inr ⟨0, rfl, by decide +kernel, rfl⟩
theorem iX6_init_38 : Ins MX6_init 38 (.new 26) 3 41 := ⟨by decide +kernel, rfl⟩
theorem iX6_init_41 : Ins MX6_init 41 (.dup) 1 42 := ⟨by decide +kernel, rfl⟩
theorem iX6_init_42 : Ins MX6_init 42 (.invokespecial 28) 3 45 := ⟨by decide +kernel, rfl⟩
theorem iX6_init_45 : Ins MX6_init 45 (.putfield 29) 3 48 := ⟨by decide +kernel, rfl⟩
theorem iX6_init_48 : LdA MX6_init 48 0 49 := Or.inr ⟨0, rfl, by decide +kernel, rfl⟩
theorem iX6_init_49 : Ins MX6_init 49 (.iconst 2) 1 50 := ⟨by decide +kernel, rfl⟩
theorem iX6_init_50 : Ins MX6_init 50 (.anewarray 16) 3 53 := ⟨by decide +kernel, rfl⟩
theorem iX6_init_53 : Ins MX6_init 53 (.putfield 33) 3 56 := ⟨by decide +kernel, rfl⟩
theorem iX6_init_56 : Ins MX6_init 56 (.iconst 0) 1 57 := ⟨by decide +kernel, rfl⟩
theorem iX6_init_57 : StI MX6_init 57 1 58 := ⟨Or.inr ⟨1, rfl, by decide +kernel, rfl⟩, Nat.le_of_ble_eq_true rfl⟩
theorem iX6_init_58 : LdI MX6_init 58 1 59 := Or.inr ⟨1, rfl, by decide +kernel, rfl⟩
theorem iX6_init_59 : Ins MX6_init 59 (.iconst 2) 1 60 := ⟨by decide +kernel, rfl⟩
theorem iX6_init_60 : Jmp MX6_init 60 (.if_icmp .ge) 82 63 := ⟨22, ⟨by decide +kernel, rfl⟩, by decide⟩
theorem iX6_init_63 : LdA MX6_init 63 0 64 := Or.inr ⟨0, rfl, by decide +kernel, rfl⟩
theorem iX6_init_64 : Ins MX6_init 64 (.getfield 33) 3 67 := ⟨by decide +kernel, rfl⟩
theorem iX6_init_67 : LdI MX6_init 67 1 68 := Or.inr ⟨1, rfl, by decide +kernel, rfl⟩
theorem iX6_init_68 : Ins MX6_init 68 (.new 16) 3 71 := ⟨by decide +kernel, rfl⟩
theorem iX6_init_71 : Ins MX6_init 71 (.dup) 1 72 := ⟨by decide +kernel, rfl⟩
theorem iX6_init_72 : Ins MX6_init 72 (.invokespecial 18) 3 75 := ⟨by decide +kernel, rfl⟩
theorem iX6_init_75 : Ins MX6_init 75 (.aastore) 1 76 := ⟨by decide +kernel, rfl⟩
theorem iX6_init_76 : Inc MX6_init 76 1 (1) 79 := ⟨⟨by decide +kernel, rfl⟩, Nat.le_of_ble_eq_true rfl⟩
theorem iX6_init_79 : Jmp MX6_init 79 .goto 58 82 := ⟨-21, ⟨by decide +kernel, rfl⟩, by decide⟩
theorem iX6_init_82 : LdA MX6_init 82 0 83 := Or.inr ⟨0, rfl, by decide +kernel, rfl⟩
theorem iX6_init_83 : Ins MX6_init 83 (.iconst 2) 1 84 := ⟨by decide +kernel, rfl⟩
theorem iX6_init_84 : Ins MX6_init 84 (.newarray .boolean) 2 86 := ⟨by decide +kernel, rfl⟩
theorem iX6_init_86 : Ins MX6_init 86 (.putfield 37) 3 89 := ⟨by decide +kernel, rfl⟩
theorem iX6_init_89 : LdA MX6_init 89 0 90 := Or.inr ⟨0, rfl, by decide +kernel, rfl⟩
theorem iX6_init_90 : Ins MX6_init 90 (.bipush 13) 2 92 := ⟨by decide +kernel, rfl⟩
theorem iX6_init_92 : Ins MX6_init 92 (.anewarray 41) 3 95 := ⟨by decide +kernel, rfl⟩
theorem iX6_init_95 : Ins MX6_init 95 (.putfield 43) 3 98 := ⟨by decide +kernel, rfl⟩
theorem iX6_init_98 : Ins MX6_init 98 (.iconst 0) 1 99 := ⟨by decide +kernel, rfl⟩
theorem iX6_init_99 : StI MX6_init 99 1 100 := ⟨Or.inr ⟨1, rfl, by decide +kernel, rfl⟩, Nat.le_of_ble_eq_true rfl⟩
theorem iX6_init_100 : LdI MX6_init 100 1 101 := Or.inr ⟨1, rfl, by decide +kernel, rfl⟩
theorem iX6_init_101 : Ins MX6_init 101 (.bipush 12) 2 103 := ⟨by decide +kernel, rfl⟩
theorem iX6_init_103 : Jmp MX6_init 103 (.if_icmp .gt) 125 106 := ⟨22, ⟨by decide +kernel, rfl⟩, by decide⟩
theorem iX6_init_106 : LdA MX6_init 106 0 107 := Or.inr ⟨0, rfl, by decide +kernel, rfl⟩
theorem iX6_init_107 : Ins MX6_init 107 (.getfield 43) 3 110 := ⟨by decide +kernel, rfl⟩
theorem iX6_init_110 : LdI MX6_init 110 1 111 := Or.inr ⟨1, rfl, by decide +kernel, rfl⟩
theorem iX6_init_111 : Ins MX6_init 111 (.new 41) 3 114 := ⟨by decide +kernel, rfl⟩
theorem iX6_init_114 : Ins MX6_init 114 (.dup) 1 115 := ⟨by decide +kernel, rfl⟩
theorem iX6_init_115 : Ins MX6_init 115 (.invokespecial 47) 3 118 := ⟨by decide +kernel, rfl⟩
theorem iX6_init_118 : Ins MX6_init 118 (.aastore) 1 119 := ⟨by decide +kernel, rfl⟩
theorem iX6_init_119 : Inc MX6_init 119 1 (1) 122 := ⟨⟨by decide +kernel, rfl⟩, Nat.le_of_ble_eq_true rfl⟩
theorem iX6_init_122 : Jmp MX6_init 122 .goto 100 125 := ⟨-22, ⟨by decide +kernel, rfl⟩, by decide⟩
theorem iX6_init_125 : LdA MX6_init 125 0 126 := Or.inr ⟨0, rfl, by decide +kernel, rfl⟩
theorem iX6_init_126 : Ins MX6_init 126 (.new 48) 3 129 := ⟨by decide +kernel, rfl⟩
theorem iX6_init_129 : Ins MX6_init 129 (.dup) 1 130 := ⟨by decide +kernel, rfl⟩
theorem iX6_init_130 : Ins MX6_init 130 (.invokespecial 50) 3 133 := ⟨by decide +kernel, rfl⟩
theorem iX6_init_133 : Ins MX6_init 133 (.putfield 51) 3 136 := ⟨by decide +kernel, rfl⟩
theorem iX6_init_136 : LdA MX6_init 136 0 137 := Or.inr ⟨0, rfl, by decide +kernel, rfl⟩
theorem iX6_init_137 : Ins MX6_init 137 (.lconst 0) 1 138 := ⟨by decide +kernel, rfl⟩
theorem iX6_init_138 : Ins MX6_init 138 (.putfield 55) 3 141 := ⟨by decide +kernel, rfl⟩
theorem iX6_init_141 : Ins MX6_init 141 (.return_) 1 142 := ⟨by decide +kernel, rfl⟩
theorem iX6_write_0 : LdI MX6_write 0 1 1 := Or.inr ⟨1, rfl, by decide +kernel, rfl⟩
theorem iX6_write_1 : Ins MX6_write 1 (.iconst 1) 1 2 := ⟨by decide +kernel, rfl⟩
theorem iX6_write_2 : Jmp MX6_write 2 (.if_icmp .lt) 11 5 := ⟨9, ⟨by decide +kernel, rfl⟩, by decide⟩
theorem iX6_write_5 : LdI MX6_write 5 1 6 := Or.inr ⟨1, rfl, by decide +kernel, rfl⟩
theorem iX6_write_6 : Ins MX6_write 6 (.bipush 8) 2 8 := ⟨by decide +kernel, rfl⟩
theorem iX6_write_8 : Jmp MX6_write 8 (.if_icmp .le) 14 11 := ⟨6, ⟨by decide +kernel, rfl⟩, by decide⟩
theorem iX6_write_11 : Ins MX6_write 11 (.bipush (-2)) 2 13 := ⟨by decide +kernel, rfl⟩
theorem iX6_write_13 : Ins MX6_write 13 (.ireturn) 1 14 := ⟨by decide +kernel, rfl⟩
theorem iX6_write_14 : LdA MX6_write 14 0 15 := Or.inr ⟨0, rfl, by decide +kernel, rfl⟩
theorem iX6_write_15 : Ins MX6_write 15 (.getfield 12) 3 18 := ⟨by decide +kernel, rfl⟩
theorem iX6_write_18 : Ins MX6_write 18 (.getfield 59) 3 21 := ⟨by decide +kernel, rfl⟩
theorem iX6_write_21 : LdI MX6_write 21 1 22 := Or.inr ⟨1, rfl, by decide +kernel, rfl⟩
theorem iX6_write_22 : Ins MX6_write 22 (.iadd) 1 23 := ⟨by decide +kernel, rfl⟩
theorem iX6_write_23 : Ins MX6_write 23 (.bipush 16) 2 25 := ⟨by decide +kernel, rfl⟩
theorem iX6_write_25 : Jmp MX6_write 25 (.if_icmp .le) 31 28 := ⟨6, ⟨by decide +kernel, rfl⟩, by decide⟩
theorem iX6_write_28 : Ins MX6_write 28 (.bipush (-4)) 2 30 := ⟨by decide +kernel, rfl⟩
theorem iX6_write_30 : Ins MX6_write 30 (.ireturn) 1 31 := ⟨by decide +kernel, rfl⟩
theorem iX6_write_31 : LdA MX6_write 31 0 32 := Or.inr ⟨0, rfl, by decide +kernel, rfl⟩
theorem iX6_write_32 : Ins MX6_write 32 (.getfield 12) 3 35 := ⟨by decide +kernel, rfl⟩
theorem iX6_write_35 : LdI MX6_write 35 1 36 := Or.inr ⟨1, rfl, by decide +kernel, rfl⟩
theorem iX6_write_36 : LdL MX6_write 36 2 37 := Or.inr ⟨2, rfl, by decide +kernel, rfl⟩
theorem iX6_write_37 : Ins MX6_write 37 (.invokevirtual 63) 3 40 := ⟨by decide +kernel, rfl⟩
theorem iX6_write_40 : LdA MX6_write 40 0 41 := Or.inr ⟨0, rfl, by decide +kernel, rfl⟩
theorem iX6_write_41 : Ins MX6_write 41 (.getfield 12) 3 44 := ⟨by decide +kernel, rfl⟩
theorem iX6_write_44 : Ins MX6_write 44 (.getfield 59) 3 47 := ⟨by decide +kernel, rfl⟩
theorem iX6_write_47 : Ins MX6_write 47 (.ireturn) 1 48 := ⟨by decide +kernel, rfl⟩
theorem iX6_wipe_0 : LdA MX6_wipe 0 0 1 := Or.inr ⟨0, rfl, by decide +kernel, rfl⟩
theorem iX6_wipe_1 : Ins MX6_wipe 1 (.getfield 12) 3 4 := ⟨by decide +kernel, rfl⟩
theorem iX6_wipe_4 : Ins MX6_wipe 4 (.getfield 59) 3 7 := ⟨by decide +kernel, rfl⟩
theorem iX6_wipe_7 : StI MX6_wipe 7 1 8 := ⟨Or.inr ⟨1, rfl, by decide +kernel, rfl⟩, Nat.le_of_ble_eq_true rfl⟩
theorem iX6_wipe_8 : LdA MX6_wipe 8 0 9 := Or.inr ⟨0, rfl, by decide +kernel, rfl⟩
theorem iX6_wipe_9 : Ins MX6_wipe 9 (.getfield 12) 3 12 := ⟨by decide +kernel, rfl⟩
theorem iX6_wipe_12 : Ins MX6_wipe 12 (.iconst 0) 1 13 := ⟨by decide +kernel, rfl⟩
theorem iX6_wipe_13 : Ins MX6_wipe 13 (.putfield 59) 3 16 := ⟨by decide +kernel, rfl⟩
theorem iX6_wipe_16 : LdI MX6_wipe 16 1 17 := Or.inr ⟨1, rfl, by decide +kernel, rfl⟩
theorem iX6_wipe_17 : Ins MX6_wipe 17 (.ireturn) 1 18 := ⟨by decide +kernel, rfl⟩
theorem iX6_fault_0 : LdA MX6_fault 0 0 1 := Or.inr ⟨0, rfl, by decide +kernel, rfl⟩
theorem iX6_fault_1 : Ins MX6_fault 1 (.getfield 12) 3 4 := ⟨by decide +kernel, rfl⟩
theorem iX6_fault_4 : Ins MX6_fault 4 (.invokevirtual 67) 3 7 := ⟨by decide +kernel, rfl⟩
theorem iX6_fault_7 : Ins MX6_fault 7 (.ireturn) 1 8 := ⟨by decide +kernel, rfl⟩
theorem iX6_field_0 : LdA MX6_field 0 0 1 := Or.inr ⟨0, rfl, by decide +kernel, rfl⟩
theorem iX6_field_1 : Ins MX6_field 1 (.getfield 12) 3 4 := ⟨by decide +kernel, rfl⟩
theorem iX6_field_4 : Ins MX6_field 4 (.invokevirtual 67) 3 7 := ⟨by decide +kernel, rfl⟩
theorem iX6_field_7 : Ins MX6_field 7 (.bipush (-9)) 2 9 := ⟨by decide +kernel, rfl⟩
theorem iX6_field_9 : Jmp MX6_field 9 (.if_icmp .eq) 15 12 := ⟨6, ⟨by decide +kernel, rfl⟩, by decide⟩
theorem iX6_field_12 : Ins MX6_field 12 (.bipush (-3)) 2 14 := ⟨by decide +kernel, rfl⟩
theorem iX6_field_14 : Ins MX6_field 14 (.ireturn) 1 15 := ⟨by decide +kernel, rfl⟩
theorem iX6_field_15 : LdA MX6_field 15 0 16 := Or.inr ⟨0, rfl, by decide +kernel, rfl⟩
theorem iX6_field_16 : Ins MX6_field 16 (.getfield 19) 3 19 := ⟨by decide +kernel, rfl⟩
theorem iX6_field_19 : LdA MX6_field 19 0 20 := Or.inr ⟨0, rfl, by decide +kernel, rfl⟩
theorem iX6_field_20 : Ins MX6_field 20 (.getfield 12) 3 23 := ⟨by decide +kernel, rfl⟩
theorem iX6_field_23 : Ins MX6_field 23 (.invokevirtual 71) 3 26 := ⟨by decide +kernel, rfl⟩
theorem iX6_field_26 : LdA MX6_field 26 0 27 := Or.inr ⟨0, rfl, by decide +kernel, rfl⟩
theorem iX6_field_27 : Ins MX6_field 27 (.getfield 29) 3 30 := ⟨by decide +kernel, rfl⟩
theorem iX6_field_30 : Ins MX6_field 30 (.invokevirtual 75) 3 33 := ⟨by decide +kernel, rfl⟩
theorem iX6_field_33 : Ins MX6_field 33 (.iconst 0) 1 34 := ⟨by decide +kernel, rfl⟩
theorem iX6_field_34 : StI MX6_field 34 1 35 := ⟨Or.inr ⟨1, rfl, by decide +kernel, rfl⟩, Nat.le_of_ble_eq_true rfl⟩
theorem iX6_field_35 : LdI MX6_field 35 1 36 := Or.inr ⟨1, rfl, by decide +kernel, rfl⟩
theorem iX6_field_36 : Ins MX6_field 36 (.iconst 2) 1 37 := ⟨by decide +kernel, rfl⟩
theorem iX6_field_37 : Jmp MX6_field 37 (.if_icmp .ge) 53 40 := ⟨16, ⟨by decide +kernel, rfl⟩, by decide⟩
theorem iX6_field_40 : LdA MX6_field 40 0 41 := Or.inr ⟨0, rfl, by decide +kernel, rfl⟩
theorem iX6_field_41 : Ins MX6_field 41 (.getfield 37) 3 44 := ⟨by decide +kernel, rfl⟩
theorem iX6_field_44 : LdI MX6_field 44 1 45 := Or.inr ⟨1, rfl, by decide +kernel, rfl⟩
theorem iX6_field_45 : Ins MX6_field 45 (.iconst 0) 1 46 := ⟨by decide +kernel, rfl⟩
theorem iX6_field_46 : Ins MX6_field 46 (.bastore) 1 47 := ⟨by decide +kernel, rfl⟩
theorem iX6_field_47 : Inc MX6_field 47 1 (1) 50 := ⟨⟨by decide +kernel, rfl⟩, Nat.le_of_ble_eq_true rfl⟩
theorem iX6_field_50 : Jmp MX6_field 50 .goto 35 53 := ⟨-15, ⟨by decide +kernel, rfl⟩, by decide⟩
theorem iX6_field_53 : LdA MX6_field 53 0 54 := Or.inr ⟨0, rfl, by decide +kernel, rfl⟩
theorem iX6_field_54 : Ins MX6_field 54 (.getfield 19) 3 57 := ⟨by decide +kernel, rfl⟩
theorem iX6_field_57 : Ins MX6_field 57 (.getfield 78) 3 60 := ⟨by decide +kernel, rfl⟩
theorem iX6_field_60 : Ins MX6_field 60 (.ireturn) 1 61 := ⟨by decide +kernel, rfl⟩
theorem iX6_thrower_0 : LdA MX6_thrower 0 0 1 := Or.inr ⟨0, rfl, by decide +kernel, rfl⟩
theorem iX6_thrower_1 : Ins MX6_thrower 1 (.getfield 19) 3 4 := ⟨by decide +kernel, rfl⟩
theorem iX6_thrower_4 : LdI MX6_thrower 4 1 5 := Or.inr ⟨1, rfl, by decide +kernel, rfl⟩
theorem iX6_thrower_5 : Ins MX6_thrower 5 (.invokevirtual 81) 3 8 := ⟨by decide +kernel, rfl⟩
theorem iX6_thrower_8 : Jmp MX6_thrower 8 (.ifCond .ne) 13 11 := ⟨5, ⟨by decide +kernel, rfl⟩, by decide⟩
theorem iX6_thrower_11 : Ins MX6_thrower 11 (.iconst (-1)) 1 12 := ⟨by decide +kernel, rfl⟩
theorem iX6_thrower_12 : Ins MX6_thrower 12 (.ireturn) 1 13 := ⟨by decide +kernel, rfl⟩
theorem iX6_thrower_13 : LdI MX6_thrower 13 2 14 := Or.inr ⟨2, rfl, by decide +kernel, rfl⟩
theorem iX6_thrower_14 : Jmp MX6_thrower 14 (.ifCond .lt) 23 17 := ⟨9, ⟨by decide +kernel, rfl⟩, by decide⟩
theorem iX6_thrower_17 : LdI MX6_thrower 17 2 18 := Or.inr ⟨2, rfl, by decide +kernel, rfl⟩
theorem iX6_thrower_18 : Ins MX6_thrower 18 (.bipush 8) 2 20 := ⟨by decide +kernel, rfl⟩
theorem iX6_thrower_20 : Jmp MX6_thrower 20 (.if_icmp .le) 26 23 := ⟨6, ⟨by decide +kernel, rfl⟩, by decide⟩
theorem iX6_thrower_23 : Ins MX6_thrower 23 (.bipush (-2)) 2 25 := ⟨by decide +kernel, rfl⟩
theorem iX6_thrower_25 : Ins MX6_thrower 25 (.ireturn) 1 26 := ⟨by decide +kernel, rfl⟩
theorem iX6_thrower_26 : LdA MX6_thrower 26 0 27 := Or.inr ⟨0, rfl, by decide +kernel, rfl⟩
theorem iX6_thrower_27 : Ins MX6_thrower 27 (.getfield 19) 3 30 := ⟨by decide +kernel, rfl⟩
theorem iX6_thrower_30 : Ins MX6_thrower 30 (.getfield 85) 3 33 := ⟨by decide +kernel, rfl⟩
theorem iX6_thrower_33 : LdI MX6_thrower 33 1 34 := Or.inr ⟨1, rfl, by decide +kernel, rfl⟩
theorem iX6_thrower_34 : Ins MX6_thrower 34 (.aaload) 1 35 := ⟨by decide +kernel, rfl⟩
theorem iX6_thrower_35 : LdI MX6_thrower 35 2 36 := Or.inr ⟨2, rfl, by decide +kernel, rfl⟩
theorem iX6_thrower_36 : Ins MX6_thrower 36 (.invokevirtual 88) 3 39 := ⟨by decide +kernel, rfl⟩
theorem iX6_thrower_39 : Ins MX6_thrower 39 (.ireturn) 1 40 := ⟨by decide +kernel, rfl⟩
theorem iX6_on_0 : LdA MX6_on 0 0 1 := Or.inr ⟨0, rfl, by decide +kernel, rfl⟩
theorem iX6_on_1 : Ins MX6_on 1 (.getfield 19) 3 4 := ⟨by decide +kernel, rfl⟩
theorem iX6_on_4 : Ins MX6_on 4 (.getfield 92) 3 7 := ⟨by decide +kernel, rfl⟩
theorem iX6_on_7 : Ins MX6_on 7 (.ireturn) 1 8 := ⟨by decide +kernel, rfl⟩
theorem iX6_rank_0 : LdA MX6_rank 0 0 1 := Or.inr ⟨0, rfl, by decide +kernel, rfl⟩
theorem iX6_rank_1 : Ins MX6_rank 1 (.getfield 19) 3 4 := ⟨by decide +kernel, rfl⟩
theorem iX6_rank_4 : LdI MX6_rank 4 1 5 := Or.inr ⟨1, rfl, by decide +kernel, rfl⟩
theorem iX6_rank_5 : Ins MX6_rank 5 (.invokevirtual 81) 3 8 := ⟨by decide +kernel, rfl⟩
theorem iX6_rank_8 : Jmp MX6_rank 8 (.ifCond .ne) 13 11 := ⟨5, ⟨by decide +kernel, rfl⟩, by decide⟩
theorem iX6_rank_11 : Ins MX6_rank 11 (.iconst (-1)) 1 12 := ⟨by decide +kernel, rfl⟩
theorem iX6_rank_12 : Ins MX6_rank 12 (.ireturn) 1 13 := ⟨by decide +kernel, rfl⟩
theorem iX6_rank_13 : LdA MX6_rank 13 0 14 := Or.inr ⟨0, rfl, by decide +kernel, rfl⟩
theorem iX6_rank_14 : Ins MX6_rank 14 (.getfield 19) 3 17 := ⟨by decide +kernel, rfl⟩
theorem iX6_rank_17 : LdA MX6_rank 17 0 18 := Or.inr ⟨0, rfl, by decide +kernel, rfl⟩
theorem iX6_rank_18 : Ins MX6_rank 18 (.getfield 19) 3 21 := ⟨by decide +kernel, rfl⟩
theorem iX6_rank_21 : Ins MX6_rank 21 (.getfield 85) 3 24 := ⟨by decide +kernel, rfl⟩
theorem iX6_rank_24 : LdI MX6_rank 24 1 25 := Or.inr ⟨1, rfl, by decide +kernel, rfl⟩
theorem iX6_rank_25 : Ins MX6_rank 25 (.aaload) 1 26 := ⟨by decide +kernel, rfl⟩
theorem iX6_rank_26 : Ins MX6_rank 26 (.invokevirtual 95) 3 29 := ⟨by decide +kernel, rfl⟩
theorem iX6_rank_29 : Ins MX6_rank 29 (.ireturn) 1 30 := ⟨by decide +kernel, rfl⟩
theorem iX6_odds_0 : LdA MX6_odds 0 0 1 := Or.inr ⟨0, rfl, by decide +kernel, rfl⟩
theorem iX6_odds_1 : Ins MX6_odds 1 (.getfield 19) 3 4 := ⟨by decide +kernel, rfl⟩
theorem iX6_odds_4 : LdI MX6_odds 4 1 5 := Or.inr ⟨1, rfl, by decide +kernel, rfl⟩
theorem iX6_odds_5 : Ins MX6_odds 5 (.invokevirtual 81) 3 8 := ⟨by decide +kernel, rfl⟩
theorem iX6_odds_8 : Jmp MX6_odds 8 (.ifCond .ne) 13 11 := ⟨5, ⟨by decide +kernel, rfl⟩, by decide⟩
theorem iX6_odds_11 : Ins MX6_odds 11 (.iconst (-1)) 1 12 := ⟨by decide +kernel, rfl⟩
theorem iX6_odds_12 : Ins MX6_odds 12 (.ireturn) 1 13 := ⟨by decide +kernel, rfl⟩
theorem iX6_odds_13 : LdI MX6_odds 13 2 14 := Or.inr ⟨2, rfl, by decide +kernel, rfl⟩
theorem iX6_odds_14 : Jmp MX6_odds 14 (.ifCond .lt) 23 17 := ⟨9, ⟨by decide +kernel, rfl⟩, by decide⟩
theorem iX6_odds_17 : LdI MX6_odds 17 2 18 := Or.inr ⟨2, rfl, by decide +kernel, rfl⟩
theorem iX6_odds_18 : Ins MX6_odds 18 (.bipush 11) 2 20 := ⟨by decide +kernel, rfl⟩
theorem iX6_odds_20 : Jmp MX6_odds 20 (.if_icmp .le) 26 23 := ⟨6, ⟨by decide +kernel, rfl⟩, by decide⟩
theorem iX6_odds_23 : Ins MX6_odds 23 (.bipush (-2)) 2 25 := ⟨by decide +kernel, rfl⟩
theorem iX6_odds_25 : Ins MX6_odds 25 (.ireturn) 1 26 := ⟨by decide +kernel, rfl⟩
theorem iX6_odds_26 : LdA MX6_odds 26 0 27 := Or.inr ⟨0, rfl, by decide +kernel, rfl⟩
theorem iX6_odds_27 : Ins MX6_odds 27 (.getfield 19) 3 30 := ⟨by decide +kernel, rfl⟩
theorem iX6_odds_30 : Ins MX6_odds 30 (.getfield 85) 3 33 := ⟨by decide +kernel, rfl⟩
theorem iX6_odds_33 : LdI MX6_odds 33 1 34 := Or.inr ⟨1, rfl, by decide +kernel, rfl⟩
theorem iX6_odds_34 : Ins MX6_odds 34 (.aaload) 1 35 := ⟨by decide +kernel, rfl⟩
theorem iX6_odds_35 : LdI MX6_odds 35 2 36 := Or.inr ⟨2, rfl, by decide +kernel, rfl⟩
theorem iX6_odds_36 : Ins MX6_odds 36 (.iconst 0) 1 37 := ⟨by decide +kernel, rfl⟩
theorem iX6_odds_37 : Ins MX6_odds 37 (.invokevirtual 99) 3 40 := ⟨by decide +kernel, rfl⟩
theorem iX6_odds_40 : Ins MX6_odds 40 (.ireturn) 1 41 := ⟨by decide +kernel, rfl⟩
theorem iX6_toss_0 : LdA MX6_toss 0 0 1 := Or.inr ⟨0, rfl, by decide +kernel, rfl⟩
theorem iX6_toss_1 : LdI MX6_toss 1 1 2 := Or.inr ⟨1, rfl, by decide +kernel, rfl⟩
theorem iX6_toss_2 : Jmp MX6_toss 2 (.ifCond .eq) 9 5 := ⟨7, ⟨by decide +kernel, rfl⟩, by decide⟩
theorem iX6_toss_5 : Ins MX6_toss 5 (.iconst 1) 1 6 := ⟨by decide +kernel, rfl⟩
theorem iX6_toss_6 : Jmp MX6_toss 6 .goto 10 9 := ⟨4, ⟨by decide +kernel, rfl⟩, by decide⟩
theorem iX6_toss_9 : Ins MX6_toss 9 (.iconst 0) 1 10 := ⟨by decide +kernel, rfl⟩
theorem iX6_toss_10 : Ins MX6_toss 10 (.invokevirtual 103) 3 13 := ⟨by decide +kernel, rfl⟩
theorem iX6_toss_13 : Ins MX6_toss 13 (.ireturn) 1 14 := ⟨by decide +kernel, rfl⟩
theorem iX6_spare_0 : LdA MX6_spare 0 0 1 := Or.inr ⟨0, rfl, by decide +kernel, rfl⟩
theorem iX6_spare_1 : Ins MX6_spare 1 (.iconst 2) 1 2 := ⟨by decide +kernel, rfl⟩
theorem iX6_spare_2 : Ins MX6_spare 2 (.invokevirtual 103) 3 5 := ⟨by decide +kernel, rfl⟩
theorem iX6_spare_5 : Ins MX6_spare 5 (.ireturn) 1 6 := ⟨by decide +kernel, rfl⟩
theorem iX6_act_0 : LdA MX6_act 0 0 1 := Or.inr ⟨0, rfl, by decide +kernel, rfl⟩
theorem iX6_act_1 : Ins MX6_act 1 (.getfield 19) 3 4 := ⟨by decide +kernel, rfl⟩
theorem iX6_act_4 : Ins MX6_act 4 (.invokevirtual 106) 3 7 := ⟨by decide +kernel, rfl⟩
theorem iX6_act_7 : Jmp MX6_act 7 (.ifCond .eq) 13 10 := ⟨6, ⟨by decide +kernel, rfl⟩, by decide⟩
theorem iX6_act_10 : Ins MX6_act 10 (.bipush (-3)) 2 12 := ⟨by decide +kernel, rfl⟩
theorem iX6_act_12 : Ins MX6_act 12 (.ireturn) 1 13 := ⟨by decide +kernel, rfl⟩
theorem iX6_act_13 : LdA MX6_act 13 0 14 := Or.inr ⟨0, rfl, by decide +kernel, rfl⟩
theorem iX6_act_14 : Ins MX6_act 14 (.getfield 29) 3 17 := ⟨by decide +kernel, rfl⟩
theorem iX6_act_17 : LdA MX6_act 17 0 18 := Or.inr ⟨0, rfl, by decide +kernel, rfl⟩
theorem iX6_act_18 : Ins MX6_act 18 (.getfield 19) 3 21 := ⟨by decide +kernel, rfl⟩
theorem iX6_act_21 : Ins MX6_act 21 (.invokevirtual 110) 3 24 := ⟨by decide +kernel, rfl⟩
theorem iX6_act_24 : LdA MX6_act 24 0 25 := Or.inr ⟨0, rfl, by decide +kernel, rfl⟩
theorem iX6_act_25 : Ins MX6_act 25 (.getfield 19) 3 28 := ⟨by decide +kernel, rfl⟩
theorem iX6_act_28 : LdI MX6_act 28 1 29 := Or.inr ⟨1, rfl, by decide +kernel, rfl⟩
theorem iX6_act_29 : Ins MX6_act 29 (.invokevirtual 114) 3 32 := ⟨by decide +kernel, rfl⟩
theorem iX6_act_32 : LdA MX6_act 32 0 33 := Or.inr ⟨0, rfl, by decide +kernel, rfl⟩
theorem iX6_act_33 : Ins MX6_act 33 (.getfield 19) 3 36 := ⟨by decide +kernel, rfl⟩
theorem iX6_act_36 : Ins MX6_act 36 (.getfield 92) 3 39 := ⟨by decide +kernel, rfl⟩
theorem iX6_act_39 : Ins MX6_act 39 (.ireturn) 1 40 := ⟨by decide +kernel, rfl⟩
theorem iX6_undo_0 : LdA MX6_undo 0 0 1 := Or.inr ⟨0, rfl, by decide +kernel, rfl⟩
theorem iX6_undo_1 : Ins MX6_undo 1 (.getfield 29) 3 4 := ⟨by decide +kernel, rfl⟩
theorem iX6_undo_4 : Ins MX6_undo 4 (.getfield 117) 3 7 := ⟨by decide +kernel, rfl⟩
theorem iX6_undo_7 : Jmp MX6_undo 7 (.ifCond .ne) 13 10 := ⟨6, ⟨by decide +kernel, rfl⟩, by decide⟩
theorem iX6_undo_10 : Ins MX6_undo 10 (.bipush (-3)) 2 12 := ⟨by decide +kernel, rfl⟩
theorem iX6_undo_12 : Ins MX6_undo 12 (.ireturn) 1 13 := ⟨by decide +kernel, rfl⟩
theorem iX6_undo_13 : LdA MX6_undo 13 0 14 := Or.inr ⟨0, rfl, by decide +kernel, rfl⟩
theorem iX6_undo_14 : Ins MX6_undo 14 (.getfield 29) 3 17 := ⟨by decide +kernel, rfl⟩
theorem iX6_undo_17 : LdA MX6_undo 17 0 18 := Or.inr ⟨0, rfl, by decide +kernel, rfl⟩
theorem iX6_undo_18 : Ins MX6_undo 18 (.getfield 19) 3 21 := ⟨by decide +kernel, rfl⟩
theorem iX6_undo_21 : Ins MX6_undo 21 (.invokevirtual 118) 3 24 := ⟨by decide +kernel, rfl⟩
theorem iX6_undo_24 : LdA MX6_undo 24 0 25 := Or.inr ⟨0, rfl, by decide +kernel, rfl⟩
theorem iX6_undo_25 : Ins MX6_undo 25 (.getfield 29) 3 28 := ⟨by decide +kernel, rfl⟩
theorem iX6_undo_28 : Ins MX6_undo 28 (.getfield 117) 3 31 := ⟨by decide +kernel, rfl⟩
theorem iX6_undo_31 : Ins MX6_undo 31 (.ireturn) 1 32 := ⟨by decide +kernel, rfl⟩
theorem iX6_judge_0 : LdI MX6_judge 0 1 1 := Or.inr ⟨1, rfl, by decide +kernel, rfl⟩
theorem iX6_judge_1 : Ins MX6_judge 1 (.iconst 1) 1 2 := ⟨by decide +kernel, rfl⟩
theorem iX6_judge_2 : Jmp MX6_judge 2 (.if_icmp .lt) 26 5 := ⟨24, ⟨by decide +kernel, rfl⟩, by decide⟩
theorem iX6_judge_5 : LdI MX6_judge 5 1 6 := Or.inr ⟨1, rfl, by decide +kernel, rfl⟩
theorem iX6_judge_6 : Ins MX6_judge 6 (.bipush 8) 2 8 := ⟨by decide +kernel, rfl⟩
theorem iX6_judge_8 : Jmp MX6_judge 8 (.if_icmp .gt) 26 11 := ⟨18, ⟨by decide +kernel, rfl⟩, by decide⟩
theorem iX6_judge_11 : LdI MX6_judge 11 2 12 := Or.inr ⟨2, rfl, by decide +kernel, rfl⟩
theorem iX6_judge_12 : Jmp MX6_judge 12 (.ifCond .lt) 26 15 := ⟨14, ⟨by decide +kernel, rfl⟩, by decide⟩
theorem iX6_judge_15 : LdI MX6_judge 15 2 16 := Or.inr ⟨2, rfl, by decide +kernel, rfl⟩
theorem iX6_judge_16 : Ins MX6_judge 16 (.i2l) 1 17 := ⟨by decide +kernel, rfl⟩
theorem iX6_judge_17 : Ins MX6_judge 17 (.getstatic 121) 3 20 := ⟨by decide +kernel, rfl⟩
theorem iX6_judge_20 : LdI MX6_judge 20 1 21 := Or.inr ⟨1, rfl, by decide +kernel, rfl⟩
theorem iX6_judge_21 : Ins MX6_judge 21 (.laload) 1 22 := ⟨by decide +kernel, rfl⟩
theorem iX6_judge_22 : Ins MX6_judge 22 (.lcmp) 1 23 := ⟨by decide +kernel, rfl⟩
theorem iX6_judge_23 : Jmp MX6_judge 23 (.ifCond .lt) 29 26 := ⟨6, ⟨by decide +kernel, rfl⟩, by decide⟩
theorem iX6_judge_26 : Ins MX6_judge 26 (.bipush (-2)) 2 28 := ⟨by decide +kernel, rfl⟩
theorem iX6_judge_28 : Ins MX6_judge 28 (.ireturn) 1 29 := ⟨by decide +kernel, rfl⟩
theorem iX6_judge_29 : LdA MX6_judge 29 0 30 := Or.inr ⟨0, rfl, by decide +kernel, rfl⟩
theorem iX6_judge_30 : Ins MX6_judge 30 (.getfield 23) 3 33 := ⟨by decide +kernel, rfl⟩
theorem iX6_judge_33 : LdA MX6_judge 33 0 34 := Or.inr ⟨0, rfl, by decide +kernel, rfl⟩
theorem iX6_judge_34 : Ins MX6_judge 34 (.getfield 19) 3 37 := ⟨by decide +kernel, rfl⟩
theorem iX6_judge_37 : Ins MX6_judge 37 (.invokevirtual 125) 3 40 := ⟨by decide +kernel, rfl⟩
theorem iX6_judge_40 : Ins MX6_judge 40 (.iconst 0) 1 41 := ⟨by decide +kernel, rfl⟩
theorem iX6_judge_41 : StI MX6_judge 41 3 42 := ⟨Or.inr ⟨3, rfl, by decide +kernel, rfl⟩, Nat.le_of_ble_eq_true rfl⟩
theorem iX6_judge_42 : LdI MX6_judge 42 3 43 := Or.inr ⟨3, rfl, by decide +kernel, rfl⟩
theorem iX6_judge_43 : LdI MX6_judge 43 1 44 := Or.inr ⟨1, rfl, by decide +kernel, rfl⟩
theorem iX6_judge_44 : Jmp MX6_judge 44 (.if_icmp .ge) 91 47 := ⟨47, ⟨by decide +kernel, rfl⟩, by decide⟩
theorem iX6_judge_47 : LdI MX6_judge 47 2 48 := Or.inr ⟨2, rfl, by decide +kernel, rfl⟩
theorem iX6_judge_48 : LdI MX6_judge 48 1 49 := Or.inr ⟨1, rfl, by decide +kernel, rfl⟩
theorem iX6_judge_49 : Ins MX6_judge 49 (.iconst 1) 1 50 := ⟨by decide +kernel, rfl⟩
theorem iX6_judge_50 : Ins MX6_judge 50 (.isub) 1 51 := ⟨by decide +kernel, rfl⟩
theorem iX6_judge_51 : LdI MX6_judge 51 3 52 := Or.inr ⟨3, rfl, by decide +kernel, rfl⟩
theorem iX6_judge_52 : Ins MX6_judge 52 (.isub) 1 53 := ⟨by decide +kernel, rfl⟩
theorem iX6_judge_53 : Ins MX6_judge 53 (.invokestatic 128) 3 56 := ⟨by decide +kernel, rfl⟩
theorem iX6_judge_56 : StI MX6_judge 56 4 58 := ⟨Or.inl ⟨by decide +kernel, rfl⟩, Nat.le_of_ble_eq_true rfl⟩
theorem iX6_judge_58 : LdA MX6_judge 58 0 59 := Or.inr ⟨0, rfl, by decide +kernel, rfl⟩
theorem iX6_judge_59 : Ins MX6_judge 59 (.getfield 23) 3 62 := ⟨by decide +kernel, rfl⟩
theorem iX6_judge_62 : Ins MX6_judge 62 (.invokevirtual 106) 3 65 := ⟨by decide +kernel, rfl⟩
theorem iX6_judge_65 : Jmp MX6_judge 65 (.ifCond .ne) 74 68 := ⟨9, ⟨by decide +kernel, rfl⟩, by decide⟩
theorem iX6_judge_68 : LdI MX6_judge 68 4 70 := Or.inl ⟨by decide +kernel, rfl⟩
theorem iX6_judge_70 : Ins MX6_judge 70 (.iconst 2) 1 71 := ⟨by decide +kernel, rfl⟩
theorem iX6_judge_71 : Jmp MX6_judge 71 (.if_icmp .le) 76 74 := ⟨5, ⟨by decide +kernel, rfl⟩, by decide⟩
theorem iX6_judge_74 : LdI MX6_judge 74 3 75 := Or.inr ⟨3, rfl, by decide +kernel, rfl⟩
theorem iX6_judge_75 : Ins MX6_judge 75 (.ireturn) 1 76 := ⟨by decide +kernel, rfl⟩
theorem iX6_judge_76 : LdA MX6_judge 76 0 77 := Or.inr ⟨0, rfl, by decide +kernel, rfl⟩
theorem iX6_judge_77 : Ins MX6_judge 77 (.getfield 23) 3 80 := ⟨by decide +kernel, rfl⟩
theorem iX6_judge_80 : LdI MX6_judge 80 4 82 := Or.inl ⟨by decide +kernel, rfl⟩
theorem iX6_judge_82 : Ins MX6_judge 82 (.invokevirtual 114) 3 85 := ⟨by decide +kernel, rfl⟩
theorem iX6_judge_85 : Inc MX6_judge 85 3 (1) 88 := ⟨⟨by decide +kernel, rfl⟩, Nat.le_of_ble_eq_true rfl⟩
theorem iX6_judge_88 : Jmp MX6_judge 88 .goto 42 91 := ⟨-46, ⟨by decide +kernel, rfl⟩, by decide⟩
theorem iX6_judge_91 : Ins MX6_judge 91 (.bipush (-9)) 2 93 := ⟨by decide +kernel, rfl⟩
theorem iX6_judge_93 : Ins MX6_judge 93 (.ireturn) 1 94 := ⟨by decide +kernel, rfl⟩
theorem iX6_figureOf_0 : LdI MX6_figureOf 0 0 1 := Or.inr ⟨0, rfl, by decide +kernel, rfl⟩
theorem iX6_figureOf_1 : StI MX6_figureOf 1 2 2 := ⟨Or.inr ⟨2, rfl, by decide +kernel, rfl⟩, Nat.le_of_ble_eq_true rfl⟩
theorem iX6_figureOf_2 : Ins MX6_figureOf 2 (.iconst 0) 1 3 := ⟨by decide +kernel, rfl⟩
theorem iX6_figureOf_3 : StI MX6_figureOf 3 3 4 := ⟨Or.inr ⟨3, rfl, by decide +kernel, rfl⟩, Nat.le_of_ble_eq_true rfl⟩
theorem iX6_figureOf_4 : LdI MX6_figureOf 4 3 5 := Or.inr ⟨3, rfl, by decide +kernel, rfl⟩
theorem iX6_figureOf_5 : LdI MX6_figureOf 5 1 6 := Or.inr ⟨1, rfl, by decide +kernel, rfl⟩
theorem iX6_figureOf_6 : Jmp MX6_figureOf 6 (.if_icmp .ge) 20 9 := ⟨14, ⟨by decide +kernel, rfl⟩, by decide⟩
theorem iX6_figureOf_9 : LdI MX6_figureOf 9 2 10 := Or.inr ⟨2, rfl, by decide +kernel, rfl⟩
theorem iX6_figureOf_10 : Ins MX6_figureOf 10 (.bipush 10) 2 12 := ⟨by decide +kernel, rfl⟩
theorem iX6_figureOf_12 : Ins MX6_figureOf 12 (.idiv) 1 13 := ⟨by decide +kernel, rfl⟩
theorem iX6_figureOf_13 : StI MX6_figureOf 13 2 14 := ⟨Or.inr ⟨2, rfl, by decide +kernel, rfl⟩, Nat.le_of_ble_eq_true rfl⟩
theorem iX6_figureOf_14 : Inc MX6_figureOf 14 3 (1) 17 := ⟨⟨by decide +kernel, rfl⟩, Nat.le_of_ble_eq_true rfl⟩
theorem iX6_figureOf_17 : Jmp MX6_figureOf 17 .goto 4 20 := ⟨-13, ⟨by decide +kernel, rfl⟩, by decide⟩
theorem iX6_figureOf_20 : LdI MX6_figureOf 20 2 21 := Or.inr ⟨2, rfl, by decide +kernel, rfl⟩
theorem iX6_figureOf_21 : Ins MX6_figureOf 21 (.bipush 10) 2 23 := ⟨by decide +kernel, rfl⟩
theorem iX6_figureOf_23 : Ins MX6_figureOf 23 (.irem) 1 24 := ⟨by decide +kernel, rfl⟩
theorem iX6_figureOf_24 : Ins MX6_figureOf 24 (.ireturn) 1 25 := ⟨by decide +kernel, rfl⟩
theorem iX6_clears_0 : LdA MX6_clears 0 0 1 := Or.inr ⟨0, rfl, by decide +kernel, rfl⟩
theorem iX6_clears_1 : Ins MX6_clears 1 (.getfield 19) 3 4 := ⟨by decide +kernel, rfl⟩
theorem iX6_clears_4 : LdI MX6_clears 4 1 5 := Or.inr ⟨1, rfl, by decide +kernel, rfl⟩
theorem iX6_clears_5 : Ins MX6_clears 5 (.invokevirtual 81) 3 8 := ⟨by decide +kernel, rfl⟩
theorem iX6_clears_8 : Jmp MX6_clears 8 (.ifCond .ne) 13 11 := ⟨5, ⟨by decide +kernel, rfl⟩, by decide⟩
theorem iX6_clears_11 : Ins MX6_clears 11 (.iconst (-1)) 1 12 := ⟨by decide +kernel, rfl⟩
theorem iX6_clears_12 : Ins MX6_clears 12 (.ireturn) 1 13 := ⟨by decide +kernel, rfl⟩
theorem iX6_clears_13 : LdA MX6_clears 13 0 14 := Or.inr ⟨0, rfl, by decide +kernel, rfl⟩
theorem iX6_clears_14 : Ins MX6_clears 14 (.getfield 19) 3 17 := ⟨by decide +kernel, rfl⟩
theorem iX6_clears_17 : Ins MX6_clears 17 (.getfield 85) 3 20 := ⟨by decide +kernel, rfl⟩
theorem iX6_clears_20 : LdI MX6_clears 20 1 21 := Or.inr ⟨1, rfl, by decide +kernel, rfl⟩
theorem iX6_clears_21 : Ins MX6_clears 21 (.aaload) 1 22 := ⟨by decide +kernel, rfl⟩
theorem iX6_clears_22 : StA MX6_clears 22 3 23 := ⟨Or.inr ⟨3, rfl, by decide +kernel, rfl⟩, Nat.le_of_ble_eq_true rfl⟩
theorem iX6_clears_23 : LdA MX6_clears 23 3 24 := Or.inr ⟨3, rfl, by decide +kernel, rfl⟩
theorem iX6_clears_24 : Ins MX6_clears 24 (.invokevirtual 131) 3 27 := ⟨by decide +kernel, rfl⟩
theorem iX6_clears_27 : Jmp MX6_clears 27 (.ifCond .eq) 33 30 := ⟨6, ⟨by decide +kernel, rfl⟩, by decide⟩
theorem iX6_clears_30 : Ins MX6_clears 30 (.bipush (-3)) 2 32 := ⟨by decide +kernel, rfl⟩
theorem iX6_clears_32 : Ins MX6_clears 32 (.ireturn) 1 33 := ⟨by decide +kernel, rfl⟩
theorem iX6_clears_33 : LdA MX6_clears 33 3 34 := Or.inr ⟨3, rfl, by decide +kernel, rfl⟩
theorem iX6_clears_34 : Ins MX6_clears 34 (.invokestatic 134) 3 37 := ⟨by decide +kernel, rfl⟩
theorem iX6_clears_37 : StL MX6_clears 37 4 39 := ⟨Or.inl ⟨by decide +kernel, rfl⟩, Nat.le_of_ble_eq_true rfl⟩
theorem iX6_clears_39 : LdL MX6_clears 39 4 41 := Or.inl ⟨by decide +kernel, rfl⟩
theorem iX6_clears_41 : LdA MX6_clears 41 3 42 := Or.inr ⟨3, rfl, by decide +kernel, rfl⟩
theorem iX6_clears_42 : LdA MX6_clears 42 0 43 := Or.inr ⟨0, rfl, by decide +kernel, rfl⟩
theorem iX6_clears_43 : Ins MX6_clears 43 (.getfield 19) 3 46 := ⟨by decide +kernel, rfl⟩
theorem iX6_clears_46 : Ins MX6_clears 46 (.getfield 140) 3 49 := ⟨by decide +kernel, rfl⟩
theorem iX6_clears_49 : Ins MX6_clears 49 (.invokestatic 143) 3 52 := ⟨by decide +kernel, rfl⟩
theorem iX6_clears_52 : Ins MX6_clears 52 (.lsub) 1 53 := ⟨by decide +kernel, rfl⟩
theorem iX6_clears_53 : LdL MX6_clears 53 4 55 := Or.inl ⟨by decide +kernel, rfl⟩
theorem iX6_clears_55 : LdI MX6_clears 55 2 56 := Or.inr ⟨2, rfl, by decide +kernel, rfl⟩
theorem iX6_clears_56 : Ins MX6_clears 56 (.invokestatic 147) 3 59 := ⟨by decide +kernel, rfl⟩
theorem iX6_clears_59 : Ins MX6_clears 59 (.l2i) 1 60 := ⟨by decide +kernel, rfl⟩
theorem iX6_clears_60 : Ins MX6_clears 60 (.ireturn) 1 61 := ⟨by decide +kernel, rfl⟩
theorem iX6_mean_0 : LdA MX6_mean 0 0 1 := Or.inr ⟨0, rfl, by decide +kernel, rfl⟩
theorem iX6_mean_1 : LdI MX6_mean 1 1 2 := Or.inr ⟨1, rfl, by decide +kernel, rfl⟩
theorem iX6_mean_2 : LdI MX6_mean 2 2 3 := Or.inr ⟨2, rfl, by decide +kernel, rfl⟩
theorem iX6_mean_3 : Ins MX6_mean 3 (.invokevirtual 151) 3 6 := ⟨by decide +kernel, rfl⟩
theorem iX6_mean_6 : StI MX6_mean 6 4 8 := ⟨Or.inl ⟨by decide +kernel, rfl⟩, Nat.le_of_ble_eq_true rfl⟩
theorem iX6_mean_8 : LdI MX6_mean 8 4 10 := Or.inl ⟨by decide +kernel, rfl⟩
theorem iX6_mean_10 : Jmp MX6_mean 10 (.ifCond .eq) 17 13 := ⟨7, ⟨by decide +kernel, rfl⟩, by decide⟩
theorem iX6_mean_13 : LdI MX6_mean 13 4 15 := Or.inl ⟨by decide +kernel, rfl⟩
theorem iX6_mean_15 : Ins MX6_mean 15 (.i2l) 1 16 := ⟨by decide +kernel, rfl⟩
theorem iX6_mean_16 : Ins MX6_mean 16 (.lreturn) 1 17 := ⟨by decide +kernel, rfl⟩
theorem iX6_mean_17 : LdA MX6_mean 17 0 18 := Or.inr ⟨0, rfl, by decide +kernel, rfl⟩
theorem iX6_mean_18 : Ins MX6_mean 18 (.getfield 19) 3 21 := ⟨by decide +kernel, rfl⟩
theorem iX6_mean_21 : Ins MX6_mean 21 (.getfield 85) 3 24 := ⟨by decide +kernel, rfl⟩
theorem iX6_mean_24 : LdI MX6_mean 24 1 25 := Or.inr ⟨1, rfl, by decide +kernel, rfl⟩
theorem iX6_mean_25 : Ins MX6_mean 25 (.aaload) 1 26 := ⟨by decide +kernel, rfl⟩
theorem iX6_mean_26 : StA MX6_mean 26 5 28 := ⟨Or.inl ⟨by decide +kernel, rfl⟩, Nat.le_of_ble_eq_true rfl⟩
theorem iX6_mean_28 : LdA MX6_mean 28 5 30 := Or.inl ⟨by decide +kernel, rfl⟩
theorem iX6_mean_30 : LdA MX6_mean 30 0 31 := Or.inr ⟨0, rfl, by decide +kernel, rfl⟩
theorem iX6_mean_31 : Ins MX6_mean 31 (.getfield 19) 3 34 := ⟨by decide +kernel, rfl⟩
theorem iX6_mean_34 : Ins MX6_mean 34 (.getfield 140) 3 37 := ⟨by decide +kernel, rfl⟩
theorem iX6_mean_37 : LdI MX6_mean 37 2 38 := Or.inr ⟨2, rfl, by decide +kernel, rfl⟩
theorem iX6_mean_38 : Ins MX6_mean 38 (.iconst 0) 1 39 := ⟨by decide +kernel, rfl⟩
theorem iX6_mean_39 : LdA MX6_mean 39 5 41 := Or.inl ⟨by decide +kernel, rfl⟩
theorem iX6_mean_41 : Ins MX6_mean 41 (.getfield 154) 3 44 := ⟨by decide +kernel, rfl⟩
theorem iX6_mean_44 : Ins MX6_mean 44 (.iconst 0) 1 45 := ⟨by decide +kernel, rfl⟩
theorem iX6_mean_45 : Ins MX6_mean 45 (.iconst 0) 1 46 := ⟨by decide +kernel, rfl⟩
theorem iX6_mean_46 : Ins MX6_mean 46 (.invokestatic 157) 3 49 := ⟨by decide +kernel, rfl⟩
theorem iX6_mean_49 : StL MX6_mean 49 6 51 := ⟨Or.inl ⟨by decide +kernel, rfl⟩, Nat.le_of_ble_eq_true rfl⟩
theorem iX6_mean_51 : LdL MX6_mean 51 6 53 := Or.inl ⟨by decide +kernel, rfl⟩
theorem iX6_mean_53 : Ins MX6_mean 53 (.getstatic 121) 3 56 := ⟨by decide +kernel, rfl⟩
theorem iX6_mean_56 : Ins MX6_mean 56 (.bipush 12) 2 58 := ⟨by decide +kernel, rfl⟩
theorem iX6_mean_58 : Ins MX6_mean 58 (.laload) 1 59 := ⟨by decide +kernel, rfl⟩
theorem iX6_mean_59 : LdI MX6_mean 59 3 60 := Or.inr ⟨3, rfl, by decide +kernel, rfl⟩
theorem iX6_mean_60 : Ins MX6_mean 60 (.invokestatic 147) 3 63 := ⟨by decide +kernel, rfl⟩
theorem iX6_mean_63 : Ins MX6_mean 63 (.lreturn) 1 64 := ⟨by decide +kernel, rfl⟩
theorem iX6_wise_0 : LdA MX6_wise 0 0 1 := Or.inr ⟨0, rfl, by decide +kernel, rfl⟩
theorem iX6_wise_1 : LdI MX6_wise 1 1 2 := Or.inr ⟨1, rfl, by decide +kernel, rfl⟩
theorem iX6_wise_2 : LdI MX6_wise 2 2 3 := Or.inr ⟨2, rfl, by decide +kernel, rfl⟩
theorem iX6_wise_3 : Ins MX6_wise 3 (.invokevirtual 151) 3 6 := ⟨by decide +kernel, rfl⟩
theorem iX6_wise_6 : StI MX6_wise 6 3 7 := ⟨Or.inr ⟨3, rfl, by decide +kernel, rfl⟩, Nat.le_of_ble_eq_true rfl⟩
theorem iX6_wise_7 : LdI MX6_wise 7 3 8 := Or.inr ⟨3, rfl, by decide +kernel, rfl⟩
theorem iX6_wise_8 : Jmp MX6_wise 8 (.ifCond .eq) 13 11 := ⟨5, ⟨by decide +kernel, rfl⟩, by decide⟩
theorem iX6_wise_11 : LdI MX6_wise 11 3 12 := Or.inr ⟨3, rfl, by decide +kernel, rfl⟩
theorem iX6_wise_12 : Ins MX6_wise 12 (.ireturn) 1 13 := ⟨by decide +kernel, rfl⟩
theorem iX6_wise_13 : LdA MX6_wise 13 0 14 := Or.inr ⟨0, rfl, by decide +kernel, rfl⟩
theorem iX6_wise_14 : Ins MX6_wise 14 (.getfield 19) 3 17 := ⟨by decide +kernel, rfl⟩
theorem iX6_wise_17 : Ins MX6_wise 17 (.getfield 85) 3 20 := ⟨by decide +kernel, rfl⟩
theorem iX6_wise_20 : LdI MX6_wise 20 1 21 := Or.inr ⟨1, rfl, by decide +kernel, rfl⟩
theorem iX6_wise_21 : Ins MX6_wise 21 (.aaload) 1 22 := ⟨by decide +kernel, rfl⟩
theorem iX6_wise_22 : StA MX6_wise 22 4 24 := ⟨Or.inl ⟨by decide +kernel, rfl⟩, Nat.le_of_ble_eq_true rfl⟩
theorem iX6_wise_24 : LdA MX6_wise 24 4 26 := Or.inl ⟨by decide +kernel, rfl⟩
theorem iX6_wise_26 : LdA MX6_wise 26 0 27 := Or.inr ⟨0, rfl, by decide +kernel, rfl⟩
theorem iX6_wise_27 : Ins MX6_wise 27 (.getfield 19) 3 30 := ⟨by decide +kernel, rfl⟩
theorem iX6_wise_30 : Ins MX6_wise 30 (.getfield 140) 3 33 := ⟨by decide +kernel, rfl⟩
theorem iX6_wise_33 : LdI MX6_wise 33 2 34 := Or.inr ⟨2, rfl, by decide +kernel, rfl⟩
theorem iX6_wise_34 : Ins MX6_wise 34 (.iconst 0) 1 35 := ⟨by decide +kernel, rfl⟩
theorem iX6_wise_35 : LdA MX6_wise 35 4 37 := Or.inl ⟨by decide +kernel, rfl⟩
theorem iX6_wise_37 : Ins MX6_wise 37 (.getfield 154) 3 40 := ⟨by decide +kernel, rfl⟩
theorem iX6_wise_40 : Ins MX6_wise 40 (.iconst 0) 1 41 := ⟨by decide +kernel, rfl⟩
theorem iX6_wise_41 : Ins MX6_wise 41 (.iconst 0) 1 42 := ⟨by decide +kernel, rfl⟩
theorem iX6_wise_42 : Ins MX6_wise 42 (.invokestatic 161) 3 45 := ⟨by decide +kernel, rfl⟩
theorem iX6_wise_45 : StL MX6_wise 45 5 47 := ⟨Or.inl ⟨by decide +kernel, rfl⟩, Nat.le_of_ble_eq_true rfl⟩
theorem iX6_wise_47 : LdA MX6_wise 47 4 49 := Or.inl ⟨by decide +kernel, rfl⟩
theorem iX6_wise_49 : LdA MX6_wise 49 0 50 := Or.inr ⟨0, rfl, by decide +kernel, rfl⟩
theorem iX6_wise_50 : Ins MX6_wise 50 (.getfield 19) 3 53 := ⟨by decide +kernel, rfl⟩
theorem iX6_wise_53 : Ins MX6_wise 53 (.getfield 140) 3 56 := ⟨by decide +kernel, rfl⟩
theorem iX6_wise_56 : LdI MX6_wise 56 2 57 := Or.inr ⟨2, rfl, by decide +kernel, rfl⟩
theorem iX6_wise_57 : Ins MX6_wise 57 (.iconst 0) 1 58 := ⟨by decide +kernel, rfl⟩
theorem iX6_wise_58 : LdA MX6_wise 58 4 60 := Or.inl ⟨by decide +kernel, rfl⟩
theorem iX6_wise_60 : Ins MX6_wise 60 (.getfield 154) 3 63 := ⟨by decide +kernel, rfl⟩
theorem iX6_wise_63 : Ins MX6_wise 63 (.iconst 0) 1 64 := ⟨by decide +kernel, rfl⟩
theorem iX6_wise_64 : Ins MX6_wise 64 (.iconst 0) 1 65 := ⟨by decide +kernel, rfl⟩
theorem iX6_wise_65 : Ins MX6_wise 65 (.invokestatic 164) 3 68 := ⟨by decide +kernel, rfl⟩
theorem iX6_wise_68 : StL MX6_wise 68 7 70 := ⟨Or.inl ⟨by decide +kernel, rfl⟩, Nat.le_of_ble_eq_true rfl⟩
theorem iX6_wise_70 : LdL MX6_wise 70 5 72 := Or.inl ⟨by decide +kernel, rfl⟩
theorem iX6_wise_72 : LdL MX6_wise 72 7 74 := Or.inl ⟨by decide +kernel, rfl⟩
theorem iX6_wise_74 : Ins MX6_wise 74 (.lcmp) 1 75 := ⟨by decide +kernel, rfl⟩
theorem iX6_wise_75 : Jmp MX6_wise 75 (.ifCond .lt) 82 78 := ⟨7, ⟨by decide +kernel, rfl⟩, by decide⟩
theorem iX6_wise_78 : Ins MX6_wise 78 (.iconst 1) 1 79 := ⟨by decide +kernel, rfl⟩
theorem iX6_wise_79 : Jmp MX6_wise 79 .goto 83 82 := ⟨4, ⟨by decide +kernel, rfl⟩, by decide⟩
theorem iX6_wise_82 : Ins MX6_wise 82 (.iconst 0) 1 83 := ⟨by decide +kernel, rfl⟩
theorem iX6_wise_83 : Ins MX6_wise 83 (.ireturn) 1 84 := ⟨by decide +kernel, rfl⟩
theorem iX6_first_0 : LdA MX6_first 0 0 1 := Or.inr ⟨0, rfl, by decide +kernel, rfl⟩
theorem iX6_first_1 : LdI MX6_first 1 1 2 := Or.inr ⟨1, rfl, by decide +kernel, rfl⟩
theorem iX6_first_2 : LdI MX6_first 2 2 3 := Or.inr ⟨2, rfl, by decide +kernel, rfl⟩
theorem iX6_first_3 : Ins MX6_first 3 (.invokevirtual 151) 3 6 := ⟨by decide +kernel, rfl⟩
theorem iX6_first_6 : StI MX6_first 6 4 8 := ⟨Or.inl ⟨by decide +kernel, rfl⟩, Nat.le_of_ble_eq_true rfl⟩
theorem iX6_first_8 : LdI MX6_first 8 4 10 := Or.inl ⟨by decide +kernel, rfl⟩
theorem iX6_first_10 : Jmp MX6_first 10 (.ifCond .eq) 17 13 := ⟨7, ⟨by decide +kernel, rfl⟩, by decide⟩
theorem iX6_first_13 : LdI MX6_first 13 4 15 := Or.inl ⟨by decide +kernel, rfl⟩
theorem iX6_first_15 : Ins MX6_first 15 (.i2l) 1 16 := ⟨by decide +kernel, rfl⟩
theorem iX6_first_16 : Ins MX6_first 16 (.lreturn) 1 17 := ⟨by decide +kernel, rfl⟩
theorem iX6_first_17 : LdA MX6_first 17 0 18 := Or.inr ⟨0, rfl, by decide +kernel, rfl⟩
theorem iX6_first_18 : Ins MX6_first 18 (.getfield 43) 3 21 := ⟨by decide +kernel, rfl⟩
theorem iX6_first_21 : Ins MX6_first 21 (.iconst 0) 1 22 := ⟨by decide +kernel, rfl⟩
theorem iX6_first_22 : Ins MX6_first 22 (.aaload) 1 23 := ⟨by decide +kernel, rfl⟩
theorem iX6_first_23 : LdA MX6_first 23 0 24 := Or.inr ⟨0, rfl, by decide +kernel, rfl⟩
theorem iX6_first_24 : Ins MX6_first 24 (.getfield 19) 3 27 := ⟨by decide +kernel, rfl⟩
theorem iX6_first_27 : Ins MX6_first 27 (.getfield 85) 3 30 := ⟨by decide +kernel, rfl⟩
theorem iX6_first_30 : LdI MX6_first 30 1 31 := Or.inr ⟨1, rfl, by decide +kernel, rfl⟩
theorem iX6_first_31 : Ins MX6_first 31 (.aaload) 1 32 := ⟨by decide +kernel, rfl⟩
theorem iX6_first_32 : Ins MX6_first 32 (.invokevirtual 167) 3 35 := ⟨by decide +kernel, rfl⟩
theorem iX6_first_35 : LdA MX6_first 35 0 36 := Or.inr ⟨0, rfl, by decide +kernel, rfl⟩
theorem iX6_first_36 : Ins MX6_first 36 (.getfield 19) 3 39 := ⟨by decide +kernel, rfl⟩
theorem iX6_first_39 : LdI MX6_first 39 1 40 := Or.inr ⟨1, rfl, by decide +kernel, rfl⟩
theorem iX6_first_40 : LdA MX6_first 40 0 41 := Or.inr ⟨0, rfl, by decide +kernel, rfl⟩
theorem iX6_first_41 : Ins MX6_first 41 (.getfield 43) 3 44 := ⟨by decide +kernel, rfl⟩
theorem iX6_first_44 : LdI MX6_first 44 2 45 := Or.inr ⟨2, rfl, by decide +kernel, rfl⟩
theorem iX6_first_45 : Ins MX6_first 45 (.iconst 0) 1 46 := ⟨by decide +kernel, rfl⟩
theorem iX6_first_46 : Ins MX6_first 46 (.iconst 0) 1 47 := ⟨by decide +kernel, rfl⟩
theorem iX6_first_47 : Ins MX6_first 47 (.invokestatic 170) 3 50 := ⟨by decide +kernel, rfl⟩
theorem iX6_first_50 : StL MX6_first 50 5 52 := ⟨Or.inl ⟨by decide +kernel, rfl⟩, Nat.le_of_ble_eq_true rfl⟩
theorem iX6_first_52 : LdL MX6_first 52 5 54 := Or.inl ⟨by decide +kernel, rfl⟩
theorem iX6_first_54 : Ins MX6_first 54 (.getstatic 121) 3 57 := ⟨by decide +kernel, rfl⟩
theorem iX6_first_57 : Ins MX6_first 57 (.bipush 12) 2 59 := ⟨by decide +kernel, rfl⟩
theorem iX6_first_59 : Ins MX6_first 59 (.laload) 1 60 := ⟨by decide +kernel, rfl⟩
theorem iX6_first_60 : LdI MX6_first 60 3 61 := Or.inr ⟨3, rfl, by decide +kernel, rfl⟩
theorem iX6_first_61 : Ins MX6_first 61 (.invokestatic 147) 3 64 := ⟨by decide +kernel, rfl⟩
theorem iX6_first_64 : Ins MX6_first 64 (.lreturn) 1 65 := ⟨by decide +kernel, rfl⟩
theorem iX6_alone_0 : LdA MX6_alone 0 0 1 := Or.inr ⟨0, rfl, by decide +kernel, rfl⟩
theorem iX6_alone_1 : Ins MX6_alone 1 (.getfield 19) 3 4 := ⟨by decide +kernel, rfl⟩
theorem iX6_alone_4 : LdI MX6_alone 4 1 5 := Or.inr ⟨1, rfl, by decide +kernel, rfl⟩
theorem iX6_alone_5 : Ins MX6_alone 5 (.invokevirtual 81) 3 8 := ⟨by decide +kernel, rfl⟩
theorem iX6_alone_8 : Jmp MX6_alone 8 (.ifCond .eq) 22 11 := ⟨14, ⟨by decide +kernel, rfl⟩, by decide⟩
theorem iX6_alone_11 : LdA MX6_alone 11 0 12 := Or.inr ⟨0, rfl, by decide +kernel, rfl⟩
theorem iX6_alone_12 : Ins MX6_alone 12 (.getfield 19) 3 15 := ⟨by decide +kernel, rfl⟩
theorem iX6_alone_15 : LdI MX6_alone 15 2 16 := Or.inr ⟨2, rfl, by decide +kernel, rfl⟩
theorem iX6_alone_16 : Ins MX6_alone 16 (.invokevirtual 81) 3 19 := ⟨by decide +kernel, rfl⟩
theorem iX6_alone_19 : Jmp MX6_alone 19 (.ifCond .ne) 24 22 := ⟨5, ⟨by decide +kernel, rfl⟩, by decide⟩
theorem iX6_alone_22 : Ins MX6_alone 22 (.iconst (-1)) 1 23 := ⟨by decide +kernel, rfl⟩
theorem iX6_alone_23 : Ins MX6_alone 23 (.ireturn) 1 24 := ⟨by decide +kernel, rfl⟩
theorem iX6_alone_24 : LdI MX6_alone 24 1 25 := Or.inr ⟨1, rfl, by decide +kernel, rfl⟩
theorem iX6_alone_25 : LdI MX6_alone 25 2 26 := Or.inr ⟨2, rfl, by decide +kernel, rfl⟩
theorem iX6_alone_26 : Jmp MX6_alone 26 (.if_icmp .ne) 32 29 := ⟨6, ⟨by decide +kernel, rfl⟩, by decide⟩
theorem iX6_alone_29 : Ins MX6_alone 29 (.bipush (-2)) 2 31 := ⟨by decide +kernel, rfl⟩
theorem iX6_alone_31 : Ins MX6_alone 31 (.ireturn) 1 32 := ⟨by decide +kernel, rfl⟩
theorem iX6_alone_32 : LdA MX6_alone 32 0 33 := Or.inr ⟨0, rfl, by decide +kernel, rfl⟩
theorem iX6_alone_33 : Ins MX6_alone 33 (.getfield 19) 3 36 := ⟨by decide +kernel, rfl⟩
theorem iX6_alone_36 : Ins MX6_alone 36 (.getfield 85) 3 39 := ⟨by decide +kernel, rfl⟩
theorem iX6_alone_39 : LdI MX6_alone 39 1 40 := Or.inr ⟨1, rfl, by decide +kernel, rfl⟩
theorem iX6_alone_40 : Ins MX6_alone 40 (.aaload) 1 41 := ⟨by decide +kernel, rfl⟩
theorem iX6_alone_41 : StA MX6_alone 41 4 43 := ⟨Or.inl ⟨by decide +kernel, rfl⟩, Nat.le_of_ble_eq_true rfl⟩
theorem iX6_alone_43 : LdA MX6_alone 43 0 44 := Or.inr ⟨0, rfl, by decide +kernel, rfl⟩
theorem iX6_alone_44 : Ins MX6_alone 44 (.getfield 19) 3 47 := ⟨by decide +kernel, rfl⟩
theorem iX6_alone_47 : Ins MX6_alone 47 (.getfield 85) 3 50 := ⟨by decide +kernel, rfl⟩
theorem iX6_alone_50 : LdI MX6_alone 50 2 51 := Or.inr ⟨2, rfl, by decide +kernel, rfl⟩
theorem iX6_alone_51 : Ins MX6_alone 51 (.aaload) 1 52 := ⟨by decide +kernel, rfl⟩
theorem iX6_alone_52 : StA MX6_alone 52 5 54 := ⟨Or.inl ⟨by decide +kernel, rfl⟩, Nat.le_of_ble_eq_true rfl⟩
theorem iX6_alone_54 : LdA MX6_alone 54 4 56 := Or.inl ⟨by decide +kernel, rfl⟩
theorem iX6_alone_56 : Ins MX6_alone 56 (.invokevirtual 131) 3 59 := ⟨by decide +kernel, rfl⟩
theorem iX6_alone_59 : Jmp MX6_alone 59 (.ifCond .ne) 70 62 := ⟨11, ⟨by decide +kernel, rfl⟩, by decide⟩
theorem iX6_alone_62 : LdA MX6_alone 62 5 64 := Or.inl ⟨by decide +kernel, rfl⟩
theorem iX6_alone_64 : Ins MX6_alone 64 (.invokevirtual 131) 3 67 := ⟨by decide +kernel, rfl⟩
theorem iX6_alone_67 : Jmp MX6_alone 67 (.ifCond .eq) 73 70 := ⟨6, ⟨by decide +kernel, rfl⟩, by decide⟩
theorem iX6_alone_70 : Ins MX6_alone 70 (.bipush (-3)) 2 72 := ⟨by decide +kernel, rfl⟩
theorem iX6_alone_72 : Ins MX6_alone 72 (.ireturn) 1 73 := ⟨by decide +kernel, rfl⟩
theorem iX6_alone_73 : LdA MX6_alone 73 4 75 := Or.inl ⟨by decide +kernel, rfl⟩
theorem iX6_alone_75 : Ins MX6_alone 75 (.invokestatic 134) 3 78 := ⟨by decide +kernel, rfl⟩
theorem iX6_alone_78 : StL MX6_alone 78 6 80 := ⟨Or.inl ⟨by decide +kernel, rfl⟩, Nat.le_of_ble_eq_true rfl⟩
theorem iX6_alone_80 : LdA MX6_alone 80 5 82 := Or.inl ⟨by decide +kernel, rfl⟩
theorem iX6_alone_82 : Ins MX6_alone 82 (.invokestatic 134) 3 85 := ⟨by decide +kernel, rfl⟩
theorem iX6_alone_85 : StL MX6_alone 85 8 87 := ⟨Or.inl ⟨by decide +kernel, rfl⟩, Nat.le_of_ble_eq_true rfl⟩
theorem iX6_alone_87 : LdA MX6_alone 87 4 89 := Or.inl ⟨by decide +kernel, rfl⟩
theorem iX6_alone_89 : LdA MX6_alone 89 0 90 := Or.inr ⟨0, rfl, by decide +kernel, rfl⟩
theorem iX6_alone_90 : Ins MX6_alone 90 (.getfield 19) 3 93 := ⟨by decide +kernel, rfl⟩
theorem iX6_alone_93 : Ins MX6_alone 93 (.getfield 140) 3 96 := ⟨by decide +kernel, rfl⟩
theorem iX6_alone_96 : Ins MX6_alone 96 (.invokestatic 143) 3 99 := ⟨by decide +kernel, rfl⟩
theorem iX6_alone_99 : StL MX6_alone 99 10 101 := ⟨Or.inl ⟨by decide +kernel, rfl⟩, Nat.le_of_ble_eq_true rfl⟩
theorem iX6_alone_101 : LdA MX6_alone 101 5 103 := Or.inl ⟨by decide +kernel, rfl⟩
theorem iX6_alone_103 : LdA MX6_alone 103 0 104 := Or.inr ⟨0, rfl, by decide +kernel, rfl⟩
theorem iX6_alone_104 : Ins MX6_alone 104 (.getfield 19) 3 107 := ⟨by decide +kernel, rfl⟩
theorem iX6_alone_107 : Ins MX6_alone 107 (.getfield 140) 3 110 := ⟨by decide +kernel, rfl⟩
theorem iX6_alone_110 : Ins MX6_alone 110 (.invokestatic 143) 3 113 := ⟨by decide +kernel, rfl⟩
theorem iX6_alone_113 : StL MX6_alone 113 12 115 := ⟨Or.inl ⟨by decide +kernel, rfl⟩, Nat.le_of_ble_eq_true rfl⟩
theorem iX6_alone_115 : LdL MX6_alone 115 6 117 := Or.inl ⟨by decide +kernel, rfl⟩
theorem iX6_alone_117 : LdL MX6_alone 117 10 119 := Or.inl ⟨by decide +kernel, rfl⟩
theorem iX6_alone_119 : Ins MX6_alone 119 (.lsub) 1 120 := ⟨by decide +kernel, rfl⟩
theorem iX6_alone_120 : LdL MX6_alone 120 12 122 := Or.inl ⟨by decide +kernel, rfl⟩
theorem iX6_alone_122 : Ins MX6_alone 122 (.lmul) 1 123 := ⟨by decide +kernel, rfl⟩
theorem iX6_alone_123 : LdL MX6_alone 123 8 125 := Or.inl ⟨by decide +kernel, rfl⟩
theorem iX6_alone_125 : LdL MX6_alone 125 12 127 := Or.inl ⟨by decide +kernel, rfl⟩
theorem iX6_alone_127 : Ins MX6_alone 127 (.lsub) 1 128 := ⟨by decide +kernel, rfl⟩
theorem iX6_alone_128 : LdL MX6_alone 128 10 130 := Or.inl ⟨by decide +kernel, rfl⟩
theorem iX6_alone_130 : Ins MX6_alone 130 (.lmul) 1 131 := ⟨by decide +kernel, rfl⟩
theorem iX6_alone_131 : Ins MX6_alone 131 (.ladd) 1 132 := ⟨by decide +kernel, rfl⟩
theorem iX6_alone_132 : StL MX6_alone 132 14 134 := ⟨Or.inl ⟨by decide +kernel, rfl⟩, Nat.le_of_ble_eq_true rfl⟩
theorem iX6_alone_134 : LdL MX6_alone 134 14 136 := Or.inl ⟨by decide +kernel, rfl⟩
theorem iX6_alone_136 : LdL MX6_alone 136 6 138 := Or.inl ⟨by decide +kernel, rfl⟩
theorem iX6_alone_138 : LdL MX6_alone 138 8 140 := Or.inl ⟨by decide +kernel, rfl⟩
theorem iX6_alone_140 : Ins MX6_alone 140 (.lmul) 1 141 := ⟨by decide +kernel, rfl⟩
theorem iX6_alone_141 : LdI MX6_alone 141 3 142 := Or.inr ⟨3, rfl, by decide +kernel, rfl⟩
theorem iX6_alone_142 : Ins MX6_alone 142 (.invokestatic 147) 3 145 := ⟨by decide +kernel, rfl⟩
theorem iX6_alone_145 : Ins MX6_alone 145 (.l2i) 1 146 := ⟨by decide +kernel, rfl⟩
theorem iX6_alone_146 : Ins MX6_alone 146 (.ireturn) 1 147 := ⟨by decide +kernel, rfl⟩
theorem iX6_refusalAhead_0 : LdA MX6_refusalAhead 0 0 1 := Or.inr ⟨0, rfl, by decide +kernel, rfl⟩
theorem iX6_refusalAhead_1 : Ins MX6_refusalAhead 1 (.getfield 19) 3 4 := ⟨by decide +kernel, rfl⟩
theorem iX6_refusalAhead_4 : LdI MX6_refusalAhead 4 1 5 := Or.inr ⟨1, rfl, by decide +kernel, rfl⟩
theorem iX6_refusalAhead_5 : Ins MX6_refusalAhead 5 (.invokevirtual 81) 3 8 := ⟨by decide +kernel, rfl⟩
theorem iX6_refusalAhead_8 : Jmp MX6_refusalAhead 8 (.ifCond .ne) 13 11 := ⟨5, ⟨by decide +kernel, rfl⟩, by decide⟩
theorem iX6_refusalAhead_11 : Ins MX6_refusalAhead 11 (.iconst (-1)) 1 12 := ⟨by decide +kernel, rfl⟩
theorem iX6_refusalAhead_12 : Ins MX6_refusalAhead 12 (.ireturn) 1 13 := ⟨by decide +kernel, rfl⟩
theorem iX6_refusalAhead_13 : LdI MX6_refusalAhead 13 2 14 := Or.inr ⟨2, rfl, by decide +kernel, rfl⟩
theorem iX6_refusalAhead_14 : Ins MX6_refusalAhead 14 (.iconst 1) 1 15 := ⟨by decide +kernel, rfl⟩
theorem iX6_refusalAhead_15 : Jmp MX6_refusalAhead 15 (.if_icmp .lt) 39 18 := ⟨24, ⟨by decide +kernel, rfl⟩, by decide⟩
theorem iX6_refusalAhead_18 : LdI MX6_refusalAhead 18 2 19 := Or.inr ⟨2, rfl, by decide +kernel, rfl⟩
theorem iX6_refusalAhead_19 : Ins MX6_refusalAhead 19 (.iconst 4) 1 20 := ⟨by decide +kernel, rfl⟩
theorem iX6_refusalAhead_20 : Jmp MX6_refusalAhead 20 (.if_icmp .gt) 39 23 := ⟨19, ⟨by decide +kernel, rfl⟩, by decide⟩
theorem iX6_refusalAhead_23 : LdA MX6_refusalAhead 23 0 24 := Or.inr ⟨0, rfl, by decide +kernel, rfl⟩
theorem iX6_refusalAhead_24 : Ins MX6_refusalAhead 24 (.getfield 19) 3 27 := ⟨by decide +kernel, rfl⟩
theorem iX6_refusalAhead_27 : Ins MX6_refusalAhead 27 (.getfield 140) 3 30 := ⟨by decide +kernel, rfl⟩
theorem iX6_refusalAhead_30 : LdI MX6_refusalAhead 30 2 31 := Or.inr ⟨2, rfl, by decide +kernel, rfl⟩
theorem iX6_refusalAhead_31 : Ins MX6_refusalAhead 31 (.iadd) 1 32 := ⟨by decide +kernel, rfl⟩
theorem iX6_refusalAhead_32 : Ins MX6_refusalAhead 32 (.iconst 1) 1 33 := ⟨by decide +kernel, rfl⟩
theorem iX6_refusalAhead_33 : Ins MX6_refusalAhead 33 (.isub) 1 34 := ⟨by decide +kernel, rfl⟩
theorem iX6_refusalAhead_34 : Ins MX6_refusalAhead 34 (.bipush 11) 2 36 := ⟨by decide +kernel, rfl⟩
theorem iX6_refusalAhead_36 : Jmp MX6_refusalAhead 36 (.if_icmp .le) 42 39 := ⟨6, ⟨by decide +kernel, rfl⟩, by decide⟩
theorem iX6_refusalAhead_39 : Ins MX6_refusalAhead 39 (.bipush (-2)) 2 41 := ⟨by decide +kernel, rfl⟩
theorem iX6_refusalAhead_41 : Ins MX6_refusalAhead 41 (.ireturn) 1 42 := ⟨by decide +kernel, rfl⟩
theorem iX6_refusalAhead_42 : LdA MX6_refusalAhead 42 0 43 := Or.inr ⟨0, rfl, by decide +kernel, rfl⟩
theorem iX6_refusalAhead_43 : Ins MX6_refusalAhead 43 (.getfield 19) 3 46 := ⟨by decide +kernel, rfl⟩
theorem iX6_refusalAhead_46 : Ins MX6_refusalAhead 46 (.getfield 85) 3 49 := ⟨by decide +kernel, rfl⟩
theorem iX6_refusalAhead_49 : LdI MX6_refusalAhead 49 1 50 := Or.inr ⟨1, rfl, by decide +kernel, rfl⟩
theorem iX6_refusalAhead_50 : Ins MX6_refusalAhead 50 (.aaload) 1 51 := ⟨by decide +kernel, rfl⟩
theorem iX6_refusalAhead_51 : Ins MX6_refusalAhead 51 (.invokevirtual 131) 3 54 := ⟨by decide +kernel, rfl⟩
theorem iX6_refusalAhead_54 : Jmp MX6_refusalAhead 54 (.ifCond .eq) 62 57 := ⟨8, ⟨by decide +kernel, rfl⟩, by decide⟩
theorem iX6_refusalAhead_57 : Ins MX6_refusalAhead 57 (.bipush (-3)) 2 59 := ⟨by decide +kernel, rfl⟩
theorem iX6_refusalAhead_59 : Jmp MX6_refusalAhead 59 .goto 63 62 := ⟨4, ⟨by decide +kernel, rfl⟩, by decide⟩
theorem iX6_refusalAhead_62 : Ins MX6_refusalAhead 62 (.iconst 0) 1 63 := ⟨by decide +kernel, rfl⟩
theorem iX6_refusalAhead_63 : Ins MX6_refusalAhead 63 (.ireturn) 1 64 := ⟨by decide +kernel, rfl⟩
theorem iX6_leastTerms_0 : LdL MX6_leastTerms 0 0 1 := Or.inr ⟨0, rfl, by decide +kernel, rfl⟩
theorem iX6_leastTerms_1 : LdL MX6_leastTerms 1 2 2 := Or.inr ⟨2, rfl, by decide +kernel, rfl⟩
theorem iX6_leastTerms_2 : Ins MX6_leastTerms 2 (.invokestatic 174) 3 5 := ⟨by decide +kernel, rfl⟩
theorem iX6_leastTerms_5 : StL MX6_leastTerms 5 5 7 := ⟨Or.inl ⟨by decide +kernel, rfl⟩, Nat.le_of_ble_eq_true rfl⟩
theorem iX6_leastTerms_7 : LdI MX6_leastTerms 7 4 9 := Or.inl ⟨by decide +kernel, rfl⟩
theorem iX6_leastTerms_9 : Jmp MX6_leastTerms 9 (.ifCond .eq) 16 12 := ⟨7, ⟨by decide +kernel, rfl⟩, by decide⟩
theorem iX6_leastTerms_12 : LdL MX6_leastTerms 12 0 13 := Or.inr ⟨0, rfl, by decide +kernel, rfl⟩
theorem iX6_leastTerms_13 : Jmp MX6_leastTerms 13 .goto 17 16 := ⟨4, ⟨by decide +kernel, rfl⟩, by decide⟩
theorem iX6_leastTerms_16 : LdL MX6_leastTerms 16 2 17 := Or.inr ⟨2, rfl, by decide +kernel, rfl⟩
theorem iX6_leastTerms_17 : StL MX6_leastTerms 17 7 19 := ⟨Or.inl ⟨by decide +kernel, rfl⟩, Nat.le_of_ble_eq_true rfl⟩
theorem iX6_leastTerms_19 : LdL MX6_leastTerms 19 5 21 := Or.inl ⟨by decide +kernel, rfl⟩
theorem iX6_leastTerms_21 : Ins MX6_leastTerms 21 (.lconst 1) 1 22 := ⟨by decide +kernel, rfl⟩
theorem iX6_leastTerms_22 : Ins MX6_leastTerms 22 (.lcmp) 1 23 := ⟨by decide +kernel, rfl⟩
theorem iX6_leastTerms_23 : Jmp MX6_leastTerms 23 (.ifCond .le) 34 26 := ⟨11, ⟨by decide +kernel, rfl⟩, by decide⟩
theorem iX6_leastTerms_26 : LdL MX6_leastTerms 26 7 28 := Or.inl ⟨by decide +kernel, rfl⟩
theorem iX6_leastTerms_28 : LdL MX6_leastTerms 28 5 30 := Or.inl ⟨by decide +kernel, rfl⟩
theorem iX6_leastTerms_30 : Ins MX6_leastTerms 30 (.ldiv) 1 31 := ⟨by decide +kernel, rfl⟩
theorem iX6_leastTerms_31 : Jmp MX6_leastTerms 31 .goto 36 34 := ⟨5, ⟨by decide +kernel, rfl⟩, by decide⟩
theorem iX6_leastTerms_34 : LdL MX6_leastTerms 34 7 36 := Or.inl ⟨by decide +kernel, rfl⟩
theorem iX6_leastTerms_36 : Ins MX6_leastTerms 36 (.lreturn) 1 37 := ⟨by decide +kernel, rfl⟩
theorem iX6_commonDivisor_0 : LdL MX6_commonDivisor 0 0 1 := Or.inr ⟨0, rfl, by decide +kernel, rfl⟩
theorem iX6_commonDivisor_1 : StL MX6_commonDivisor 1 4 3 := ⟨Or.inl ⟨by decide +kernel, rfl⟩, Nat.le_of_ble_eq_true rfl⟩
theorem iX6_commonDivisor_3 : LdL MX6_commonDivisor 3 2 4 := Or.inr ⟨2, rfl, by decide +kernel, rfl⟩
theorem iX6_commonDivisor_4 : StL MX6_commonDivisor 4 6 6 := ⟨Or.inl ⟨by decide +kernel, rfl⟩, Nat.le_of_ble_eq_true rfl⟩
theorem iX6_commonDivisor_6 : Ins MX6_commonDivisor 6 (.iconst 0) 1 7 := ⟨by decide +kernel, rfl⟩
theorem iX6_commonDivisor_7 : StI MX6_commonDivisor 7 8 9 := ⟨Or.inl ⟨by decide +kernel, rfl⟩, Nat.le_of_ble_eq_true rfl⟩
theorem iX6_commonDivisor_9 : LdI MX6_commonDivisor 9 8 11 := Or.inl ⟨by decide +kernel, rfl⟩
theorem iX6_commonDivisor_11 : Ins MX6_commonDivisor 11 (.bipush 100) 2 13 := ⟨by decide +kernel, rfl⟩
theorem iX6_commonDivisor_13 : Jmp MX6_commonDivisor 13 (.if_icmp .ge) 44 16 := ⟨31, ⟨by decide +kernel, rfl⟩, by decide⟩
theorem iX6_commonDivisor_16 : LdL MX6_commonDivisor 16 6 18 := Or.inl ⟨by decide +kernel, rfl⟩
theorem iX6_commonDivisor_18 : Ins MX6_commonDivisor 18 (.lconst 0) 1 19 := ⟨by decide +kernel, rfl⟩
theorem iX6_commonDivisor_19 : Ins MX6_commonDivisor 19 (.lcmp) 1 20 := ⟨by decide +kernel, rfl⟩
theorem iX6_commonDivisor_20 : Jmp MX6_commonDivisor 20 (.ifCond .eq) 44 23 := ⟨24, ⟨by decide +kernel, rfl⟩, by decide⟩
theorem iX6_commonDivisor_23 : LdL MX6_commonDivisor 23 4 25 := Or.inl ⟨by decide +kernel, rfl⟩
theorem iX6_commonDivisor_25 : LdL MX6_commonDivisor 25 6 27 := Or.inl ⟨by decide +kernel, rfl⟩
theorem iX6_commonDivisor_27 : Ins MX6_commonDivisor 27 (.lrem) 1 28 := ⟨by decide +kernel, rfl⟩
theorem iX6_commonDivisor_28 : StL MX6_commonDivisor 28 9 30 := ⟨Or.inl ⟨by decide +kernel, rfl⟩, Nat.le_of_ble_eq_true rfl⟩
theorem iX6_commonDivisor_30 : LdL MX6_commonDivisor 30 6 32 := Or.inl ⟨by decide +kernel, rfl⟩
theorem iX6_commonDivisor_32 : StL MX6_commonDivisor 32 4 34 := ⟨Or.inl ⟨by decide +kernel, rfl⟩, Nat.le_of_ble_eq_true rfl⟩
theorem iX6_commonDivisor_34 : LdL MX6_commonDivisor 34 9 36 := Or.inl ⟨by decide +kernel, rfl⟩
theorem iX6_commonDivisor_36 : StL MX6_commonDivisor 36 6 38 := ⟨Or.inl ⟨by decide +kernel, rfl⟩, Nat.le_of_ble_eq_true rfl⟩
theorem iX6_commonDivisor_38 : Inc MX6_commonDivisor 38 8 (1) 41 := ⟨⟨by decide +kernel, rfl⟩, Nat.le_of_ble_eq_true rfl⟩
theorem iX6_commonDivisor_41 : Jmp MX6_commonDivisor 41 .goto 9 44 := ⟨-32, ⟨by decide +kernel, rfl⟩, by decide⟩
theorem iX6_commonDivisor_44 : LdL MX6_commonDivisor 44 4 46 := Or.inl ⟨by decide +kernel, rfl⟩
theorem iX6_commonDivisor_46 : Ins MX6_commonDivisor 46 (.lreturn) 1 47 := ⟨by decide +kernel, rfl⟩
theorem iX6_sheets_0 : LdI MX6_sheets 0 1 1 := Or.inr ⟨1, rfl, by decide +kernel, rfl⟩
theorem iX6_sheets_1 : Ins MX6_sheets 1 (.iconst 1) 1 2 := ⟨by decide +kernel, rfl⟩
theorem iX6_sheets_2 : Jmp MX6_sheets 2 (.if_icmp .lt) 30 5 := ⟨28, ⟨by decide +kernel, rfl⟩, by decide⟩
theorem iX6_sheets_5 : LdI MX6_sheets 5 1 6 := Or.inr ⟨1, rfl, by decide +kernel, rfl⟩
theorem iX6_sheets_6 : Ins MX6_sheets 6 (.bipush 6) 2 8 := ⟨by decide +kernel, rfl⟩
theorem iX6_sheets_8 : Jmp MX6_sheets 8 (.if_icmp .gt) 30 11 := ⟨22, ⟨by decide +kernel, rfl⟩, by decide⟩
theorem iX6_sheets_11 : LdI MX6_sheets 11 2 12 := Or.inr ⟨2, rfl, by decide +kernel, rfl⟩
theorem iX6_sheets_12 : Jmp MX6_sheets 12 (.ifCond .lt) 30 15 := ⟨18, ⟨by decide +kernel, rfl⟩, by decide⟩
theorem iX6_sheets_15 : LdI MX6_sheets 15 2 16 := Or.inr ⟨2, rfl, by decide +kernel, rfl⟩
theorem iX6_sheets_16 : LdI MX6_sheets 16 1 17 := Or.inr ⟨1, rfl, by decide +kernel, rfl⟩
theorem iX6_sheets_17 : Jmp MX6_sheets 17 (.if_icmp .gt) 30 20 := ⟨13, ⟨by decide +kernel, rfl⟩, by decide⟩
theorem iX6_sheets_20 : LdI MX6_sheets 20 3 21 := Or.inr ⟨3, rfl, by decide +kernel, rfl⟩
theorem iX6_sheets_21 : Jmp MX6_sheets 21 (.ifCond .lt) 30 24 := ⟨9, ⟨by decide +kernel, rfl⟩, by decide⟩
theorem iX6_sheets_24 : LdI MX6_sheets 24 3 25 := Or.inr ⟨3, rfl, by decide +kernel, rfl⟩
theorem iX6_sheets_25 : Ins MX6_sheets 25 (.bipush 18) 2 27 := ⟨by decide +kernel, rfl⟩
theorem iX6_sheets_27 : Jmp MX6_sheets 27 (.if_icmp .le) 33 30 := ⟨6, ⟨by decide +kernel, rfl⟩, by decide⟩
theorem iX6_sheets_30 : Ins MX6_sheets 30 (.bipush (-2)) 2 32 := ⟨by decide +kernel, rfl⟩
theorem iX6_sheets_32 : Ins MX6_sheets 32 (.ireturn) 1 33 := ⟨by decide +kernel, rfl⟩
theorem iX6_sheets_33 : LdA MX6_sheets 33 0 34 := Or.inr ⟨0, rfl, by decide +kernel, rfl⟩
theorem iX6_sheets_34 : Ins MX6_sheets 34 (.getfield 51) 3 37 := ⟨by decide +kernel, rfl⟩
theorem iX6_sheets_37 : LdI MX6_sheets 37 1 38 := Or.inr ⟨1, rfl, by decide +kernel, rfl⟩
theorem iX6_sheets_38 : LdI MX6_sheets 38 2 39 := Or.inr ⟨2, rfl, by decide +kernel, rfl⟩
theorem iX6_sheets_39 : LdI MX6_sheets 39 3 40 := Or.inr ⟨3, rfl, by decide +kernel, rfl⟩
theorem iX6_sheets_40 : Ins MX6_sheets 40 (.invokevirtual 178) 3 43 := ⟨by decide +kernel, rfl⟩
theorem iX6_sheets_43 : Ins MX6_sheets 43 (.ireturn) 1 44 := ⟨by decide +kernel, rfl⟩
theorem iX6_seed_0 : LdA MX6_seed 0 0 1 := Or.inr ⟨0, rfl, by decide +kernel, rfl⟩
theorem iX6_seed_1 : Ins MX6_seed 1 (.getfield 55) 3 4 := ⟨by decide +kernel, rfl⟩
theorem iX6_seed_4 : StL MX6_seed 4 3 5 := ⟨Or.inr ⟨3, rfl, by decide +kernel, rfl⟩, Nat.le_of_ble_eq_true rfl⟩
theorem iX6_seed_5 : LdA MX6_seed 5 0 6 := Or.inr ⟨0, rfl, by decide +kernel, rfl⟩
theorem iX6_seed_6 : LdL MX6_seed 6 1 7 := Or.inr ⟨1, rfl, by decide +kernel, rfl⟩
theorem iX6_seed_7 : Ins MX6_seed 7 (.putfield 55) 3 10 := ⟨by decide +kernel, rfl⟩
theorem iX6_seed_10 : LdL MX6_seed 10 3 11 := Or.inr ⟨3, rfl, by decide +kernel, rfl⟩
theorem iX6_seed_11 : Ins MX6_seed 11 (.lreturn) 1 12 := ⟨by decide +kernel, rfl⟩
theorem iX6_fair_0 : LdA MX6_fair 0 0 1 := Or.inr ⟨0, rfl, by decide +kernel, rfl⟩
theorem iX6_fair_1 : Ins MX6_fair 1 (.getfield 23) 3 4 := ⟨by decide +kernel, rfl⟩
theorem iX6_fair_4 : LdA MX6_fair 4 0 5 := Or.inr ⟨0, rfl, by decide +kernel, rfl⟩
theorem iX6_fair_5 : Ins MX6_fair 5 (.getfield 19) 3 8 := ⟨by decide +kernel, rfl⟩
theorem iX6_fair_8 : Ins MX6_fair 8 (.invokevirtual 125) 3 11 := ⟨by decide +kernel, rfl⟩
theorem iX6_fair_11 : Ins MX6_fair 11 (.iconst 0) 1 12 := ⟨by decide +kernel, rfl⟩
theorem iX6_fair_12 : StI MX6_fair 12 1 13 := ⟨Or.inr ⟨1, rfl, by decide +kernel, rfl⟩, Nat.le_of_ble_eq_true rfl⟩
theorem iX6_fair_13 : LdI MX6_fair 13 1 14 := Or.inr ⟨1, rfl, by decide +kernel, rfl⟩
theorem iX6_fair_14 : Ins MX6_fair 14 (.sipush 1000) 3 17 := ⟨by decide +kernel, rfl⟩
theorem iX6_fair_17 : Jmp MX6_fair 17 (.if_icmp .ge) 89 20 := ⟨72, ⟨by decide +kernel, rfl⟩, by decide⟩
theorem iX6_fair_20 : LdA MX6_fair 20 0 21 := Or.inr ⟨0, rfl, by decide +kernel, rfl⟩
theorem iX6_fair_21 : Ins MX6_fair 21 (.getfield 23) 3 24 := ⟨by decide +kernel, rfl⟩
theorem iX6_fair_24 : Ins MX6_fair 24 (.invokevirtual 106) 3 27 := ⟨by decide +kernel, rfl⟩
theorem iX6_fair_27 : Jmp MX6_fair 27 (.ifCond .ne) 89 30 := ⟨62, ⟨by decide +kernel, rfl⟩, by decide⟩
theorem iX6_fair_30 : LdA MX6_fair 30 0 31 := Or.inr ⟨0, rfl, by decide +kernel, rfl⟩
theorem iX6_fair_31 : LdA MX6_fair 31 0 32 := Or.inr ⟨0, rfl, by decide +kernel, rfl⟩
theorem iX6_fair_32 : Ins MX6_fair 32 (.getfield 55) 3 35 := ⟨by decide +kernel, rfl⟩
theorem iX6_fair_35 : Ins MX6_fair 35 (.ldc2_w 182) 3 38 := ⟨by decide +kernel, rfl⟩
theorem iX6_fair_38 : Ins MX6_fair 38 (.lmul) 1 39 := ⟨by decide +kernel, rfl⟩
theorem iX6_fair_39 : Ins MX6_fair 39 (.ldc2_w 184) 3 42 := ⟨by decide +kernel, rfl⟩
theorem iX6_fair_42 : Ins MX6_fair 42 (.ladd) 1 43 := ⟨by decide +kernel, rfl⟩
theorem iX6_fair_43 : Ins MX6_fair 43 (.putfield 55) 3 46 := ⟨by decide +kernel, rfl⟩
theorem iX6_fair_46 : LdA MX6_fair 46 0 47 := Or.inr ⟨0, rfl, by decide +kernel, rfl⟩
theorem iX6_fair_47 : Ins MX6_fair 47 (.getfield 55) 3 50 := ⟨by decide +kernel, rfl⟩
theorem iX6_fair_50 : Ins MX6_fair 50 (.bipush 33) 2 52 := ⟨by decide +kernel, rfl⟩
theorem iX6_fair_52 : Ins MX6_fair 52 (.lushr) 1 53 := ⟨by decide +kernel, rfl⟩
theorem iX6_fair_53 : Ins MX6_fair 53 (.ldc2_w 186) 3 56 := ⟨by decide +kernel, rfl⟩
theorem iX6_fair_56 : Ins MX6_fair 56 (.lrem) 1 57 := ⟨by decide +kernel, rfl⟩
theorem iX6_fair_57 : StL MX6_fair 57 2 58 := ⟨Or.inr ⟨2, rfl, by decide +kernel, rfl⟩, Nat.le_of_ble_eq_true rfl⟩
theorem iX6_fair_58 : LdA MX6_fair 58 0 59 := Or.inr ⟨0, rfl, by decide +kernel, rfl⟩
theorem iX6_fair_59 : Ins MX6_fair 59 (.getfield 23) 3 62 := ⟨by decide +kernel, rfl⟩
theorem iX6_fair_62 : LdL MX6_fair 62 2 63 := Or.inr ⟨2, rfl, by decide +kernel, rfl⟩
theorem iX6_fair_63 : LdA MX6_fair 63 0 64 := Or.inr ⟨0, rfl, by decide +kernel, rfl⟩
theorem iX6_fair_64 : Ins MX6_fair 64 (.getfield 23) 3 67 := ⟨by decide +kernel, rfl⟩
theorem iX6_fair_67 : Ins MX6_fair 67 (.invokevirtual 188) 3 70 := ⟨by decide +kernel, rfl⟩
theorem iX6_fair_70 : Ins MX6_fair 70 (.i2l) 1 71 := ⟨by decide +kernel, rfl⟩
theorem iX6_fair_71 : Ins MX6_fair 71 (.lcmp) 1 72 := ⟨by decide +kernel, rfl⟩
theorem iX6_fair_72 : Jmp MX6_fair 72 (.ifCond .ge) 79 75 := ⟨7, ⟨by decide +kernel, rfl⟩, by decide⟩
theorem iX6_fair_75 : Ins MX6_fair 75 (.iconst 1) 1 76 := ⟨by decide +kernel, rfl⟩
theorem iX6_fair_76 : Jmp MX6_fair 76 .goto 80 79 := ⟨4, ⟨by decide +kernel, rfl⟩, by decide⟩
theorem iX6_fair_79 : Ins MX6_fair 79 (.iconst 0) 1 80 := ⟨by decide +kernel, rfl⟩
theorem iX6_fair_80 : Ins MX6_fair 80 (.invokevirtual 114) 3 83 := ⟨by decide +kernel, rfl⟩
theorem iX6_fair_83 : Inc MX6_fair 83 1 (1) 86 := ⟨⟨by decide +kernel, rfl⟩, Nat.le_of_ble_eq_true rfl⟩
theorem iX6_fair_86 : Jmp MX6_fair 86 .goto 13 89 := ⟨-73, ⟨by decide +kernel, rfl⟩, by decide⟩
theorem iX6_fair_89 : LdA MX6_fair 89 0 90 := Or.inr ⟨0, rfl, by decide +kernel, rfl⟩
theorem iX6_fair_90 : Ins MX6_fair 90 (.getfield 23) 3 93 := ⟨by decide +kernel, rfl⟩
theorem iX6_fair_93 : Ins MX6_fair 93 (.invokevirtual 191) 3 96 := ⟨by decide +kernel, rfl⟩
theorem iX6_fair_96 : Ins MX6_fair 96 (.ireturn) 1 97 := ⟨by decide +kernel, rfl⟩
theorem iX6_keep_0 : LdI MX6_keep 0 1 1 := Or.inr ⟨1, rfl, by decide +kernel, rfl⟩
theorem iX6_keep_1 : Jmp MX6_keep 1 (.ifCond .lt) 9 4 := ⟨8, ⟨by decide +kernel, rfl⟩, by decide⟩
theorem iX6_keep_4 : LdI MX6_keep 4 1 5 := Or.inr ⟨1, rfl, by decide +kernel, rfl⟩
theorem iX6_keep_5 : Ins MX6_keep 5 (.iconst 2) 1 6 := ⟨by decide +kernel, rfl⟩
theorem iX6_keep_6 : Jmp MX6_keep 6 (.if_icmp .lt) 11 9 := ⟨5, ⟨by decide +kernel, rfl⟩, by decide⟩
theorem iX6_keep_9 : Ins MX6_keep 9 (.iconst (-1)) 1 10 := ⟨by decide +kernel, rfl⟩
theorem iX6_keep_10 : Ins MX6_keep 10 (.ireturn) 1 11 := ⟨by decide +kernel, rfl⟩
theorem iX6_keep_11 : LdA MX6_keep 11 0 12 := Or.inr ⟨0, rfl, by decide +kernel, rfl⟩
theorem iX6_keep_12 : Ins MX6_keep 12 (.getfield 33) 3 15 := ⟨by decide +kernel, rfl⟩
theorem iX6_keep_15 : LdI MX6_keep 15 1 16 := Or.inr ⟨1, rfl, by decide +kernel, rfl⟩
theorem iX6_keep_16 : Ins MX6_keep 16 (.aaload) 1 17 := ⟨by decide +kernel, rfl⟩
theorem iX6_keep_17 : LdA MX6_keep 17 0 18 := Or.inr ⟨0, rfl, by decide +kernel, rfl⟩
theorem iX6_keep_18 : Ins MX6_keep 18 (.getfield 19) 3 21 := ⟨by decide +kernel, rfl⟩
theorem iX6_keep_21 : Ins MX6_keep 21 (.invokevirtual 125) 3 24 := ⟨by decide +kernel, rfl⟩
theorem iX6_keep_24 : LdA MX6_keep 24 0 25 := Or.inr ⟨0, rfl, by decide +kernel, rfl⟩
theorem iX6_keep_25 : Ins MX6_keep 25 (.getfield 37) 3 28 := ⟨by decide +kernel, rfl⟩
theorem iX6_keep_28 : LdI MX6_keep 28 1 29 := Or.inr ⟨1, rfl, by decide +kernel, rfl⟩
theorem iX6_keep_29 : Ins MX6_keep 29 (.iconst 1) 1 30 := ⟨by decide +kernel, rfl⟩
theorem iX6_keep_30 : Ins MX6_keep 30 (.bastore) 1 31 := ⟨by decide +kernel, rfl⟩
theorem iX6_keep_31 : LdA MX6_keep 31 0 32 := Or.inr ⟨0, rfl, by decide +kernel, rfl⟩
theorem iX6_keep_32 : Ins MX6_keep 32 (.getfield 19) 3 35 := ⟨by decide +kernel, rfl⟩
theorem iX6_keep_35 : Ins MX6_keep 35 (.getfield 140) 3 38 := ⟨by decide +kernel, rfl⟩
theorem iX6_keep_38 : Ins MX6_keep 38 (.ireturn) 1 39 := ⟨by decide +kernel, rfl⟩
theorem iX6_again_0 : LdI MX6_again 0 1 1 := Or.inr ⟨1, rfl, by decide +kernel, rfl⟩
theorem iX6_again_1 : Jmp MX6_again 1 (.ifCond .lt) 9 4 := ⟨8, ⟨by decide +kernel, rfl⟩, by decide⟩
theorem iX6_again_4 : LdI MX6_again 4 1 5 := Or.inr ⟨1, rfl, by decide +kernel, rfl⟩
theorem iX6_again_5 : Ins MX6_again 5 (.iconst 2) 1 6 := ⟨by decide +kernel, rfl⟩
theorem iX6_again_6 : Jmp MX6_again 6 (.if_icmp .lt) 11 9 := ⟨5, ⟨by decide +kernel, rfl⟩, by decide⟩
theorem iX6_again_9 : Ins MX6_again 9 (.iconst (-1)) 1 10 := ⟨by decide +kernel, rfl⟩
theorem iX6_again_10 : Ins MX6_again 10 (.ireturn) 1 11 := ⟨by decide +kernel, rfl⟩
theorem iX6_again_11 : LdA MX6_again 11 0 12 := Or.inr ⟨0, rfl, by decide +kernel, rfl⟩
theorem iX6_again_12 : Ins MX6_again 12 (.getfield 37) 3 15 := ⟨by decide +kernel, rfl⟩
theorem iX6_again_15 : LdI MX6_again 15 1 16 := Or.inr ⟨1, rfl, by decide +kernel, rfl⟩
theorem iX6_again_16 : Ins MX6_again 16 (.baload) 1 17 := ⟨by decide +kernel, rfl⟩
theorem iX6_again_17 : Jmp MX6_again 17 (.ifCond .ne) 23 20 := ⟨6, ⟨by decide +kernel, rfl⟩, by decide⟩
theorem iX6_again_20 : Ins MX6_again 20 (.bipush (-3)) 2 22 := ⟨by decide +kernel, rfl⟩
theorem iX6_again_22 : Ins MX6_again 22 (.ireturn) 1 23 := ⟨by decide +kernel, rfl⟩
theorem iX6_again_23 : LdA MX6_again 23 0 24 := Or.inr ⟨0, rfl, by decide +kernel, rfl⟩
theorem iX6_again_24 : Ins MX6_again 24 (.getfield 19) 3 27 := ⟨by decide +kernel, rfl⟩
theorem iX6_again_27 : LdA MX6_again 27 0 28 := Or.inr ⟨0, rfl, by decide +kernel, rfl⟩
theorem iX6_again_28 : Ins MX6_again 28 (.getfield 33) 3 31 := ⟨by decide +kernel, rfl⟩
theorem iX6_again_31 : LdI MX6_again 31 1 32 := Or.inr ⟨1, rfl, by decide +kernel, rfl⟩
theorem iX6_again_32 : Ins MX6_again 32 (.aaload) 1 33 := ⟨by decide +kernel, rfl⟩
theorem iX6_again_33 : Ins MX6_again 33 (.invokevirtual 125) 3 36 := ⟨by decide +kernel, rfl⟩
theorem iX6_again_36 : LdA MX6_again 36 0 37 := Or.inr ⟨0, rfl, by decide +kernel, rfl⟩
theorem iX6_again_37 : Ins MX6_again 37 (.getfield 29) 3 40 := ⟨by decide +kernel, rfl⟩
theorem iX6_again_40 : Ins MX6_again 40 (.invokevirtual 75) 3 43 := ⟨by decide +kernel, rfl⟩
theorem iX6_again_43 : LdA MX6_again 43 0 44 := Or.inr ⟨0, rfl, by decide +kernel, rfl⟩
theorem iX6_again_44 : Ins MX6_again 44 (.getfield 19) 3 47 := ⟨by decide +kernel, rfl⟩
theorem iX6_again_47 : Ins MX6_again 47 (.getfield 140) 3 50 := ⟨by decide +kernel, rfl⟩
theorem iX6_again_50 : Ins MX6_again 50 (.ireturn) 1 51 := ⟨by decide +kernel, rfl⟩
theorem iX6_count_0 : LdI MX6_count 0 1 1 := Or.inr ⟨1, rfl, by decide +kernel, rfl⟩
theorem iX6_count_1 : Jmp MX6_count 1 (.ifCond .lt) 10 4 := ⟨9, ⟨by decide +kernel, rfl⟩, by decide⟩
theorem iX6_count_4 : LdI MX6_count 4 1 5 := Or.inr ⟨1, rfl, by decide +kernel, rfl⟩
theorem iX6_count_5 : Ins MX6_count 5 (.bipush 8) 2 7 := ⟨by decide +kernel, rfl⟩
theorem iX6_count_7 : Jmp MX6_count 7 (.if_icmp .le) 13 10 := ⟨6, ⟨by decide +kernel, rfl⟩, by decide⟩
theorem iX6_count_10 : Ins MX6_count 10 (.bipush (-2)) 2 12 := ⟨by decide +kernel, rfl⟩
theorem iX6_count_12 : Ins MX6_count 12 (.ireturn) 1 13 := ⟨by decide +kernel, rfl⟩
theorem iX6_count_13 : LdI MX6_count 13 1 14 := Or.inr ⟨1, rfl, by decide +kernel, rfl⟩
theorem iX6_count_14 : Ins MX6_count 14 (.tableswitch 120 0 7 #[46, 54, 62, 70, 78, 87, 96, 104]) 46 60 := ⟨by decide +kernel, rfl⟩
theorem iX6_count_60 : LdA MX6_count 60 0 61 := Or.inr ⟨0, rfl, by decide +kernel, rfl⟩
theorem iX6_count_61 : Ins MX6_count 61 (.getfield 12) 3 64 := ⟨by decide +kernel, rfl⟩
theorem iX6_count_64 : Ins MX6_count 64 (.getfield 59) 3 67 := ⟨by decide +kernel, rfl⟩
theorem iX6_count_67 : Ins MX6_count 67 (.ireturn) 1 68 := ⟨by decide +kernel, rfl⟩
theorem iX6_count_68 : LdA MX6_count 68 0 69 := Or.inr ⟨0, rfl, by decide +kernel, rfl⟩
theorem iX6_count_69 : Ins MX6_count 69 (.getfield 19) 3 72 := ⟨by decide +kernel, rfl⟩
theorem iX6_count_72 : Ins MX6_count 72 (.getfield 78) 3 75 := ⟨by decide +kernel, rfl⟩
theorem iX6_count_75 : Ins MX6_count 75 (.ireturn) 1 76 := ⟨by decide +kernel, rfl⟩
theorem iX6_count_76 : LdA MX6_count 76 0 77 := Or.inr ⟨0, rfl, by decide +kernel, rfl⟩
theorem iX6_count_77 : Ins MX6_count 77 (.getfield 19) 3 80 := ⟨by decide +kernel, rfl⟩
theorem iX6_count_80 : Ins MX6_count 80 (.getfield 140) 3 83 := ⟨by decide +kernel, rfl⟩
theorem iX6_count_83 : Ins MX6_count 83 (.ireturn) 1 84 := ⟨by decide +kernel, rfl⟩
theorem iX6_count_84 : LdA MX6_count 84 0 85 := Or.inr ⟨0, rfl, by decide +kernel, rfl⟩
theorem iX6_count_85 : Ins MX6_count 85 (.getfield 19) 3 88 := ⟨by decide +kernel, rfl⟩
theorem iX6_count_88 : Ins MX6_count 88 (.invokevirtual 194) 3 91 := ⟨by decide +kernel, rfl⟩
theorem iX6_count_91 : Ins MX6_count 91 (.ireturn) 1 92 := ⟨by decide +kernel, rfl⟩
theorem iX6_count_92 : LdA MX6_count 92 0 93 := Or.inr ⟨0, rfl, by decide +kernel, rfl⟩
theorem iX6_count_93 : Ins MX6_count 93 (.getfield 19) 3 96 := ⟨by decide +kernel, rfl⟩
theorem iX6_count_96 : Ins MX6_count 96 (.iconst 1) 1 97 := ⟨by decide +kernel, rfl⟩
theorem iX6_count_97 : Ins MX6_count 97 (.invokevirtual 197) 3 100 := ⟨by decide +kernel, rfl⟩
theorem iX6_count_100 : Ins MX6_count 100 (.ireturn) 1 101 := ⟨by decide +kernel, rfl⟩
theorem iX6_count_101 : LdA MX6_count 101 0 102 := Or.inr ⟨0, rfl, by decide +kernel, rfl⟩
theorem iX6_count_102 : Ins MX6_count 102 (.getfield 19) 3 105 := ⟨by decide +kernel, rfl⟩
theorem iX6_count_105 : Ins MX6_count 105 (.iconst 2) 1 106 := ⟨by decide +kernel, rfl⟩
theorem iX6_count_106 : Ins MX6_count 106 (.invokevirtual 197) 3 109 := ⟨by decide +kernel, rfl⟩
theorem iX6_count_109 : Ins MX6_count 109 (.ireturn) 1 110 := ⟨by decide +kernel, rfl⟩
theorem iX6_count_110 : LdA MX6_count 110 0 111 := Or.inr ⟨0, rfl, by decide +kernel, rfl⟩
theorem iX6_count_111 : Ins MX6_count 111 (.getfield 29) 3 114 := ⟨by decide +kernel, rfl⟩
theorem iX6_count_114 : Ins MX6_count 114 (.getfield 117) 3 117 := ⟨by decide +kernel, rfl⟩
theorem iX6_count_117 : Ins MX6_count 117 (.ireturn) 1 118 := ⟨by decide +kernel, rfl⟩
theorem iX6_count_118 : LdA MX6_count 118 0 119 := Or.inr ⟨0, rfl, by decide +kernel, rfl⟩
theorem iX6_count_119 : Ins MX6_count 119 (.getfield 19) 3 122 := ⟨by decide +kernel, rfl⟩
theorem iX6_count_122 : Ins MX6_count 122 (.invokevirtual 106) 3 125 := ⟨by decide +kernel, rfl⟩
theorem iX6_count_125 : Jmp MX6_count 125 (.ifCond .eq) 132 128 := ⟨7, ⟨by decide +kernel, rfl⟩, by decide⟩
theorem iX6_count_128 : Ins MX6_count 128 (.iconst 1) 1 129 := ⟨by decide +kernel, rfl⟩
theorem iX6_count_129 : Jmp MX6_count 129 .goto 133 132 := ⟨4, ⟨by decide +kernel, rfl⟩, by decide⟩
theorem iX6_count_132 : Ins MX6_count 132 (.iconst 0) 1 133 := ⟨by decide +kernel, rfl⟩
theorem iX6_count_133 : Ins MX6_count 133 (.ireturn) 1 134 := ⟨by decide +kernel, rfl⟩
theorem iX6_count_134 : LdA MX6_count 134 0 135 := Or.inr ⟨0, rfl, by decide +kernel, rfl⟩
theorem iX6_count_135 : Ins MX6_count 135 (.getfield 19) 3 138 := ⟨by decide +kernel, rfl⟩
theorem iX6_count_138 : Ins MX6_count 138 (.invokevirtual 191) 3 141 := ⟨by decide +kernel, rfl⟩
theorem iX6_count_141 : Ins MX6_count 141 (.ireturn) 1 142 := ⟨by decide +kernel, rfl⟩
theorem iJ9_max_7cf53_0 : LdI MJ9_max_7cf53 0 0 1 := Or.inr ⟨0, rfl, by decide +kernel, rfl⟩
theorem iJ9_max_7cf53_1 : LdI MJ9_max_7cf53 1 1 2 := Or.inr ⟨1, rfl, by decide +kernel, rfl⟩
theorem iJ9_max_7cf53_2 : Jmp MJ9_max_7cf53 2 (.if_icmp .lt) 9 5 := ⟨7, ⟨by decide +kernel, rfl⟩, by decide⟩
theorem iJ9_max_7cf53_5 : LdI MJ9_max_7cf53 5 0 6 := Or.inr ⟨0, rfl, by decide +kernel, rfl⟩
theorem iJ9_max_7cf53_6 : Jmp MJ9_max_7cf53 6 .goto 10 9 := ⟨4, ⟨by decide +kernel, rfl⟩, by decide⟩
theorem iJ9_max_7cf53_9 : LdI MJ9_max_7cf53 9 1 10 := Or.inr ⟨1, rfl, by decide +kernel, rfl⟩
theorem iJ9_max_7cf53_10 : Ins MJ9_max_7cf53 10 (.ireturn) 1 11 := ⟨by decide +kernel, rfl⟩
theorem iJ9_max_f86c9_0 : LdL MJ9_max_f86c9 0 0 1 := Or.inr ⟨0, rfl, by decide +kernel, rfl⟩
theorem iJ9_max_f86c9_1 : LdL MJ9_max_f86c9 1 2 2 := Or.inr ⟨2, rfl, by decide +kernel, rfl⟩
theorem iJ9_max_f86c9_2 : Ins MJ9_max_f86c9 2 (.lcmp) 1 3 := ⟨by decide +kernel, rfl⟩
theorem iJ9_max_f86c9_3 : Jmp MJ9_max_f86c9 3 (.ifCond .lt) 10 6 := ⟨7, ⟨by decide +kernel, rfl⟩, by decide⟩
theorem iJ9_max_f86c9_6 : LdL MJ9_max_f86c9 6 0 7 := Or.inr ⟨0, rfl, by decide +kernel, rfl⟩
theorem iJ9_max_f86c9_7 : Jmp MJ9_max_f86c9 7 .goto 11 10 := ⟨4, ⟨by decide +kernel, rfl⟩, by decide⟩
theorem iJ9_max_f86c9_10 : LdL MJ9_max_f86c9 10 2 11 := Or.inr ⟨2, rfl, by decide +kernel, rfl⟩
theorem iJ9_max_f86c9_11 : Ins MJ9_max_f86c9 11 (.lreturn) 1 12 := ⟨by decide +kernel, rfl⟩
theorem iJ9_min_7cf53_0 : LdI MJ9_min_7cf53 0 0 1 := Or.inr ⟨0, rfl, by decide +kernel, rfl⟩
theorem iJ9_min_7cf53_1 : LdI MJ9_min_7cf53 1 1 2 := Or.inr ⟨1, rfl, by decide +kernel, rfl⟩
theorem iJ9_min_7cf53_2 : Jmp MJ9_min_7cf53 2 (.if_icmp .gt) 9 5 := ⟨7, ⟨by decide +kernel, rfl⟩, by decide⟩
theorem iJ9_min_7cf53_5 : LdI MJ9_min_7cf53 5 0 6 := Or.inr ⟨0, rfl, by decide +kernel, rfl⟩
theorem iJ9_min_7cf53_6 : Jmp MJ9_min_7cf53 6 .goto 10 9 := ⟨4, ⟨by decide +kernel, rfl⟩, by decide⟩
theorem iJ9_min_7cf53_9 : LdI MJ9_min_7cf53 9 1 10 := Or.inr ⟨1, rfl, by decide +kernel, rfl⟩
theorem iJ9_min_7cf53_10 : Ins MJ9_min_7cf53 10 (.ireturn) 1 11 := ⟨by decide +kernel, rfl⟩
end
section
theorem iX7_init_0 : LdA MX7_init 0 0 1 := Or.inr ⟨0, rfl, by decide +kernel, rfl⟩
theorem iX7_init_1 : Ins MX7_init 1 (.invokespecial 1) 3 4 := ⟨by decide +kernel, rfl⟩
theorem iX7_init_4 : LdA MX7_init 4 0 5 := Or.inr ⟨0, rfl, by decide +kernel, rfl⟩
theorem iX7_init_5 : Ins MX7_init 5 (.iconst 4) 1 6 := ⟨by decide +kernel, rfl⟩
theorem iX7_init_6 : Ins MX7_init 6 (.newarray .int) 2 8 := ⟨by decide +kernel, rfl⟩
theorem iX7_init_8 : Ins MX7_init 8 (.putfield 7) 3 11 := ⟨by decide +kernel, rfl⟩
theorem iX7_init_11 : LdA MX7_init 11 0 12 := Or.inr ⟨0, rfl, by decide +kernel, rfl⟩
theorem iX7_init_12 : Ins MX7_init 12 (.iconst 4) 1 13 := ⟨by decide +kernel, rfl⟩
theorem iX7_init_13 : Ins MX7_init 13 (.newarray .int) 2 15 := ⟨by decide +kernel, rfl⟩
theorem iX7_init_15 : Ins MX7_init 15 (.putfield 13) 3 18 := ⟨by decide +kernel, rfl⟩
theorem iX7_init_18 : LdA MX7_init 18 0 19 := Or.inr ⟨0, rfl, by decide +kernel, rfl⟩
theorem iX7_init_19 : Ins MX7_init 19 (.bipush 16) 2 21 := ⟨by decide +kernel, rfl⟩
theorem iX7_init_21 : Ins MX7_init 21 (.newarray .int) 2 23 := ⟨by decide +kernel, rfl⟩
theorem iX7_init_23 : Ins MX7_init 23 (.putfield 16) 3 26 := ⟨by decide +kernel, rfl⟩
theorem iX7_init_26 : LdA MX7_init 26 0 27 := Or.inr ⟨0, rfl, by decide +kernel, rfl⟩
theorem iX7_init_27 : Ins MX7_init 27 (.bipush 60) 2 29 := ⟨by decide +kernel, rfl⟩
theorem iX7_init_29 : Ins MX7_init 29 (.newarray .int) 2 31 := ⟨by decide +kernel, rfl⟩
theorem iX7_init_31 : Ins MX7_init 31 (.putfield 19) 3 34 := ⟨by decide +kernel, rfl⟩
theorem iX7_init_34 : LdA MX7_init 34 0 35 := Or.inr ⟨0, rfl, by decide +kernel, rfl⟩
theorem iX7_init_35 : Ins MX7_init 35 (.sipush 480) 3 38 := ⟨by decide +kernel, rfl⟩
theorem iX7_init_38 : Ins MX7_init 38 (.newarray .int) 2 40 := ⟨by decide +kernel, rfl⟩
theorem iX7_init_40 : Ins MX7_init 40 (.putfield 22) 3 43 := ⟨by decide +kernel, rfl⟩
theorem iX7_init_43 : LdA MX7_init 43 0 44 := Or.inr ⟨0, rfl, by decide +kernel, rfl⟩
theorem iX7_init_44 : Ins MX7_init 44 (.sipush 1200) 3 47 := ⟨by decide +kernel, rfl⟩
theorem iX7_init_47 : Ins MX7_init 47 (.newarray .long) 2 49 := ⟨by decide +kernel, rfl⟩
theorem iX7_init_49 : Ins MX7_init 49 (.putfield 25) 3 52 := ⟨by decide +kernel, rfl⟩
theorem iX7_init_52 : LdA MX7_init 52 0 53 := Or.inr ⟨0, rfl, by decide +kernel, rfl⟩
theorem iX7_init_53 : Ins MX7_init 53 (.sipush 420) 3 56 := ⟨by decide +kernel, rfl⟩
theorem iX7_init_56 : Ins MX7_init 56 (.newarray .int) 2 58 := ⟨by decide +kernel, rfl⟩
theorem iX7_init_58 : Ins MX7_init 58 (.putfield 29) 3 61 := ⟨by decide +kernel, rfl⟩
theorem iX7_init_61 : LdA MX7_init 61 0 62 := Or.inr ⟨0, rfl, by decide +kernel, rfl⟩
theorem iX7_init_62 : Ins MX7_init 62 (.sipush 420) 3 65 := ⟨by decide +kernel, rfl⟩
theorem iX7_init_65 : Ins MX7_init 65 (.newarray .int) 2 67 := ⟨by decide +kernel, rfl⟩
theorem iX7_init_67 : Ins MX7_init 67 (.putfield 32) 3 70 := ⟨by decide +kernel, rfl⟩
theorem iX7_init_70 : LdA MX7_init 70 0 71 := Or.inr ⟨0, rfl, by decide +kernel, rfl⟩
theorem iX7_init_71 : Ins MX7_init 71 (.iconst 2) 1 72 := ⟨by decide +kernel, rfl⟩
theorem iX7_init_72 : Ins MX7_init 72 (.newarray .boolean) 2 74 := ⟨by decide +kernel, rfl⟩
theorem iX7_init_74 : Ins MX7_init 74 (.putfield 35) 3 77 := ⟨by decide +kernel, rfl⟩
theorem iX7_init_77 : LdA MX7_init 77 0 78 := Or.inr ⟨0, rfl, by decide +kernel, rfl⟩
theorem iX7_init_78 : Ins MX7_init 78 (.bipush 60) 2 80 := ⟨by decide +kernel, rfl⟩
theorem iX7_init_80 : Ins MX7_init 80 (.newarray .int) 2 82 := ⟨by decide +kernel, rfl⟩
theorem iX7_init_82 : Ins MX7_init 82 (.putfield 39) 3 85 := ⟨by decide +kernel, rfl⟩
theorem iX7_init_85 : LdA MX7_init 85 0 86 := Or.inr ⟨0, rfl, by decide +kernel, rfl⟩
theorem iX7_init_86 : Ins MX7_init 86 (.getfield 19) 3 89 := ⟨by decide +kernel, rfl⟩
theorem iX7_init_89 : Ins MX7_init 89 (.iconst 1) 1 90 := ⟨by decide +kernel, rfl⟩
theorem iX7_init_90 : Ins MX7_init 90 (.bipush (-9)) 2 92 := ⟨by decide +kernel, rfl⟩
theorem iX7_init_92 : Ins MX7_init 92 (.iastore) 1 93 := ⟨by decide +kernel, rfl⟩
theorem iX7_init_93 : Ins MX7_init 93 (.return_) 1 94 := ⟨by decide +kernel, rfl⟩
theorem iX7_in_0 : LdL MX7_in 0 0 1 := Or.inr ⟨0, rfl, by decide +kernel, rfl⟩
theorem iX7_in_1 : LdL MX7_in 1 2 2 := Or.inr ⟨2, rfl, by decide +kernel, rfl⟩
theorem iX7_in_2 : Ins MX7_in 2 (.lcmp) 1 3 := ⟨by decide +kernel, rfl⟩
theorem iX7_in_3 : Jmp MX7_in 3 (.ifCond .lt) 17 6 := ⟨14, ⟨by decide +kernel, rfl⟩, by decide⟩
theorem iX7_in_6 : LdL MX7_in 6 0 7 := Or.inr ⟨0, rfl, by decide +kernel, rfl⟩
theorem iX7_in_7 : LdL MX7_in 7 4 9 := Or.inl ⟨by decide +kernel, rfl⟩
theorem iX7_in_9 : Ins MX7_in 9 (.lcmp) 1 10 := ⟨by decide +kernel, rfl⟩
theorem iX7_in_10 : Jmp MX7_in 10 (.ifCond .gt) 17 13 := ⟨7, ⟨by decide +kernel, rfl⟩, by decide⟩
theorem iX7_in_13 : Ins MX7_in 13 (.iconst 1) 1 14 := ⟨by decide +kernel, rfl⟩
theorem iX7_in_14 : Jmp MX7_in 14 .goto 18 17 := ⟨4, ⟨by decide +kernel, rfl⟩, by decide⟩
theorem iX7_in_17 : Ins MX7_in 17 (.iconst 0) 1 18 := ⟨by decide +kernel, rfl⟩
theorem iX7_in_18 : Ins MX7_in 18 (.ireturn) 1 19 := ⟨by decide +kernel, rfl⟩
theorem iX7_write_0 : LdI MX7_write 0 1 1 := Or.inr ⟨1, rfl, by decide +kernel, rfl⟩
theorem iX7_write_1 : Ins MX7_write 1 (.i2l) 1 2 := ⟨by decide +kernel, rfl⟩
theorem iX7_write_2 : Ins MX7_write 2 (.lconst 1) 1 3 := ⟨by decide +kernel, rfl⟩
theorem iX7_write_3 : Ins MX7_write 3 (.ldc2_w 42) 3 6 := ⟨by decide +kernel, rfl⟩
theorem iX7_write_6 : Ins MX7_write 6 (.invokestatic 44) 3 9 := ⟨by decide +kernel, rfl⟩
theorem iX7_write_9 : Jmp MX7_write 9 (.ifCond .ne) 15 12 := ⟨6, ⟨by decide +kernel, rfl⟩, by decide⟩
theorem iX7_write_12 : Ins MX7_write 12 (.bipush (-2)) 2 14 := ⟨by decide +kernel, rfl⟩
theorem iX7_write_14 : Ins MX7_write 14 (.ireturn) 1 15 := ⟨by decide +kernel, rfl⟩
theorem iX7_write_15 : LdA MX7_write 15 0 16 := Or.inr ⟨0, rfl, by decide +kernel, rfl⟩
theorem iX7_write_16 : Ins MX7_write 16 (.getfield 48) 3 19 := ⟨by decide +kernel, rfl⟩
theorem iX7_write_19 : LdI MX7_write 19 1 20 := Or.inr ⟨1, rfl, by decide +kernel, rfl⟩
theorem iX7_write_20 : Ins MX7_write 20 (.iadd) 1 21 := ⟨by decide +kernel, rfl⟩
theorem iX7_write_21 : Ins MX7_write 21 (.bipush 16) 2 23 := ⟨by decide +kernel, rfl⟩
theorem iX7_write_23 : Jmp MX7_write 23 (.if_icmp .le) 29 26 := ⟨6, ⟨by decide +kernel, rfl⟩, by decide⟩
theorem iX7_write_26 : Ins MX7_write 26 (.bipush (-4)) 2 28 := ⟨by decide +kernel, rfl⟩
theorem iX7_write_28 : Ins MX7_write 28 (.ireturn) 1 29 := ⟨by decide +kernel, rfl⟩
theorem iX7_write_29 : LdI MX7_write 29 1 30 := Or.inr ⟨1, rfl, by decide +kernel, rfl⟩
theorem iX7_write_30 : Ins MX7_write 30 (.iconst 1) 1 31 := ⟨by decide +kernel, rfl⟩
theorem iX7_write_31 : Ins MX7_write 31 (.isub) 1 32 := ⟨by decide +kernel, rfl⟩
theorem iX7_write_32 : StI MX7_write 32 4 34 := ⟨Or.inl ⟨by decide +kernel, rfl⟩, Nat.le_of_ble_eq_true rfl⟩
theorem iX7_write_34 : LdI MX7_write 34 4 36 := Or.inl ⟨by decide +kernel, rfl⟩
theorem iX7_write_36 : Jmp MX7_write 36 (.ifCond .lt) 76 39 := ⟨40, ⟨by decide +kernel, rfl⟩, by decide⟩
theorem iX7_write_39 : LdA MX7_write 39 0 40 := Or.inr ⟨0, rfl, by decide +kernel, rfl⟩
theorem iX7_write_40 : Ins MX7_write 40 (.getfield 16) 3 43 := ⟨by decide +kernel, rfl⟩
theorem iX7_write_43 : LdA MX7_write 43 0 44 := Or.inr ⟨0, rfl, by decide +kernel, rfl⟩
theorem iX7_write_44 : Ins MX7_write 44 (.getfield 48) 3 47 := ⟨by decide +kernel, rfl⟩
theorem iX7_write_47 : LdL MX7_write 47 2 48 := Or.inr ⟨2, rfl, by decide +kernel, rfl⟩
theorem iX7_write_48 : Ins MX7_write 48 (.bipush 8) 2 50 := ⟨by decide +kernel, rfl⟩
theorem iX7_write_50 : LdI MX7_write 50 4 52 := Or.inl ⟨by decide +kernel, rfl⟩
theorem iX7_write_52 : Ins MX7_write 52 (.imul) 1 53 := ⟨by decide +kernel, rfl⟩
theorem iX7_write_53 : Ins MX7_write 53 (.lshr) 1 54 := ⟨by decide +kernel, rfl⟩
theorem iX7_write_54 : Ins MX7_write 54 (.ldc2_w 52) 3 57 := ⟨by decide +kernel, rfl⟩
theorem iX7_write_57 : Ins MX7_write 57 (.land) 1 58 := ⟨by decide +kernel, rfl⟩
theorem iX7_write_58 : Ins MX7_write 58 (.l2i) 1 59 := ⟨by decide +kernel, rfl⟩
theorem iX7_write_59 : Ins MX7_write 59 (.iastore) 1 60 := ⟨by decide +kernel, rfl⟩
theorem iX7_write_60 : LdA MX7_write 60 0 61 := Or.inr ⟨0, rfl, by decide +kernel, rfl⟩
theorem iX7_write_61 : Ins MX7_write 61 (.dup) 1 62 := ⟨by decide +kernel, rfl⟩
theorem iX7_write_62 : Ins MX7_write 62 (.getfield 48) 3 65 := ⟨by decide +kernel, rfl⟩
theorem iX7_write_65 : Ins MX7_write 65 (.iconst 1) 1 66 := ⟨by decide +kernel, rfl⟩
theorem iX7_write_66 : Ins MX7_write 66 (.iadd) 1 67 := ⟨by decide +kernel, rfl⟩
theorem iX7_write_67 : Ins MX7_write 67 (.putfield 48) 3 70 := ⟨by decide +kernel, rfl⟩
theorem iX7_write_70 : Inc MX7_write 70 4 (-1) 73 := ⟨⟨by decide +kernel, rfl⟩, Nat.le_of_ble_eq_true rfl⟩
theorem iX7_write_73 : Jmp MX7_write 73 .goto 34 76 := ⟨-39, ⟨by decide +kernel, rfl⟩, by decide⟩
theorem iX7_write_76 : LdA MX7_write 76 0 77 := Or.inr ⟨0, rfl, by decide +kernel, rfl⟩
theorem iX7_write_77 : Ins MX7_write 77 (.getfield 48) 3 80 := ⟨by decide +kernel, rfl⟩
theorem iX7_write_80 : Ins MX7_write 80 (.ireturn) 1 81 := ⟨by decide +kernel, rfl⟩
theorem iX7_wipe_0 : LdA MX7_wipe 0 0 1 := Or.inr ⟨0, rfl, by decide +kernel, rfl⟩
theorem iX7_wipe_1 : Ins MX7_wipe 1 (.getfield 48) 3 4 := ⟨by decide +kernel, rfl⟩
theorem iX7_wipe_4 : StI MX7_wipe 4 1 5 := ⟨Or.inr ⟨1, rfl, by decide +kernel, rfl⟩, Nat.le_of_ble_eq_true rfl⟩
theorem iX7_wipe_5 : LdA MX7_wipe 5 0 6 := Or.inr ⟨0, rfl, by decide +kernel, rfl⟩
theorem iX7_wipe_6 : Ins MX7_wipe 6 (.iconst 0) 1 7 := ⟨by decide +kernel, rfl⟩
theorem iX7_wipe_7 : Ins MX7_wipe 7 (.putfield 48) 3 10 := ⟨by decide +kernel, rfl⟩
theorem iX7_wipe_10 : LdI MX7_wipe 10 1 11 := Or.inr ⟨1, rfl, by decide +kernel, rfl⟩
theorem iX7_wipe_11 : Ins MX7_wipe 11 (.ireturn) 1 12 := ⟨by decide +kernel, rfl⟩
theorem iX7_fits_0 : LdA MX7_fits 0 0 1 := Or.inr ⟨0, rfl, by decide +kernel, rfl⟩
theorem iX7_fits_1 : Ins MX7_fits 1 (.getfield 16) 3 4 := ⟨by decide +kernel, rfl⟩
theorem iX7_fits_4 : LdI MX7_fits 4 1 5 := Or.inr ⟨1, rfl, by decide +kernel, rfl⟩
theorem iX7_fits_5 : Ins MX7_fits 5 (.iaload) 1 6 := ⟨by decide +kernel, rfl⟩
theorem iX7_fits_6 : StI MX7_fits 6 2 7 := ⟨Or.inr ⟨2, rfl, by decide +kernel, rfl⟩, Nat.le_of_ble_eq_true rfl⟩
theorem iX7_fits_7 : LdI MX7_fits 7 1 8 := Or.inr ⟨1, rfl, by decide +kernel, rfl⟩
theorem iX7_fits_8 : Ins MX7_fits 8 (.iconst 2) 1 9 := ⟨by decide +kernel, rfl⟩
theorem iX7_fits_9 : Jmp MX7_fits 9 (.if_icmp .ge) 42 12 := ⟨33, ⟨by decide +kernel, rfl⟩, by decide⟩
theorem iX7_fits_12 : LdI MX7_fits 12 1 13 := Or.inr ⟨1, rfl, by decide +kernel, rfl⟩
theorem iX7_fits_13 : Jmp MX7_fits 13 (.ifCond .ne) 30 16 := ⟨17, ⟨by decide +kernel, rfl⟩, by decide⟩
theorem iX7_fits_16 : LdI MX7_fits 16 2 17 := Or.inr ⟨2, rfl, by decide +kernel, rfl⟩
theorem iX7_fits_17 : Ins MX7_fits 17 (.bipush 85) 2 19 := ⟨by decide +kernel, rfl⟩
theorem iX7_fits_19 : Jmp MX7_fits 19 (.if_icmp .ne) 26 22 := ⟨7, ⟨by decide +kernel, rfl⟩, by decide⟩
theorem iX7_fits_22 : Ins MX7_fits 22 (.iconst 1) 1 23 := ⟨by decide +kernel, rfl⟩
theorem iX7_fits_23 : Jmp MX7_fits 23 .goto 41 26 := ⟨18, ⟨by decide +kernel, rfl⟩, by decide⟩
theorem iX7_fits_26 : Ins MX7_fits 26 (.iconst 0) 1 27 := ⟨by decide +kernel, rfl⟩
theorem iX7_fits_27 : Jmp MX7_fits 27 .goto 41 30 := ⟨14, ⟨by decide +kernel, rfl⟩, by decide⟩
theorem iX7_fits_30 : LdI MX7_fits 30 2 31 := Or.inr ⟨2, rfl, by decide +kernel, rfl⟩
theorem iX7_fits_31 : Ins MX7_fits 31 (.i2l) 1 32 := ⟨by decide +kernel, rfl⟩
theorem iX7_fits_32 : Ins MX7_fits 32 (.ldc2_w 54) 3 35 := ⟨by decide +kernel, rfl⟩
theorem iX7_fits_35 : Ins MX7_fits 35 (.ldc2_w 56) 3 38 := ⟨by decide +kernel, rfl⟩
theorem iX7_fits_38 : Ins MX7_fits 38 (.invokestatic 44) 3 41 := ⟨by decide +kernel, rfl⟩
theorem iX7_fits_41 : Ins MX7_fits 41 (.ireturn) 1 42 := ⟨by decide +kernel, rfl⟩
theorem iX7_fits_42 : LdI MX7_fits 42 1 43 := Or.inr ⟨1, rfl, by decide +kernel, rfl⟩
theorem iX7_fits_43 : Ins MX7_fits 43 (.iconst 2) 1 44 := ⟨by decide +kernel, rfl⟩
theorem iX7_fits_44 : Ins MX7_fits 44 (.isub) 1 45 := ⟨by decide +kernel, rfl⟩
theorem iX7_fits_45 : Ins MX7_fits 45 (.iconst 3) 1 46 := ⟨by decide +kernel, rfl⟩
theorem iX7_fits_46 : Ins MX7_fits 46 (.irem) 1 47 := ⟨by decide +kernel, rfl⟩
theorem iX7_fits_47 : Ins MX7_fits 47 (.lookupswitch 55 #[(0, 25), (1, 43)]) 25 72 := ⟨by decide +kernel, rfl⟩
theorem iX7_fits_72 : LdI MX7_fits 72 2 73 := Or.inr ⟨2, rfl, by decide +kernel, rfl⟩
theorem iX7_fits_73 : Ins MX7_fits 73 (.bipush 84) 2 75 := ⟨by decide +kernel, rfl⟩
theorem iX7_fits_75 : Jmp MX7_fits 75 (.if_icmp .ne) 88 78 := ⟨13, ⟨by decide +kernel, rfl⟩, by decide⟩
theorem iX7_fits_78 : LdI MX7_fits 78 1 79 := Or.inr ⟨1, rfl, by decide +kernel, rfl⟩
theorem iX7_fits_79 : Ins MX7_fits 79 (.bipush 14) 2 81 := ⟨by decide +kernel, rfl⟩
theorem iX7_fits_81 : Jmp MX7_fits 81 (.if_icmp .ge) 88 84 := ⟨7, ⟨by decide +kernel, rfl⟩, by decide⟩
theorem iX7_fits_84 : Ins MX7_fits 84 (.iconst 1) 1 85 := ⟨by decide +kernel, rfl⟩
theorem iX7_fits_85 : Jmp MX7_fits 85 .goto 89 88 := ⟨4, ⟨by decide +kernel, rfl⟩, by decide⟩
theorem iX7_fits_88 : Ins MX7_fits 88 (.iconst 0) 1 89 := ⟨by decide +kernel, rfl⟩
theorem iX7_fits_89 : Ins MX7_fits 89 (.ireturn) 1 90 := ⟨by decide +kernel, rfl⟩
theorem iX7_fits_90 : LdI MX7_fits 90 2 91 := Or.inr ⟨2, rfl, by decide +kernel, rfl⟩
theorem iX7_fits_91 : Ins MX7_fits 91 (.i2l) 1 92 := ⟨by decide +kernel, rfl⟩
theorem iX7_fits_92 : Ins MX7_fits 92 (.ldc2_w 54) 3 95 := ⟨by decide +kernel, rfl⟩
theorem iX7_fits_95 : Ins MX7_fits 95 (.ldc2_w 56) 3 98 := ⟨by decide +kernel, rfl⟩
theorem iX7_fits_98 : Ins MX7_fits 98 (.invokestatic 44) 3 101 := ⟨by decide +kernel, rfl⟩
theorem iX7_fits_101 : Ins MX7_fits 101 (.ireturn) 1 102 := ⟨by decide +kernel, rfl⟩
theorem iX7_fits_102 : LdI MX7_fits 102 2 103 := Or.inr ⟨2, rfl, by decide +kernel, rfl⟩
theorem iX7_fits_103 : Ins MX7_fits 103 (.i2l) 1 104 := ⟨by decide +kernel, rfl⟩
theorem iX7_fits_104 : Ins MX7_fits 104 (.ldc2_w 58) 3 107 := ⟨by decide +kernel, rfl⟩
theorem iX7_fits_107 : Ins MX7_fits 107 (.ldc2_w 56) 3 110 := ⟨by decide +kernel, rfl⟩
theorem iX7_fits_110 : Ins MX7_fits 110 (.invokestatic 44) 3 113 := ⟨by decide +kernel, rfl⟩
theorem iX7_fits_113 : Ins MX7_fits 113 (.ireturn) 1 114 := ⟨by decide +kernel, rfl⟩
theorem iX7_fault_0 : Ins MX7_fault 0 (.iconst 0) 1 1 := ⟨by decide +kernel, rfl⟩
theorem iX7_fault_1 : StI MX7_fault 1 1 2 := ⟨Or.inr ⟨1, rfl, by decide +kernel, rfl⟩, Nat.le_of_ble_eq_true rfl⟩
theorem iX7_fault_2 : LdI MX7_fault 2 1 3 := Or.inr ⟨1, rfl, by decide +kernel, rfl⟩
theorem iX7_fault_3 : LdA MX7_fault 3 0 4 := Or.inr ⟨0, rfl, by decide +kernel, rfl⟩
theorem iX7_fault_4 : Ins MX7_fault 4 (.getfield 48) 3 7 := ⟨by decide +kernel, rfl⟩
theorem iX7_fault_7 : Jmp MX7_fault 7 (.if_icmp .ge) 26 10 := ⟨19, ⟨by decide +kernel, rfl⟩, by decide⟩
theorem iX7_fault_10 : LdA MX7_fault 10 0 11 := Or.inr ⟨0, rfl, by decide +kernel, rfl⟩
theorem iX7_fault_11 : LdI MX7_fault 11 1 12 := Or.inr ⟨1, rfl, by decide +kernel, rfl⟩
theorem iX7_fault_12 : Ins MX7_fault 12 (.invokevirtual 60) 3 15 := ⟨by decide +kernel, rfl⟩
theorem iX7_fault_15 : Jmp MX7_fault 15 (.ifCond .ne) 20 18 := ⟨5, ⟨by decide +kernel, rfl⟩, by decide⟩
theorem iX7_fault_18 : LdI MX7_fault 18 1 19 := Or.inr ⟨1, rfl, by decide +kernel, rfl⟩
theorem iX7_fault_19 : Ins MX7_fault 19 (.ireturn) 1 20 := ⟨by decide +kernel, rfl⟩
theorem iX7_fault_20 : Inc MX7_fault 20 1 (1) 23 := ⟨⟨by decide +kernel, rfl⟩, Nat.le_of_ble_eq_true rfl⟩
theorem iX7_fault_23 : Jmp MX7_fault 23 .goto 2 26 := ⟨-21, ⟨by decide +kernel, rfl⟩, by decide⟩
theorem iX7_fault_26 : LdA MX7_fault 26 0 27 := Or.inr ⟨0, rfl, by decide +kernel, rfl⟩
theorem iX7_fault_27 : Ins MX7_fault 27 (.getfield 48) 3 30 := ⟨by decide +kernel, rfl⟩
theorem iX7_fault_30 : Ins MX7_fault 30 (.iconst 1) 1 31 := ⟨by decide +kernel, rfl⟩
theorem iX7_fault_31 : Jmp MX7_fault 31 (.if_icmp .le) 50 34 := ⟨19, ⟨by decide +kernel, rfl⟩, by decide⟩
theorem iX7_fault_34 : LdA MX7_fault 34 0 35 := Or.inr ⟨0, rfl, by decide +kernel, rfl⟩
theorem iX7_fault_35 : Ins MX7_fault 35 (.getfield 48) 3 38 := ⟨by decide +kernel, rfl⟩
theorem iX7_fault_38 : Ins MX7_fault 38 (.iconst 2) 1 39 := ⟨by decide +kernel, rfl⟩
theorem iX7_fault_39 : Ins MX7_fault 39 (.isub) 1 40 := ⟨by decide +kernel, rfl⟩
theorem iX7_fault_40 : Ins MX7_fault 40 (.iconst 3) 1 41 := ⟨by decide +kernel, rfl⟩
theorem iX7_fault_41 : Ins MX7_fault 41 (.irem) 1 42 := ⟨by decide +kernel, rfl⟩
theorem iX7_fault_42 : Jmp MX7_fault 42 (.ifCond .ne) 50 45 := ⟨8, ⟨by decide +kernel, rfl⟩, by decide⟩
theorem iX7_fault_45 : Ins MX7_fault 45 (.bipush (-9)) 2 47 := ⟨by decide +kernel, rfl⟩
theorem iX7_fault_47 : Jmp MX7_fault 47 .goto 54 50 := ⟨7, ⟨by decide +kernel, rfl⟩, by decide⟩
theorem iX7_fault_50 : LdA MX7_fault 50 0 51 := Or.inr ⟨0, rfl, by decide +kernel, rfl⟩
theorem iX7_fault_51 : Ins MX7_fault 51 (.getfield 48) 3 54 := ⟨by decide +kernel, rfl⟩
theorem iX7_fault_54 : Ins MX7_fault 54 (.ireturn) 1 55 := ⟨by decide +kernel, rfl⟩
theorem iX7_field_0 : LdA MX7_field 0 0 1 := Or.inr ⟨0, rfl, by decide +kernel, rfl⟩
theorem iX7_field_1 : Ins MX7_field 1 (.invokevirtual 64) 3 4 := ⟨by decide +kernel, rfl⟩
theorem iX7_field_4 : Ins MX7_field 4 (.bipush (-9)) 2 6 := ⟨by decide +kernel, rfl⟩
theorem iX7_field_6 : Jmp MX7_field 6 (.if_icmp .eq) 12 9 := ⟨6, ⟨by decide +kernel, rfl⟩, by decide⟩
theorem iX7_field_9 : Ins MX7_field 9 (.bipush (-3)) 2 11 := ⟨by decide +kernel, rfl⟩
theorem iX7_field_11 : Ins MX7_field 11 (.ireturn) 1 12 := ⟨by decide +kernel, rfl⟩
theorem iX7_field_12 : LdA MX7_field 12 0 13 := Or.inr ⟨0, rfl, by decide +kernel, rfl⟩
theorem iX7_field_13 : LdA MX7_field 13 0 14 := Or.inr ⟨0, rfl, by decide +kernel, rfl⟩
theorem iX7_field_14 : Ins MX7_field 14 (.getfield 48) 3 17 := ⟨by decide +kernel, rfl⟩
theorem iX7_field_17 : Ins MX7_field 17 (.iconst 2) 1 18 := ⟨by decide +kernel, rfl⟩
theorem iX7_field_18 : Ins MX7_field 18 (.isub) 1 19 := ⟨by decide +kernel, rfl⟩
theorem iX7_field_19 : Ins MX7_field 19 (.iconst 3) 1 20 := ⟨by decide +kernel, rfl⟩
theorem iX7_field_20 : Ins MX7_field 20 (.idiv) 1 21 := ⟨by decide +kernel, rfl⟩
theorem iX7_field_21 : Ins MX7_field 21 (.putfield 68) 3 24 := ⟨by decide +kernel, rfl⟩
theorem iX7_field_24 : Ins MX7_field 24 (.iconst 0) 1 25 := ⟨by decide +kernel, rfl⟩
theorem iX7_field_25 : StI MX7_field 25 1 26 := ⟨Or.inr ⟨1, rfl, by decide +kernel, rfl⟩, Nat.le_of_ble_eq_true rfl⟩
theorem iX7_field_26 : LdI MX7_field 26 1 27 := Or.inr ⟨1, rfl, by decide +kernel, rfl⟩
theorem iX7_field_27 : Ins MX7_field 27 (.bipush 30) 2 29 := ⟨by decide +kernel, rfl⟩
theorem iX7_field_29 : Jmp MX7_field 29 (.if_icmp .ge) 45 32 := ⟨16, ⟨by decide +kernel, rfl⟩, by decide⟩
theorem iX7_field_32 : LdA MX7_field 32 0 33 := Or.inr ⟨0, rfl, by decide +kernel, rfl⟩
theorem iX7_field_33 : Ins MX7_field 33 (.getfield 19) 3 36 := ⟨by decide +kernel, rfl⟩
theorem iX7_field_36 : LdI MX7_field 36 1 37 := Or.inr ⟨1, rfl, by decide +kernel, rfl⟩
theorem iX7_field_37 : Ins MX7_field 37 (.iconst 0) 1 38 := ⟨by decide +kernel, rfl⟩
theorem iX7_field_38 : Ins MX7_field 38 (.iastore) 1 39 := ⟨by decide +kernel, rfl⟩
theorem iX7_field_39 : Inc MX7_field 39 1 (1) 42 := ⟨⟨by decide +kernel, rfl⟩, Nat.le_of_ble_eq_true rfl⟩
theorem iX7_field_42 : Jmp MX7_field 42 .goto 26 45 := ⟨-16, ⟨by decide +kernel, rfl⟩, by decide⟩
theorem iX7_field_45 : LdA MX7_field 45 0 46 := Or.inr ⟨0, rfl, by decide +kernel, rfl⟩
theorem iX7_field_46 : Ins MX7_field 46 (.getfield 19) 3 49 := ⟨by decide +kernel, rfl⟩
theorem iX7_field_49 : Ins MX7_field 49 (.iconst 0) 1 50 := ⟨by decide +kernel, rfl⟩
theorem iX7_field_50 : LdA MX7_field 50 0 51 := Or.inr ⟨0, rfl, by decide +kernel, rfl⟩
theorem iX7_field_51 : Ins MX7_field 51 (.getfield 16) 3 54 := ⟨by decide +kernel, rfl⟩
theorem iX7_field_54 : Ins MX7_field 54 (.iconst 1) 1 55 := ⟨by decide +kernel, rfl⟩
theorem iX7_field_55 : Ins MX7_field 55 (.iaload) 1 56 := ⟨by decide +kernel, rfl⟩
theorem iX7_field_56 : Ins MX7_field 56 (.bipush 48) 2 58 := ⟨by decide +kernel, rfl⟩
theorem iX7_field_58 : Ins MX7_field 58 (.isub) 1 59 := ⟨by decide +kernel, rfl⟩
theorem iX7_field_59 : Ins MX7_field 59 (.iastore) 1 60 := ⟨by decide +kernel, rfl⟩
theorem iX7_field_60 : LdA MX7_field 60 0 61 := Or.inr ⟨0, rfl, by decide +kernel, rfl⟩
theorem iX7_field_61 : Ins MX7_field 61 (.getfield 19) 3 64 := ⟨by decide +kernel, rfl⟩
theorem iX7_field_64 : Ins MX7_field 64 (.iconst 1) 1 65 := ⟨by decide +kernel, rfl⟩
theorem iX7_field_65 : LdA MX7_field 65 0 66 := Or.inr ⟨0, rfl, by decide +kernel, rfl⟩
theorem iX7_field_66 : Ins MX7_field 66 (.getfield 68) 3 69 := ⟨by decide +kernel, rfl⟩
theorem iX7_field_69 : Jmp MX7_field 69 (.ifCond .le) 76 72 := ⟨7, ⟨by decide +kernel, rfl⟩, by decide⟩
theorem iX7_field_72 : Ins MX7_field 72 (.iconst 0) 1 73 := ⟨by decide +kernel, rfl⟩
theorem iX7_field_73 : Jmp MX7_field 73 .goto 78 76 := ⟨5, ⟨by decide +kernel, rfl⟩, by decide⟩
theorem iX7_field_76 : Ins MX7_field 76 (.bipush (-9)) 2 78 := ⟨by decide +kernel, rfl⟩
theorem iX7_field_78 : Ins MX7_field 78 (.iastore) 1 79 := ⟨by decide +kernel, rfl⟩
theorem iX7_field_79 : Ins MX7_field 79 (.iconst 0) 1 80 := ⟨by decide +kernel, rfl⟩
theorem iX7_field_80 : StI MX7_field 80 1 81 := ⟨Or.inr ⟨1, rfl, by decide +kernel, rfl⟩, Nat.le_of_ble_eq_true rfl⟩
theorem iX7_field_81 : LdI MX7_field 81 1 82 := Or.inr ⟨1, rfl, by decide +kernel, rfl⟩
theorem iX7_field_82 : Ins MX7_field 82 (.iconst 4) 1 83 := ⟨by decide +kernel, rfl⟩
theorem iX7_field_83 : Jmp MX7_field 83 (.if_icmp .ge) 184 86 := ⟨101, ⟨by decide +kernel, rfl⟩, by decide⟩
theorem iX7_field_86 : LdA MX7_field 86 0 87 := Or.inr ⟨0, rfl, by decide +kernel, rfl⟩
theorem iX7_field_87 : Ins MX7_field 87 (.getfield 7) 3 90 := ⟨by decide +kernel, rfl⟩
theorem iX7_field_90 : LdI MX7_field 90 1 91 := Or.inr ⟨1, rfl, by decide +kernel, rfl⟩
theorem iX7_field_91 : LdI MX7_field 91 1 92 := Or.inr ⟨1, rfl, by decide +kernel, rfl⟩
theorem iX7_field_92 : LdA MX7_field 92 0 93 := Or.inr ⟨0, rfl, by decide +kernel, rfl⟩
theorem iX7_field_93 : Ins MX7_field 93 (.getfield 68) 3 96 := ⟨by decide +kernel, rfl⟩
theorem iX7_field_96 : Jmp MX7_field 96 (.if_icmp .ge) 115 99 := ⟨19, ⟨by decide +kernel, rfl⟩, by decide⟩
theorem iX7_field_99 : LdA MX7_field 99 0 100 := Or.inr ⟨0, rfl, by decide +kernel, rfl⟩
theorem iX7_field_100 : Ins MX7_field 100 (.getfield 16) 3 103 := ⟨by decide +kernel, rfl⟩
theorem iX7_field_103 : Ins MX7_field 103 (.iconst 3) 1 104 := ⟨by decide +kernel, rfl⟩
theorem iX7_field_104 : Ins MX7_field 104 (.iconst 3) 1 105 := ⟨by decide +kernel, rfl⟩
theorem iX7_field_105 : LdI MX7_field 105 1 106 := Or.inr ⟨1, rfl, by decide +kernel, rfl⟩
theorem iX7_field_106 : Ins MX7_field 106 (.imul) 1 107 := ⟨by decide +kernel, rfl⟩
theorem iX7_field_107 : Ins MX7_field 107 (.iadd) 1 108 := ⟨by decide +kernel, rfl⟩
theorem iX7_field_108 : Ins MX7_field 108 (.iaload) 1 109 := ⟨by decide +kernel, rfl⟩
theorem iX7_field_109 : Ins MX7_field 109 (.bipush 48) 2 111 := ⟨by decide +kernel, rfl⟩
theorem iX7_field_111 : Ins MX7_field 111 (.isub) 1 112 := ⟨by decide +kernel, rfl⟩
theorem iX7_field_112 : Jmp MX7_field 112 .goto 116 115 := ⟨4, ⟨by decide +kernel, rfl⟩, by decide⟩
theorem iX7_field_115 : Ins MX7_field 115 (.iconst 0) 1 116 := ⟨by decide +kernel, rfl⟩
theorem iX7_field_116 : Ins MX7_field 116 (.iastore) 1 117 := ⟨by decide +kernel, rfl⟩
theorem iX7_field_117 : LdA MX7_field 117 0 118 := Or.inr ⟨0, rfl, by decide +kernel, rfl⟩
theorem iX7_field_118 : Ins MX7_field 118 (.getfield 13) 3 121 := ⟨by decide +kernel, rfl⟩
theorem iX7_field_121 : LdI MX7_field 121 1 122 := Or.inr ⟨1, rfl, by decide +kernel, rfl⟩
theorem iX7_field_122 : LdI MX7_field 122 1 123 := Or.inr ⟨1, rfl, by decide +kernel, rfl⟩
theorem iX7_field_123 : LdA MX7_field 123 0 124 := Or.inr ⟨0, rfl, by decide +kernel, rfl⟩
theorem iX7_field_124 : Ins MX7_field 124 (.getfield 68) 3 127 := ⟨by decide +kernel, rfl⟩
theorem iX7_field_127 : Jmp MX7_field 127 (.if_icmp .ge) 146 130 := ⟨19, ⟨by decide +kernel, rfl⟩, by decide⟩
theorem iX7_field_130 : LdA MX7_field 130 0 131 := Or.inr ⟨0, rfl, by decide +kernel, rfl⟩
theorem iX7_field_131 : Ins MX7_field 131 (.getfield 16) 3 134 := ⟨by decide +kernel, rfl⟩
theorem iX7_field_134 : Ins MX7_field 134 (.iconst 4) 1 135 := ⟨by decide +kernel, rfl⟩
theorem iX7_field_135 : Ins MX7_field 135 (.iconst 3) 1 136 := ⟨by decide +kernel, rfl⟩
theorem iX7_field_136 : LdI MX7_field 136 1 137 := Or.inr ⟨1, rfl, by decide +kernel, rfl⟩
theorem iX7_field_137 : Ins MX7_field 137 (.imul) 1 138 := ⟨by decide +kernel, rfl⟩
theorem iX7_field_138 : Ins MX7_field 138 (.iadd) 1 139 := ⟨by decide +kernel, rfl⟩
theorem iX7_field_139 : Ins MX7_field 139 (.iaload) 1 140 := ⟨by decide +kernel, rfl⟩
theorem iX7_field_140 : Ins MX7_field 140 (.bipush 48) 2 142 := ⟨by decide +kernel, rfl⟩
theorem iX7_field_142 : Ins MX7_field 142 (.isub) 1 143 := ⟨by decide +kernel, rfl⟩
theorem iX7_field_143 : Jmp MX7_field 143 .goto 147 146 := ⟨4, ⟨by decide +kernel, rfl⟩, by decide⟩
theorem iX7_field_146 : Ins MX7_field 146 (.iconst 1) 1 147 := ⟨by decide +kernel, rfl⟩
theorem iX7_field_147 : Ins MX7_field 147 (.iastore) 1 148 := ⟨by decide +kernel, rfl⟩
theorem iX7_field_148 : LdA MX7_field 148 0 149 := Or.inr ⟨0, rfl, by decide +kernel, rfl⟩
theorem iX7_field_149 : Ins MX7_field 149 (.getfield 19) 3 152 := ⟨by decide +kernel, rfl⟩
theorem iX7_field_152 : Ins MX7_field 152 (.iconst 2) 1 153 := ⟨by decide +kernel, rfl⟩
theorem iX7_field_153 : Ins MX7_field 153 (.bipush 7) 2 155 := ⟨by decide +kernel, rfl⟩
theorem iX7_field_155 : LdI MX7_field 155 1 156 := Or.inr ⟨1, rfl, by decide +kernel, rfl⟩
theorem iX7_field_156 : Ins MX7_field 156 (.imul) 1 157 := ⟨by decide +kernel, rfl⟩
theorem iX7_field_157 : Ins MX7_field 157 (.iadd) 1 158 := ⟨by decide +kernel, rfl⟩
theorem iX7_field_158 : Ins MX7_field 158 (.iconst 2) 1 159 := ⟨by decide +kernel, rfl⟩
theorem iX7_field_159 : Ins MX7_field 159 (.iadd) 1 160 := ⟨by decide +kernel, rfl⟩
theorem iX7_field_160 : Ins MX7_field 160 (.bipush (-9)) 2 162 := ⟨by decide +kernel, rfl⟩
theorem iX7_field_162 : Ins MX7_field 162 (.iastore) 1 163 := ⟨by decide +kernel, rfl⟩
theorem iX7_field_163 : LdA MX7_field 163 0 164 := Or.inr ⟨0, rfl, by decide +kernel, rfl⟩
theorem iX7_field_164 : Ins MX7_field 164 (.getfield 19) 3 167 := ⟨by decide +kernel, rfl⟩
theorem iX7_field_167 : Ins MX7_field 167 (.iconst 2) 1 168 := ⟨by decide +kernel, rfl⟩
theorem iX7_field_168 : Ins MX7_field 168 (.bipush 7) 2 170 := ⟨by decide +kernel, rfl⟩
theorem iX7_field_170 : LdI MX7_field 170 1 171 := Or.inr ⟨1, rfl, by decide +kernel, rfl⟩
theorem iX7_field_171 : Ins MX7_field 171 (.imul) 1 172 := ⟨by decide +kernel, rfl⟩
theorem iX7_field_172 : Ins MX7_field 172 (.iadd) 1 173 := ⟨by decide +kernel, rfl⟩
theorem iX7_field_173 : Ins MX7_field 173 (.iconst 3) 1 174 := ⟨by decide +kernel, rfl⟩
theorem iX7_field_174 : Ins MX7_field 174 (.iadd) 1 175 := ⟨by decide +kernel, rfl⟩
theorem iX7_field_175 : Ins MX7_field 175 (.bipush (-9)) 2 177 := ⟨by decide +kernel, rfl⟩
theorem iX7_field_177 : Ins MX7_field 177 (.iastore) 1 178 := ⟨by decide +kernel, rfl⟩
theorem iX7_field_178 : Inc MX7_field 178 1 (1) 181 := ⟨⟨by decide +kernel, rfl⟩, Nat.le_of_ble_eq_true rfl⟩
theorem iX7_field_181 : Jmp MX7_field 181 .goto 81 184 := ⟨-100, ⟨by decide +kernel, rfl⟩, by decide⟩
theorem iX7_field_184 : LdA MX7_field 184 0 185 := Or.inr ⟨0, rfl, by decide +kernel, rfl⟩
theorem iX7_field_185 : Ins MX7_field 185 (.iconst 0) 1 186 := ⟨by decide +kernel, rfl⟩
theorem iX7_field_186 : Ins MX7_field 186 (.putfield 71) 3 189 := ⟨by decide +kernel, rfl⟩
theorem iX7_field_189 : LdA MX7_field 189 0 190 := Or.inr ⟨0, rfl, by decide +kernel, rfl⟩
theorem iX7_field_190 : Ins MX7_field 190 (.getfield 35) 3 193 := ⟨by decide +kernel, rfl⟩
theorem iX7_field_193 : Ins MX7_field 193 (.iconst 0) 1 194 := ⟨by decide +kernel, rfl⟩
theorem iX7_field_194 : Ins MX7_field 194 (.iconst 0) 1 195 := ⟨by decide +kernel, rfl⟩
theorem iX7_field_195 : Ins MX7_field 195 (.bastore) 1 196 := ⟨by decide +kernel, rfl⟩
theorem iX7_field_196 : LdA MX7_field 196 0 197 := Or.inr ⟨0, rfl, by decide +kernel, rfl⟩
theorem iX7_field_197 : Ins MX7_field 197 (.getfield 35) 3 200 := ⟨by decide +kernel, rfl⟩
theorem iX7_field_200 : Ins MX7_field 200 (.iconst 1) 1 201 := ⟨by decide +kernel, rfl⟩
theorem iX7_field_201 : Ins MX7_field 201 (.iconst 0) 1 202 := ⟨by decide +kernel, rfl⟩
theorem iX7_field_202 : Ins MX7_field 202 (.bastore) 1 203 := ⟨by decide +kernel, rfl⟩
theorem iX7_field_203 : LdA MX7_field 203 0 204 := Or.inr ⟨0, rfl, by decide +kernel, rfl⟩
theorem iX7_field_204 : Ins MX7_field 204 (.getfield 68) 3 207 := ⟨by decide +kernel, rfl⟩
theorem iX7_field_207 : Ins MX7_field 207 (.ireturn) 1 208 := ⟨by decide +kernel, rfl⟩
theorem iX7_isThrower_0 : LdI MX7_isThrower 0 1 1 := Or.inr ⟨1, rfl, by decide +kernel, rfl⟩
theorem iX7_isThrower_1 : Ins MX7_isThrower 1 (.i2l) 1 2 := ⟨by decide +kernel, rfl⟩
theorem iX7_isThrower_2 : Ins MX7_isThrower 2 (.lconst 0) 1 3 := ⟨by decide +kernel, rfl⟩
theorem iX7_isThrower_3 : LdA MX7_isThrower 3 0 4 := Or.inr ⟨0, rfl, by decide +kernel, rfl⟩
theorem iX7_isThrower_4 : Ins MX7_isThrower 4 (.getfield 68) 3 7 := ⟨by decide +kernel, rfl⟩
theorem iX7_isThrower_7 : Ins MX7_isThrower 7 (.iconst 1) 1 8 := ⟨by decide +kernel, rfl⟩
theorem iX7_isThrower_8 : Ins MX7_isThrower 8 (.isub) 1 9 := ⟨by decide +kernel, rfl⟩
theorem iX7_isThrower_9 : Ins MX7_isThrower 9 (.i2l) 1 10 := ⟨by decide +kernel, rfl⟩
theorem iX7_isThrower_10 : Ins MX7_isThrower 10 (.invokestatic 44) 3 13 := ⟨by decide +kernel, rfl⟩
theorem iX7_isThrower_13 : Ins MX7_isThrower 13 (.ireturn) 1 14 := ⟨by decide +kernel, rfl⟩
theorem iX7_mark_0 : LdA MX7_mark 0 0 1 := Or.inr ⟨0, rfl, by decide +kernel, rfl⟩
theorem iX7_mark_1 : Ins MX7_mark 1 (.getfield 19) 3 4 := ⟨by decide +kernel, rfl⟩
theorem iX7_mark_4 : Ins MX7_mark 4 (.bipush 30) 2 6 := ⟨by decide +kernel, rfl⟩
theorem iX7_mark_6 : LdI MX7_mark 6 1 7 := Or.inr ⟨1, rfl, by decide +kernel, rfl⟩
theorem iX7_mark_7 : Ins MX7_mark 7 (.imul) 1 8 := ⟨by decide +kernel, rfl⟩
theorem iX7_mark_8 : Ins MX7_mark 8 (.iconst 2) 1 9 := ⟨by decide +kernel, rfl⟩
theorem iX7_mark_9 : Ins MX7_mark 9 (.iadd) 1 10 := ⟨by decide +kernel, rfl⟩
theorem iX7_mark_10 : Ins MX7_mark 10 (.bipush 7) 2 12 := ⟨by decide +kernel, rfl⟩
theorem iX7_mark_12 : LdI MX7_mark 12 2 13 := Or.inr ⟨2, rfl, by decide +kernel, rfl⟩
theorem iX7_mark_13 : Ins MX7_mark 13 (.imul) 1 14 := ⟨by decide +kernel, rfl⟩
theorem iX7_mark_14 : Ins MX7_mark 14 (.iadd) 1 15 := ⟨by decide +kernel, rfl⟩
theorem iX7_mark_15 : LdI MX7_mark 15 3 16 := Or.inr ⟨3, rfl, by decide +kernel, rfl⟩
theorem iX7_mark_16 : Ins MX7_mark 16 (.iadd) 1 17 := ⟨by decide +kernel, rfl⟩
theorem iX7_mark_17 : Ins MX7_mark 17 (.iaload) 1 18 := ⟨by decide +kernel, rfl⟩
theorem iX7_mark_18 : Ins MX7_mark 18 (.ireturn) 1 19 := ⟨by decide +kernel, rfl⟩
theorem iX7_set_0 : LdA MX7_set 0 0 1 := Or.inr ⟨0, rfl, by decide +kernel, rfl⟩
theorem iX7_set_1 : Ins MX7_set 1 (.getfield 19) 3 4 := ⟨by decide +kernel, rfl⟩
theorem iX7_set_4 : Ins MX7_set 4 (.bipush 30) 2 6 := ⟨by decide +kernel, rfl⟩
theorem iX7_set_6 : LdI MX7_set 6 1 7 := Or.inr ⟨1, rfl, by decide +kernel, rfl⟩
theorem iX7_set_7 : Ins MX7_set 7 (.imul) 1 8 := ⟨by decide +kernel, rfl⟩
theorem iX7_set_8 : Ins MX7_set 8 (.iconst 2) 1 9 := ⟨by decide +kernel, rfl⟩
theorem iX7_set_9 : Ins MX7_set 9 (.iadd) 1 10 := ⟨by decide +kernel, rfl⟩
theorem iX7_set_10 : Ins MX7_set 10 (.bipush 7) 2 12 := ⟨by decide +kernel, rfl⟩
theorem iX7_set_12 : LdI MX7_set 12 2 13 := Or.inr ⟨2, rfl, by decide +kernel, rfl⟩
theorem iX7_set_13 : Ins MX7_set 13 (.imul) 1 14 := ⟨by decide +kernel, rfl⟩
theorem iX7_set_14 : Ins MX7_set 14 (.iadd) 1 15 := ⟨by decide +kernel, rfl⟩
theorem iX7_set_15 : LdI MX7_set 15 3 16 := Or.inr ⟨3, rfl, by decide +kernel, rfl⟩
theorem iX7_set_16 : Ins MX7_set 16 (.iadd) 1 17 := ⟨by decide +kernel, rfl⟩
theorem iX7_set_17 : LdI MX7_set 17 4 19 := Or.inl ⟨by decide +kernel, rfl⟩
theorem iX7_set_19 : Ins MX7_set 19 (.iastore) 1 20 := ⟨by decide +kernel, rfl⟩
theorem iX7_set_20 : Ins MX7_set 20 (.return_) 1 21 := ⟨by decide +kernel, rfl⟩
theorem iX7_thrower_0 : LdA MX7_thrower 0 0 1 := Or.inr ⟨0, rfl, by decide +kernel, rfl⟩
theorem iX7_thrower_1 : LdI MX7_thrower 1 1 2 := Or.inr ⟨1, rfl, by decide +kernel, rfl⟩
theorem iX7_thrower_2 : Ins MX7_thrower 2 (.invokevirtual 74) 3 5 := ⟨by decide +kernel, rfl⟩
theorem iX7_thrower_5 : Jmp MX7_thrower 5 (.ifCond .ne) 10 8 := ⟨5, ⟨by decide +kernel, rfl⟩, by decide⟩
theorem iX7_thrower_8 : Ins MX7_thrower 8 (.iconst (-1)) 1 9 := ⟨by decide +kernel, rfl⟩
theorem iX7_thrower_9 : Ins MX7_thrower 9 (.ireturn) 1 10 := ⟨by decide +kernel, rfl⟩
theorem iX7_thrower_10 : LdI MX7_thrower 10 2 11 := Or.inr ⟨2, rfl, by decide +kernel, rfl⟩
theorem iX7_thrower_11 : Ins MX7_thrower 11 (.tableswitch 73 0 8 #[49, 56, 63, 63, 63, 63, 63, 63, 63]) 49 60 := ⟨by decide +kernel, rfl⟩
theorem iX7_thrower_60 : LdA MX7_thrower 60 0 61 := Or.inr ⟨0, rfl, by decide +kernel, rfl⟩
theorem iX7_thrower_61 : Ins MX7_thrower 61 (.getfield 7) 3 64 := ⟨by decide +kernel, rfl⟩
theorem iX7_thrower_64 : LdI MX7_thrower 64 1 65 := Or.inr ⟨1, rfl, by decide +kernel, rfl⟩
theorem iX7_thrower_65 : Ins MX7_thrower 65 (.iaload) 1 66 := ⟨by decide +kernel, rfl⟩
theorem iX7_thrower_66 : Ins MX7_thrower 66 (.ireturn) 1 67 := ⟨by decide +kernel, rfl⟩
theorem iX7_thrower_67 : LdA MX7_thrower 67 0 68 := Or.inr ⟨0, rfl, by decide +kernel, rfl⟩
theorem iX7_thrower_68 : Ins MX7_thrower 68 (.getfield 13) 3 71 := ⟨by decide +kernel, rfl⟩
theorem iX7_thrower_71 : LdI MX7_thrower 71 1 72 := Or.inr ⟨1, rfl, by decide +kernel, rfl⟩
theorem iX7_thrower_72 : Ins MX7_thrower 72 (.iaload) 1 73 := ⟨by decide +kernel, rfl⟩
theorem iX7_thrower_73 : Ins MX7_thrower 73 (.ireturn) 1 74 := ⟨by decide +kernel, rfl⟩
theorem iX7_thrower_74 : LdA MX7_thrower 74 0 75 := Or.inr ⟨0, rfl, by decide +kernel, rfl⟩
theorem iX7_thrower_75 : Ins MX7_thrower 75 (.iconst 0) 1 76 := ⟨by decide +kernel, rfl⟩
theorem iX7_thrower_76 : LdI MX7_thrower 76 1 77 := Or.inr ⟨1, rfl, by decide +kernel, rfl⟩
theorem iX7_thrower_77 : LdI MX7_thrower 77 2 78 := Or.inr ⟨2, rfl, by decide +kernel, rfl⟩
theorem iX7_thrower_78 : Ins MX7_thrower 78 (.iconst 2) 1 79 := ⟨by decide +kernel, rfl⟩
theorem iX7_thrower_79 : Ins MX7_thrower 79 (.isub) 1 80 := ⟨by decide +kernel, rfl⟩
theorem iX7_thrower_80 : Ins MX7_thrower 80 (.invokevirtual 77) 3 83 := ⟨by decide +kernel, rfl⟩
theorem iX7_thrower_83 : Ins MX7_thrower 83 (.ireturn) 1 84 := ⟨by decide +kernel, rfl⟩
theorem iX7_thrower_84 : Ins MX7_thrower 84 (.bipush (-2)) 2 86 := ⟨by decide +kernel, rfl⟩
theorem iX7_thrower_86 : Ins MX7_thrower 86 (.ireturn) 1 87 := ⟨by decide +kernel, rfl⟩
theorem iX7_on_0 : LdA MX7_on 0 0 1 := Or.inr ⟨0, rfl, by decide +kernel, rfl⟩
theorem iX7_on_1 : Ins MX7_on 1 (.getfield 19) 3 4 := ⟨by decide +kernel, rfl⟩
theorem iX7_on_4 : Ins MX7_on 4 (.iconst 1) 1 5 := ⟨by decide +kernel, rfl⟩
theorem iX7_on_5 : Ins MX7_on 5 (.iaload) 1 6 := ⟨by decide +kernel, rfl⟩
theorem iX7_on_6 : Ins MX7_on 6 (.ireturn) 1 7 := ⟨by decide +kernel, rfl⟩
theorem iX7_value_0 : LdI MX7_value 0 0 1 := Or.inr ⟨0, rfl, by decide +kernel, rfl⟩
theorem iX7_value_1 : Ins MX7_value 1 (.bipush 10) 2 3 := ⟨by decide +kernel, rfl⟩
theorem iX7_value_3 : Ins MX7_value 3 (.iadd) 1 4 := ⟨by decide +kernel, rfl⟩
theorem iX7_value_4 : Ins MX7_value 4 (.ldc 81) 2 6 := ⟨by decide +kernel, rfl⟩
theorem iX7_value_6 : Ins MX7_value 6 (.imul) 1 7 := ⟨by decide +kernel, rfl⟩
theorem iX7_value_7 : LdI MX7_value 7 0 8 := Or.inr ⟨0, rfl, by decide +kernel, rfl⟩
theorem iX7_value_8 : Ins MX7_value 8 (.bipush (-9)) 2 10 := ⟨by decide +kernel, rfl⟩
theorem iX7_value_10 : Jmp MX7_value 10 (.if_icmp .ne) 17 13 := ⟨7, ⟨by decide +kernel, rfl⟩, by decide⟩
theorem iX7_value_13 : Ins MX7_value 13 (.iconst 0) 1 14 := ⟨by decide +kernel, rfl⟩
theorem iX7_value_14 : Jmp MX7_value 14 .goto 22 17 := ⟨8, ⟨by decide +kernel, rfl⟩, by decide⟩
theorem iX7_value_17 : Ins MX7_value 17 (.sipush 999) 3 20 := ⟨by decide +kernel, rfl⟩
theorem iX7_value_20 : LdI MX7_value 20 1 21 := Or.inr ⟨1, rfl, by decide +kernel, rfl⟩
theorem iX7_value_21 : Ins MX7_value 21 (.isub) 1 22 := ⟨by decide +kernel, rfl⟩
theorem iX7_value_22 : Ins MX7_value 22 (.sipush 1000) 3 25 := ⟨by decide +kernel, rfl⟩
theorem iX7_value_25 : Ins MX7_value 25 (.imul) 1 26 := ⟨by decide +kernel, rfl⟩
theorem iX7_value_26 : Ins MX7_value 26 (.iadd) 1 27 := ⟨by decide +kernel, rfl⟩
theorem iX7_value_27 : Ins MX7_value 27 (.sipush 999) 3 30 := ⟨by decide +kernel, rfl⟩
theorem iX7_value_30 : Ins MX7_value 30 (.iadd) 1 31 := ⟨by decide +kernel, rfl⟩
theorem iX7_value_31 : LdI MX7_value 31 2 32 := Or.inr ⟨2, rfl, by decide +kernel, rfl⟩
theorem iX7_value_32 : Ins MX7_value 32 (.isub) 1 33 := ⟨by decide +kernel, rfl⟩
theorem iX7_value_33 : Ins MX7_value 33 (.ireturn) 1 34 := ⟨by decide +kernel, rfl⟩
theorem iX7_valueOf_0 : LdA MX7_valueOf 0 0 1 := Or.inr ⟨0, rfl, by decide +kernel, rfl⟩
theorem iX7_valueOf_1 : LdI MX7_valueOf 1 1 2 := Or.inr ⟨1, rfl, by decide +kernel, rfl⟩
theorem iX7_valueOf_2 : LdI MX7_valueOf 2 2 3 := Or.inr ⟨2, rfl, by decide +kernel, rfl⟩
theorem iX7_valueOf_3 : Ins MX7_valueOf 3 (.iconst 2) 1 4 := ⟨by decide +kernel, rfl⟩
theorem iX7_valueOf_4 : Ins MX7_valueOf 4 (.invokevirtual 77) 3 7 := ⟨by decide +kernel, rfl⟩
theorem iX7_valueOf_7 : LdA MX7_valueOf 7 0 8 := Or.inr ⟨0, rfl, by decide +kernel, rfl⟩
theorem iX7_valueOf_8 : LdI MX7_valueOf 8 1 9 := Or.inr ⟨1, rfl, by decide +kernel, rfl⟩
theorem iX7_valueOf_9 : LdI MX7_valueOf 9 2 10 := Or.inr ⟨2, rfl, by decide +kernel, rfl⟩
theorem iX7_valueOf_10 : Ins MX7_valueOf 10 (.iconst 3) 1 11 := ⟨by decide +kernel, rfl⟩
theorem iX7_valueOf_11 : Ins MX7_valueOf 11 (.invokevirtual 77) 3 14 := ⟨by decide +kernel, rfl⟩
theorem iX7_valueOf_14 : LdA MX7_valueOf 14 0 15 := Or.inr ⟨0, rfl, by decide +kernel, rfl⟩
theorem iX7_valueOf_15 : LdI MX7_valueOf 15 1 16 := Or.inr ⟨1, rfl, by decide +kernel, rfl⟩
theorem iX7_valueOf_16 : LdI MX7_valueOf 16 2 17 := Or.inr ⟨2, rfl, by decide +kernel, rfl⟩
theorem iX7_valueOf_17 : Ins MX7_valueOf 17 (.iconst 4) 1 18 := ⟨by decide +kernel, rfl⟩
theorem iX7_valueOf_18 : Ins MX7_valueOf 18 (.invokevirtual 77) 3 21 := ⟨by decide +kernel, rfl⟩
theorem iX7_valueOf_21 : Ins MX7_valueOf 21 (.invokestatic 82) 3 24 := ⟨by decide +kernel, rfl⟩
theorem iX7_valueOf_24 : Ins MX7_valueOf 24 (.ireturn) 1 25 := ⟨by decide +kernel, rfl⟩
theorem iX7_rankOf_0 : Ins MX7_rankOf 0 (.iconst 0) 1 1 := ⟨by decide +kernel, rfl⟩
theorem iX7_rankOf_1 : StI MX7_rankOf 1 3 2 := ⟨Or.inr ⟨3, rfl, by decide +kernel, rfl⟩, Nat.le_of_ble_eq_true rfl⟩
theorem iX7_rankOf_2 : Ins MX7_rankOf 2 (.iconst 0) 1 3 := ⟨by decide +kernel, rfl⟩
theorem iX7_rankOf_3 : StI MX7_rankOf 3 4 5 := ⟨Or.inl ⟨by decide +kernel, rfl⟩, Nat.le_of_ble_eq_true rfl⟩
theorem iX7_rankOf_5 : LdI MX7_rankOf 5 4 7 := Or.inl ⟨by decide +kernel, rfl⟩
theorem iX7_rankOf_7 : LdA MX7_rankOf 7 0 8 := Or.inr ⟨0, rfl, by decide +kernel, rfl⟩
theorem iX7_rankOf_8 : Ins MX7_rankOf 8 (.getfield 68) 3 11 := ⟨by decide +kernel, rfl⟩
theorem iX7_rankOf_11 : Jmp MX7_rankOf 11 (.if_icmp .ge) 44 14 := ⟨33, ⟨by decide +kernel, rfl⟩, by decide⟩
theorem iX7_rankOf_14 : LdI MX7_rankOf 14 3 15 := Or.inr ⟨3, rfl, by decide +kernel, rfl⟩
theorem iX7_rankOf_15 : LdA MX7_rankOf 15 0 16 := Or.inr ⟨0, rfl, by decide +kernel, rfl⟩
theorem iX7_rankOf_16 : LdI MX7_rankOf 16 1 17 := Or.inr ⟨1, rfl, by decide +kernel, rfl⟩
theorem iX7_rankOf_17 : LdI MX7_rankOf 17 4 19 := Or.inl ⟨by decide +kernel, rfl⟩
theorem iX7_rankOf_19 : Ins MX7_rankOf 19 (.invokevirtual 85) 3 22 := ⟨by decide +kernel, rfl⟩
theorem iX7_rankOf_22 : LdA MX7_rankOf 22 0 23 := Or.inr ⟨0, rfl, by decide +kernel, rfl⟩
theorem iX7_rankOf_23 : LdI MX7_rankOf 23 1 24 := Or.inr ⟨1, rfl, by decide +kernel, rfl⟩
theorem iX7_rankOf_24 : LdI MX7_rankOf 24 2 25 := Or.inr ⟨2, rfl, by decide +kernel, rfl⟩
theorem iX7_rankOf_25 : Ins MX7_rankOf 25 (.invokevirtual 85) 3 28 := ⟨by decide +kernel, rfl⟩
theorem iX7_rankOf_28 : Jmp MX7_rankOf 28 (.if_icmp .le) 35 31 := ⟨7, ⟨by decide +kernel, rfl⟩, by decide⟩
theorem iX7_rankOf_31 : Ins MX7_rankOf 31 (.iconst 1) 1 32 := ⟨by decide +kernel, rfl⟩
theorem iX7_rankOf_32 : Jmp MX7_rankOf 32 .goto 36 35 := ⟨4, ⟨by decide +kernel, rfl⟩, by decide⟩
theorem iX7_rankOf_35 : Ins MX7_rankOf 35 (.iconst 0) 1 36 := ⟨by decide +kernel, rfl⟩
theorem iX7_rankOf_36 : Ins MX7_rankOf 36 (.iadd) 1 37 := ⟨by decide +kernel, rfl⟩
theorem iX7_rankOf_37 : StI MX7_rankOf 37 3 38 := ⟨Or.inr ⟨3, rfl, by decide +kernel, rfl⟩, Nat.le_of_ble_eq_true rfl⟩
theorem iX7_rankOf_38 : Inc MX7_rankOf 38 4 (1) 41 := ⟨⟨by decide +kernel, rfl⟩, Nat.le_of_ble_eq_true rfl⟩
theorem iX7_rankOf_41 : Jmp MX7_rankOf 41 .goto 5 44 := ⟨-36, ⟨by decide +kernel, rfl⟩, by decide⟩
theorem iX7_rankOf_44 : LdI MX7_rankOf 44 3 45 := Or.inr ⟨3, rfl, by decide +kernel, rfl⟩
theorem iX7_rankOf_45 : Ins MX7_rankOf 45 (.ireturn) 1 46 := ⟨by decide +kernel, rfl⟩
theorem iX7_rank_0 : LdA MX7_rank 0 0 1 := Or.inr ⟨0, rfl, by decide +kernel, rfl⟩
theorem iX7_rank_1 : LdI MX7_rank 1 1 2 := Or.inr ⟨1, rfl, by decide +kernel, rfl⟩
theorem iX7_rank_2 : Ins MX7_rank 2 (.invokevirtual 74) 3 5 := ⟨by decide +kernel, rfl⟩
theorem iX7_rank_5 : Jmp MX7_rank 5 (.ifCond .eq) 17 8 := ⟨12, ⟨by decide +kernel, rfl⟩, by decide⟩
theorem iX7_rank_8 : LdA MX7_rank 8 0 9 := Or.inr ⟨0, rfl, by decide +kernel, rfl⟩
theorem iX7_rank_9 : Ins MX7_rank 9 (.iconst 0) 1 10 := ⟨by decide +kernel, rfl⟩
theorem iX7_rank_10 : LdI MX7_rank 10 1 11 := Or.inr ⟨1, rfl, by decide +kernel, rfl⟩
theorem iX7_rank_11 : Ins MX7_rank 11 (.invokevirtual 89) 3 14 := ⟨by decide +kernel, rfl⟩
theorem iX7_rank_14 : Jmp MX7_rank 14 .goto 18 17 := ⟨4, ⟨by decide +kernel, rfl⟩, by decide⟩
theorem iX7_rank_17 : Ins MX7_rank 17 (.iconst (-1)) 1 18 := ⟨by decide +kernel, rfl⟩
theorem iX7_rank_18 : Ins MX7_rank 18 (.ireturn) 1 19 := ⟨by decide +kernel, rfl⟩
theorem iX7_oddsOf_0 : Ins MX7_oddsOf 0 (.bipush 9) 2 2 := ⟨by decide +kernel, rfl⟩
theorem iX7_oddsOf_2 : LdA MX7_oddsOf 2 0 3 := Or.inr ⟨0, rfl, by decide +kernel, rfl⟩
theorem iX7_oddsOf_3 : Ins MX7_oddsOf 3 (.getfield 7) 3 6 := ⟨by decide +kernel, rfl⟩
theorem iX7_oddsOf_6 : LdI MX7_oddsOf 6 1 7 := Or.inr ⟨1, rfl, by decide +kernel, rfl⟩
theorem iX7_oddsOf_7 : Ins MX7_oddsOf 7 (.iaload) 1 8 := ⟨by decide +kernel, rfl⟩
theorem iX7_oddsOf_8 : Ins MX7_oddsOf 8 (.iadd) 1 9 := ⟨by decide +kernel, rfl⟩
theorem iX7_oddsOf_9 : LdI MX7_oddsOf 9 2 10 := Or.inr ⟨2, rfl, by decide +kernel, rfl⟩
theorem iX7_oddsOf_10 : Ins MX7_oddsOf 10 (.isub) 1 11 := ⟨by decide +kernel, rfl⟩
theorem iX7_oddsOf_11 : LdI MX7_oddsOf 11 3 12 := Or.inr ⟨3, rfl, by decide +kernel, rfl⟩
theorem iX7_oddsOf_12 : LdA MX7_oddsOf 12 0 13 := Or.inr ⟨0, rfl, by decide +kernel, rfl⟩
theorem iX7_oddsOf_13 : Ins MX7_oddsOf 13 (.getfield 13) 3 16 := ⟨by decide +kernel, rfl⟩
theorem iX7_oddsOf_16 : LdI MX7_oddsOf 16 1 17 := Or.inr ⟨1, rfl, by decide +kernel, rfl⟩
theorem iX7_oddsOf_17 : Ins MX7_oddsOf 17 (.iaload) 1 18 := ⟨by decide +kernel, rfl⟩
theorem iX7_oddsOf_18 : Ins MX7_oddsOf 18 (.idiv) 1 19 := ⟨by decide +kernel, rfl⟩
theorem iX7_oddsOf_19 : Ins MX7_oddsOf 19 (.isub) 1 20 := ⟨by decide +kernel, rfl⟩
theorem iX7_oddsOf_20 : StI MX7_oddsOf 20 4 22 := ⟨Or.inl ⟨by decide +kernel, rfl⟩, Nat.le_of_ble_eq_true rfl⟩
theorem iX7_oddsOf_22 : LdI MX7_oddsOf 22 4 24 := Or.inl ⟨by decide +kernel, rfl⟩
theorem iX7_oddsOf_24 : Jmp MX7_oddsOf 24 (.ifCond .ge) 31 27 := ⟨7, ⟨by decide +kernel, rfl⟩, by decide⟩
theorem iX7_oddsOf_27 : Ins MX7_oddsOf 27 (.iconst 0) 1 28 := ⟨by decide +kernel, rfl⟩
theorem iX7_oddsOf_28 : Jmp MX7_oddsOf 28 .goto 45 31 := ⟨17, ⟨by decide +kernel, rfl⟩, by decide⟩
theorem iX7_oddsOf_31 : LdI MX7_oddsOf 31 4 33 := Or.inl ⟨by decide +kernel, rfl⟩
theorem iX7_oddsOf_33 : Ins MX7_oddsOf 33 (.bipush 9) 2 35 := ⟨by decide +kernel, rfl⟩
theorem iX7_oddsOf_35 : Jmp MX7_oddsOf 35 (.if_icmp .le) 43 38 := ⟨8, ⟨by decide +kernel, rfl⟩, by decide⟩
theorem iX7_oddsOf_38 : Ins MX7_oddsOf 38 (.bipush 9) 2 40 := ⟨by decide +kernel, rfl⟩
theorem iX7_oddsOf_40 : Jmp MX7_oddsOf 40 .goto 45 43 := ⟨5, ⟨by decide +kernel, rfl⟩, by decide⟩
theorem iX7_oddsOf_43 : LdI MX7_oddsOf 43 4 45 := Or.inl ⟨by decide +kernel, rfl⟩
theorem iX7_oddsOf_45 : Ins MX7_oddsOf 45 (.ireturn) 1 46 := ⟨by decide +kernel, rfl⟩
theorem iX7_odds_0 : LdA MX7_odds 0 0 1 := Or.inr ⟨0, rfl, by decide +kernel, rfl⟩
theorem iX7_odds_1 : LdI MX7_odds 1 1 2 := Or.inr ⟨1, rfl, by decide +kernel, rfl⟩
theorem iX7_odds_2 : Ins MX7_odds 2 (.invokevirtual 74) 3 5 := ⟨by decide +kernel, rfl⟩
theorem iX7_odds_5 : Jmp MX7_odds 5 (.ifCond .ne) 10 8 := ⟨5, ⟨by decide +kernel, rfl⟩, by decide⟩
theorem iX7_odds_8 : Ins MX7_odds 8 (.iconst (-1)) 1 9 := ⟨by decide +kernel, rfl⟩
theorem iX7_odds_9 : Ins MX7_odds 9 (.ireturn) 1 10 := ⟨by decide +kernel, rfl⟩
theorem iX7_odds_10 : LdI MX7_odds 10 2 11 := Or.inr ⟨2, rfl, by decide +kernel, rfl⟩
theorem iX7_odds_11 : Ins MX7_odds 11 (.i2l) 1 12 := ⟨by decide +kernel, rfl⟩
theorem iX7_odds_12 : Ins MX7_odds 12 (.lconst 0) 1 13 := ⟨by decide +kernel, rfl⟩
theorem iX7_odds_13 : Ins MX7_odds 13 (.ldc2_w 92) 3 16 := ⟨by decide +kernel, rfl⟩
theorem iX7_odds_16 : Ins MX7_odds 16 (.invokestatic 44) 3 19 := ⟨by decide +kernel, rfl⟩
theorem iX7_odds_19 : Jmp MX7_odds 19 (.ifCond .eq) 38 22 := ⟨19, ⟨by decide +kernel, rfl⟩, by decide⟩
theorem iX7_odds_22 : LdA MX7_odds 22 0 23 := Or.inr ⟨0, rfl, by decide +kernel, rfl⟩
theorem iX7_odds_23 : LdI MX7_odds 23 1 24 := Or.inr ⟨1, rfl, by decide +kernel, rfl⟩
theorem iX7_odds_24 : LdI MX7_odds 24 2 25 := Or.inr ⟨2, rfl, by decide +kernel, rfl⟩
theorem iX7_odds_25 : LdA MX7_odds 25 0 26 := Or.inr ⟨0, rfl, by decide +kernel, rfl⟩
theorem iX7_odds_26 : Ins MX7_odds 26 (.iconst 0) 1 27 := ⟨by decide +kernel, rfl⟩
theorem iX7_odds_27 : LdI MX7_odds 27 1 28 := Or.inr ⟨1, rfl, by decide +kernel, rfl⟩
theorem iX7_odds_28 : Ins MX7_odds 28 (.iconst 0) 1 29 := ⟨by decide +kernel, rfl⟩
theorem iX7_odds_29 : Ins MX7_odds 29 (.invokevirtual 77) 3 32 := ⟨by decide +kernel, rfl⟩
theorem iX7_odds_32 : Ins MX7_odds 32 (.invokevirtual 94) 3 35 := ⟨by decide +kernel, rfl⟩
theorem iX7_odds_35 : Jmp MX7_odds 35 .goto 40 38 := ⟨5, ⟨by decide +kernel, rfl⟩, by decide⟩
theorem iX7_odds_38 : Ins MX7_odds 38 (.bipush (-2)) 2 40 := ⟨by decide +kernel, rfl⟩
theorem iX7_odds_40 : Ins MX7_odds 40 (.ireturn) 1 41 := ⟨by decide +kernel, rfl⟩
theorem iX7_keepAct_0 : Ins MX7_keepAct 0 (.iconst 0) 1 1 := ⟨by decide +kernel, rfl⟩
theorem iX7_keepAct_1 : StI MX7_keepAct 1 1 2 := ⟨Or.inr ⟨1, rfl, by decide +kernel, rfl⟩, Nat.le_of_ble_eq_true rfl⟩
theorem iX7_keepAct_2 : LdI MX7_keepAct 2 1 3 := Or.inr ⟨1, rfl, by decide +kernel, rfl⟩
theorem iX7_keepAct_3 : Ins MX7_keepAct 3 (.bipush 30) 2 5 := ⟨by decide +kernel, rfl⟩
theorem iX7_keepAct_5 : Jmp MX7_keepAct 5 (.if_icmp .ge) 34 8 := ⟨29, ⟨by decide +kernel, rfl⟩, by decide⟩
theorem iX7_keepAct_8 : LdA MX7_keepAct 8 0 9 := Or.inr ⟨0, rfl, by decide +kernel, rfl⟩
theorem iX7_keepAct_9 : Ins MX7_keepAct 9 (.getfield 22) 3 12 := ⟨by decide +kernel, rfl⟩
theorem iX7_keepAct_12 : Ins MX7_keepAct 12 (.bipush 30) 2 14 := ⟨by decide +kernel, rfl⟩
theorem iX7_keepAct_14 : LdA MX7_keepAct 14 0 15 := Or.inr ⟨0, rfl, by decide +kernel, rfl⟩
theorem iX7_keepAct_15 : Ins MX7_keepAct 15 (.getfield 97) 3 18 := ⟨by decide +kernel, rfl⟩
theorem iX7_keepAct_18 : Ins MX7_keepAct 18 (.imul) 1 19 := ⟨by decide +kernel, rfl⟩
theorem iX7_keepAct_19 : LdI MX7_keepAct 19 1 20 := Or.inr ⟨1, rfl, by decide +kernel, rfl⟩
theorem iX7_keepAct_20 : Ins MX7_keepAct 20 (.iadd) 1 21 := ⟨by decide +kernel, rfl⟩
theorem iX7_keepAct_21 : LdA MX7_keepAct 21 0 22 := Or.inr ⟨0, rfl, by decide +kernel, rfl⟩
theorem iX7_keepAct_22 : Ins MX7_keepAct 22 (.getfield 19) 3 25 := ⟨by decide +kernel, rfl⟩
theorem iX7_keepAct_25 : LdI MX7_keepAct 25 1 26 := Or.inr ⟨1, rfl, by decide +kernel, rfl⟩
theorem iX7_keepAct_26 : Ins MX7_keepAct 26 (.iaload) 1 27 := ⟨by decide +kernel, rfl⟩
theorem iX7_keepAct_27 : Ins MX7_keepAct 27 (.iastore) 1 28 := ⟨by decide +kernel, rfl⟩
theorem iX7_keepAct_28 : Inc MX7_keepAct 28 1 (1) 31 := ⟨⟨by decide +kernel, rfl⟩, Nat.le_of_ble_eq_true rfl⟩
theorem iX7_keepAct_31 : Jmp MX7_keepAct 31 .goto 2 34 := ⟨-29, ⟨by decide +kernel, rfl⟩, by decide⟩
theorem iX7_keepAct_34 : LdA MX7_keepAct 34 0 35 := Or.inr ⟨0, rfl, by decide +kernel, rfl⟩
theorem iX7_keepAct_35 : LdA MX7_keepAct 35 0 36 := Or.inr ⟨0, rfl, by decide +kernel, rfl⟩
theorem iX7_keepAct_36 : Ins MX7_keepAct 36 (.getfield 97) 3 39 := ⟨by decide +kernel, rfl⟩
theorem iX7_keepAct_39 : Ins MX7_keepAct 39 (.iconst 1) 1 40 := ⟨by decide +kernel, rfl⟩
theorem iX7_keepAct_40 : Ins MX7_keepAct 40 (.iadd) 1 41 := ⟨by decide +kernel, rfl⟩
theorem iX7_keepAct_41 : Ins MX7_keepAct 41 (.bipush 16) 2 43 := ⟨by decide +kernel, rfl⟩
theorem iX7_keepAct_43 : Ins MX7_keepAct 43 (.irem) 1 44 := ⟨by decide +kernel, rfl⟩
theorem iX7_keepAct_44 : Ins MX7_keepAct 44 (.putfield 97) 3 47 := ⟨by decide +kernel, rfl⟩
theorem iX7_keepAct_47 : LdA MX7_keepAct 47 0 48 := Or.inr ⟨0, rfl, by decide +kernel, rfl⟩
theorem iX7_keepAct_48 : LdA MX7_keepAct 48 0 49 := Or.inr ⟨0, rfl, by decide +kernel, rfl⟩
theorem iX7_keepAct_49 : Ins MX7_keepAct 49 (.getfield 71) 3 52 := ⟨by decide +kernel, rfl⟩
theorem iX7_keepAct_52 : Ins MX7_keepAct 52 (.bipush 16) 2 54 := ⟨by decide +kernel, rfl⟩
theorem iX7_keepAct_54 : Jmp MX7_keepAct 54 (.if_icmp .ge) 66 57 := ⟨12, ⟨by decide +kernel, rfl⟩, by decide⟩
theorem iX7_keepAct_57 : LdA MX7_keepAct 57 0 58 := Or.inr ⟨0, rfl, by decide +kernel, rfl⟩
theorem iX7_keepAct_58 : Ins MX7_keepAct 58 (.getfield 71) 3 61 := ⟨by decide +kernel, rfl⟩
theorem iX7_keepAct_61 : Ins MX7_keepAct 61 (.iconst 1) 1 62 := ⟨by decide +kernel, rfl⟩
theorem iX7_keepAct_62 : Ins MX7_keepAct 62 (.iadd) 1 63 := ⟨by decide +kernel, rfl⟩
theorem iX7_keepAct_63 : Jmp MX7_keepAct 63 .goto 68 66 := ⟨5, ⟨by decide +kernel, rfl⟩, by decide⟩
theorem iX7_keepAct_66 : Ins MX7_keepAct 66 (.bipush 16) 2 68 := ⟨by decide +kernel, rfl⟩
theorem iX7_keepAct_68 : Ins MX7_keepAct 68 (.putfield 71) 3 71 := ⟨by decide +kernel, rfl⟩
theorem iX7_keepAct_71 : Ins MX7_keepAct 71 (.return_) 1 72 := ⟨by decide +kernel, rfl⟩
theorem iX7_nextIn_0 : Ins MX7_nextIn 0 (.iconst 0) 1 1 := ⟨by decide +kernel, rfl⟩
theorem iX7_nextIn_1 : StI MX7_nextIn 1 3 2 := ⟨Or.inr ⟨3, rfl, by decide +kernel, rfl⟩, Nat.le_of_ble_eq_true rfl⟩
theorem iX7_nextIn_2 : LdI MX7_nextIn 2 3 3 := Or.inr ⟨3, rfl, by decide +kernel, rfl⟩
theorem iX7_nextIn_3 : LdA MX7_nextIn 3 0 4 := Or.inr ⟨0, rfl, by decide +kernel, rfl⟩
theorem iX7_nextIn_4 : Ins MX7_nextIn 4 (.getfield 68) 3 7 := ⟨by decide +kernel, rfl⟩
theorem iX7_nextIn_7 : Jmp MX7_nextIn 7 (.if_icmp .ge) 42 10 := ⟨35, ⟨by decide +kernel, rfl⟩, by decide⟩
theorem iX7_nextIn_10 : LdA MX7_nextIn 10 0 11 := Or.inr ⟨0, rfl, by decide +kernel, rfl⟩
theorem iX7_nextIn_11 : LdI MX7_nextIn 11 1 12 := Or.inr ⟨1, rfl, by decide +kernel, rfl⟩
theorem iX7_nextIn_12 : LdI MX7_nextIn 12 2 13 := Or.inr ⟨2, rfl, by decide +kernel, rfl⟩
theorem iX7_nextIn_13 : LdI MX7_nextIn 13 3 14 := Or.inr ⟨3, rfl, by decide +kernel, rfl⟩
theorem iX7_nextIn_14 : Ins MX7_nextIn 14 (.iadd) 1 15 := ⟨by decide +kernel, rfl⟩
theorem iX7_nextIn_15 : LdA MX7_nextIn 15 0 16 := Or.inr ⟨0, rfl, by decide +kernel, rfl⟩
theorem iX7_nextIn_16 : Ins MX7_nextIn 16 (.getfield 68) 3 19 := ⟨by decide +kernel, rfl⟩
theorem iX7_nextIn_19 : Ins MX7_nextIn 19 (.irem) 1 20 := ⟨by decide +kernel, rfl⟩
theorem iX7_nextIn_20 : Ins MX7_nextIn 20 (.iconst 5) 1 21 := ⟨by decide +kernel, rfl⟩
theorem iX7_nextIn_21 : Ins MX7_nextIn 21 (.invokevirtual 77) 3 24 := ⟨by decide +kernel, rfl⟩
theorem iX7_nextIn_24 : Jmp MX7_nextIn 24 (.ifCond .ne) 36 27 := ⟨12, ⟨by decide +kernel, rfl⟩, by decide⟩
theorem iX7_nextIn_27 : LdI MX7_nextIn 27 2 28 := Or.inr ⟨2, rfl, by decide +kernel, rfl⟩
theorem iX7_nextIn_28 : LdI MX7_nextIn 28 3 29 := Or.inr ⟨3, rfl, by decide +kernel, rfl⟩
theorem iX7_nextIn_29 : Ins MX7_nextIn 29 (.iadd) 1 30 := ⟨by decide +kernel, rfl⟩
theorem iX7_nextIn_30 : LdA MX7_nextIn 30 0 31 := Or.inr ⟨0, rfl, by decide +kernel, rfl⟩
theorem iX7_nextIn_31 : Ins MX7_nextIn 31 (.getfield 68) 3 34 := ⟨by decide +kernel, rfl⟩
theorem iX7_nextIn_34 : Ins MX7_nextIn 34 (.irem) 1 35 := ⟨by decide +kernel, rfl⟩
theorem iX7_nextIn_35 : Ins MX7_nextIn 35 (.ireturn) 1 36 := ⟨by decide +kernel, rfl⟩
theorem iX7_nextIn_36 : Inc MX7_nextIn 36 3 (1) 39 := ⟨⟨by decide +kernel, rfl⟩, Nat.le_of_ble_eq_true rfl⟩
theorem iX7_nextIn_39 : Jmp MX7_nextIn 39 .goto 2 42 := ⟨-37, ⟨by decide +kernel, rfl⟩, by decide⟩
theorem iX7_nextIn_42 : Ins MX7_nextIn 42 (.bipush (-9)) 2 44 := ⟨by decide +kernel, rfl⟩
theorem iX7_nextIn_44 : Ins MX7_nextIn 44 (.ireturn) 1 45 := ⟨by decide +kernel, rfl⟩
theorem iX7_goOn_0 : LdA MX7_goOn 0 0 1 := Or.inr ⟨0, rfl, by decide +kernel, rfl⟩
theorem iX7_goOn_1 : LdI MX7_goOn 1 1 2 := Or.inr ⟨1, rfl, by decide +kernel, rfl⟩
theorem iX7_goOn_2 : LdA MX7_goOn 2 0 3 := Or.inr ⟨0, rfl, by decide +kernel, rfl⟩
theorem iX7_goOn_3 : Ins MX7_goOn 3 (.getfield 19) 3 6 := ⟨by decide +kernel, rfl⟩
theorem iX7_goOn_6 : Ins MX7_goOn 6 (.bipush 30) 2 8 := ⟨by decide +kernel, rfl⟩
theorem iX7_goOn_8 : LdI MX7_goOn 8 1 9 := Or.inr ⟨1, rfl, by decide +kernel, rfl⟩
theorem iX7_goOn_9 : Ins MX7_goOn 9 (.imul) 1 10 := ⟨by decide +kernel, rfl⟩
theorem iX7_goOn_10 : Ins MX7_goOn 10 (.iconst 1) 1 11 := ⟨by decide +kernel, rfl⟩
theorem iX7_goOn_11 : Ins MX7_goOn 11 (.iadd) 1 12 := ⟨by decide +kernel, rfl⟩
theorem iX7_goOn_12 : Ins MX7_goOn 12 (.iaload) 1 13 := ⟨by decide +kernel, rfl⟩
theorem iX7_goOn_13 : Ins MX7_goOn 13 (.iconst 1) 1 14 := ⟨by decide +kernel, rfl⟩
theorem iX7_goOn_14 : Ins MX7_goOn 14 (.iadd) 1 15 := ⟨by decide +kernel, rfl⟩
theorem iX7_goOn_15 : Ins MX7_goOn 15 (.invokevirtual 100) 3 18 := ⟨by decide +kernel, rfl⟩
theorem iX7_goOn_18 : StI MX7_goOn 18 2 19 := ⟨Or.inr ⟨2, rfl, by decide +kernel, rfl⟩, Nat.le_of_ble_eq_true rfl⟩
theorem iX7_goOn_19 : LdI MX7_goOn 19 2 20 := Or.inr ⟨2, rfl, by decide +kernel, rfl⟩
theorem iX7_goOn_20 : Ins MX7_goOn 20 (.bipush (-9)) 2 22 := ⟨by decide +kernel, rfl⟩
theorem iX7_goOn_22 : Jmp MX7_goOn 22 (.if_icmp .ne) 158 25 := ⟨136, ⟨by decide +kernel, rfl⟩, by decide⟩
theorem iX7_goOn_25 : LdA MX7_goOn 25 0 26 := Or.inr ⟨0, rfl, by decide +kernel, rfl⟩
theorem iX7_goOn_26 : Ins MX7_goOn 26 (.getfield 19) 3 29 := ⟨by decide +kernel, rfl⟩
theorem iX7_goOn_29 : Ins MX7_goOn 29 (.bipush 30) 2 31 := ⟨by decide +kernel, rfl⟩
theorem iX7_goOn_31 : LdI MX7_goOn 31 1 32 := Or.inr ⟨1, rfl, by decide +kernel, rfl⟩
theorem iX7_goOn_32 : Ins MX7_goOn 32 (.imul) 1 33 := ⟨by decide +kernel, rfl⟩
theorem iX7_goOn_33 : Ins MX7_goOn 33 (.iaload) 1 34 := ⟨by decide +kernel, rfl⟩
theorem iX7_goOn_34 : Ins MX7_goOn 34 (.bipush 11) 2 36 := ⟨by decide +kernel, rfl⟩
theorem iX7_goOn_36 : Jmp MX7_goOn 36 (.if_icmp .ge) 158 39 := ⟨122, ⟨by decide +kernel, rfl⟩, by decide⟩
theorem iX7_goOn_39 : Ins MX7_goOn 39 (.iconst 0) 1 40 := ⟨by decide +kernel, rfl⟩
theorem iX7_goOn_40 : StI MX7_goOn 40 3 41 := ⟨Or.inr ⟨3, rfl, by decide +kernel, rfl⟩, Nat.le_of_ble_eq_true rfl⟩
theorem iX7_goOn_41 : Ins MX7_goOn 41 (.iconst 0) 1 42 := ⟨by decide +kernel, rfl⟩
theorem iX7_goOn_42 : StI MX7_goOn 42 4 44 := ⟨Or.inl ⟨by decide +kernel, rfl⟩, Nat.le_of_ble_eq_true rfl⟩
theorem iX7_goOn_44 : LdI MX7_goOn 44 4 46 := Or.inl ⟨by decide +kernel, rfl⟩
theorem iX7_goOn_46 : LdA MX7_goOn 46 0 47 := Or.inr ⟨0, rfl, by decide +kernel, rfl⟩
theorem iX7_goOn_47 : Ins MX7_goOn 47 (.getfield 68) 3 50 := ⟨by decide +kernel, rfl⟩
theorem iX7_goOn_50 : Jmp MX7_goOn 50 (.if_icmp .ge) 81 53 := ⟨31, ⟨by decide +kernel, rfl⟩, by decide⟩
theorem iX7_goOn_53 : LdI MX7_goOn 53 3 54 := Or.inr ⟨3, rfl, by decide +kernel, rfl⟩
theorem iX7_goOn_54 : Jmp MX7_goOn 54 (.ifCond .ne) 69 57 := ⟨15, ⟨by decide +kernel, rfl⟩, by decide⟩
theorem iX7_goOn_57 : LdA MX7_goOn 57 0 58 := Or.inr ⟨0, rfl, by decide +kernel, rfl⟩
theorem iX7_goOn_58 : LdI MX7_goOn 58 1 59 := Or.inr ⟨1, rfl, by decide +kernel, rfl⟩
theorem iX7_goOn_59 : LdI MX7_goOn 59 4 61 := Or.inl ⟨by decide +kernel, rfl⟩
theorem iX7_goOn_61 : Ins MX7_goOn 61 (.iconst 5) 1 62 := ⟨by decide +kernel, rfl⟩
theorem iX7_goOn_62 : Ins MX7_goOn 62 (.invokevirtual 77) 3 65 := ⟨by decide +kernel, rfl⟩
theorem iX7_goOn_65 : Ins MX7_goOn 65 (.iconst 3) 1 66 := ⟨by decide +kernel, rfl⟩
theorem iX7_goOn_66 : Jmp MX7_goOn 66 (.if_icmp .eq) 73 69 := ⟨7, ⟨by decide +kernel, rfl⟩, by decide⟩
theorem iX7_goOn_69 : Ins MX7_goOn 69 (.iconst 1) 1 70 := ⟨by decide +kernel, rfl⟩
theorem iX7_goOn_70 : Jmp MX7_goOn 70 .goto 74 73 := ⟨4, ⟨by decide +kernel, rfl⟩, by decide⟩
theorem iX7_goOn_73 : Ins MX7_goOn 73 (.iconst 0) 1 74 := ⟨by decide +kernel, rfl⟩
theorem iX7_goOn_74 : StI MX7_goOn 74 3 75 := ⟨Or.inr ⟨3, rfl, by decide +kernel, rfl⟩, Nat.le_of_ble_eq_true rfl⟩
theorem iX7_goOn_75 : Inc MX7_goOn 75 4 (1) 78 := ⟨⟨by decide +kernel, rfl⟩, Nat.le_of_ble_eq_true rfl⟩
theorem iX7_goOn_78 : Jmp MX7_goOn 78 .goto 44 81 := ⟨-34, ⟨by decide +kernel, rfl⟩, by decide⟩
theorem iX7_goOn_81 : LdI MX7_goOn 81 3 82 := Or.inr ⟨3, rfl, by decide +kernel, rfl⟩
theorem iX7_goOn_82 : Jmp MX7_goOn 82 (.ifCond .eq) 158 85 := ⟨76, ⟨by decide +kernel, rfl⟩, by decide⟩
theorem iX7_goOn_85 : LdA MX7_goOn 85 0 86 := Or.inr ⟨0, rfl, by decide +kernel, rfl⟩
theorem iX7_goOn_86 : Ins MX7_goOn 86 (.getfield 19) 3 89 := ⟨by decide +kernel, rfl⟩
theorem iX7_goOn_89 : Ins MX7_goOn 89 (.bipush 30) 2 91 := ⟨by decide +kernel, rfl⟩
theorem iX7_goOn_91 : LdI MX7_goOn 91 1 92 := Or.inr ⟨1, rfl, by decide +kernel, rfl⟩
theorem iX7_goOn_92 : Ins MX7_goOn 92 (.imul) 1 93 := ⟨by decide +kernel, rfl⟩
theorem iX7_goOn_93 : Ins MX7_goOn 93 (.dup2) 1 94 := ⟨by decide +kernel, rfl⟩
theorem iX7_goOn_94 : Ins MX7_goOn 94 (.iaload) 1 95 := ⟨by decide +kernel, rfl⟩
theorem iX7_goOn_95 : Ins MX7_goOn 95 (.iconst 1) 1 96 := ⟨by decide +kernel, rfl⟩
theorem iX7_goOn_96 : Ins MX7_goOn 96 (.iadd) 1 97 := ⟨by decide +kernel, rfl⟩
theorem iX7_goOn_97 : Ins MX7_goOn 97 (.iastore) 1 98 := ⟨by decide +kernel, rfl⟩
theorem iX7_goOn_98 : Ins MX7_goOn 98 (.iconst 0) 1 99 := ⟨by decide +kernel, rfl⟩
theorem iX7_goOn_99 : StI MX7_goOn 99 4 101 := ⟨Or.inl ⟨by decide +kernel, rfl⟩, Nat.le_of_ble_eq_true rfl⟩
theorem iX7_goOn_101 : LdI MX7_goOn 101 4 103 := Or.inl ⟨by decide +kernel, rfl⟩
theorem iX7_goOn_103 : LdA MX7_goOn 103 0 104 := Or.inr ⟨0, rfl, by decide +kernel, rfl⟩
theorem iX7_goOn_104 : Ins MX7_goOn 104 (.getfield 68) 3 107 := ⟨by decide +kernel, rfl⟩
theorem iX7_goOn_107 : Jmp MX7_goOn 107 (.if_icmp .ge) 151 110 := ⟨44, ⟨by decide +kernel, rfl⟩, by decide⟩
theorem iX7_goOn_110 : LdA MX7_goOn 110 0 111 := Or.inr ⟨0, rfl, by decide +kernel, rfl⟩
theorem iX7_goOn_111 : LdI MX7_goOn 111 1 112 := Or.inr ⟨1, rfl, by decide +kernel, rfl⟩
theorem iX7_goOn_112 : LdI MX7_goOn 112 4 114 := Or.inl ⟨by decide +kernel, rfl⟩
theorem iX7_goOn_114 : Ins MX7_goOn 114 (.iconst 5) 1 115 := ⟨by decide +kernel, rfl⟩
theorem iX7_goOn_115 : LdA MX7_goOn 115 0 116 := Or.inr ⟨0, rfl, by decide +kernel, rfl⟩
theorem iX7_goOn_116 : LdI MX7_goOn 116 1 117 := Or.inr ⟨1, rfl, by decide +kernel, rfl⟩
theorem iX7_goOn_117 : LdI MX7_goOn 117 4 119 := Or.inl ⟨by decide +kernel, rfl⟩
theorem iX7_goOn_119 : Ins MX7_goOn 119 (.iconst 5) 1 120 := ⟨by decide +kernel, rfl⟩
theorem iX7_goOn_120 : Ins MX7_goOn 120 (.invokevirtual 77) 3 123 := ⟨by decide +kernel, rfl⟩
theorem iX7_goOn_123 : Ins MX7_goOn 123 (.iconst 3) 1 124 := ⟨by decide +kernel, rfl⟩
theorem iX7_goOn_124 : Jmp MX7_goOn 124 (.if_icmp .ne) 131 127 := ⟨7, ⟨by decide +kernel, rfl⟩, by decide⟩
theorem iX7_goOn_127 : Ins MX7_goOn 127 (.iconst 3) 1 128 := ⟨by decide +kernel, rfl⟩
theorem iX7_goOn_128 : Jmp MX7_goOn 128 .goto 132 131 := ⟨4, ⟨by decide +kernel, rfl⟩, by decide⟩
theorem iX7_goOn_131 : Ins MX7_goOn 131 (.iconst 0) 1 132 := ⟨by decide +kernel, rfl⟩
theorem iX7_goOn_132 : Ins MX7_goOn 132 (.invokevirtual 103) 3 135 := ⟨by decide +kernel, rfl⟩
theorem iX7_goOn_135 : LdA MX7_goOn 135 0 136 := Or.inr ⟨0, rfl, by decide +kernel, rfl⟩
theorem iX7_goOn_136 : LdI MX7_goOn 136 1 137 := Or.inr ⟨1, rfl, by decide +kernel, rfl⟩
theorem iX7_goOn_137 : LdI MX7_goOn 137 4 139 := Or.inl ⟨by decide +kernel, rfl⟩
theorem iX7_goOn_139 : Ins MX7_goOn 139 (.bipush 6) 2 141 := ⟨by decide +kernel, rfl⟩
theorem iX7_goOn_141 : Ins MX7_goOn 141 (.iconst 0) 1 142 := ⟨by decide +kernel, rfl⟩
theorem iX7_goOn_142 : Ins MX7_goOn 142 (.invokevirtual 103) 3 145 := ⟨by decide +kernel, rfl⟩
theorem iX7_goOn_145 : Inc MX7_goOn 145 4 (1) 148 := ⟨⟨by decide +kernel, rfl⟩, Nat.le_of_ble_eq_true rfl⟩
theorem iX7_goOn_148 : Jmp MX7_goOn 148 .goto 101 151 := ⟨-47, ⟨by decide +kernel, rfl⟩, by decide⟩
theorem iX7_goOn_151 : LdA MX7_goOn 151 0 152 := Or.inr ⟨0, rfl, by decide +kernel, rfl⟩
theorem iX7_goOn_152 : LdI MX7_goOn 152 1 153 := Or.inr ⟨1, rfl, by decide +kernel, rfl⟩
theorem iX7_goOn_153 : Ins MX7_goOn 153 (.iconst 0) 1 154 := ⟨by decide +kernel, rfl⟩
theorem iX7_goOn_154 : Ins MX7_goOn 154 (.invokevirtual 100) 3 157 := ⟨by decide +kernel, rfl⟩
theorem iX7_goOn_157 : StI MX7_goOn 157 2 158 := ⟨Or.inr ⟨2, rfl, by decide +kernel, rfl⟩, Nat.le_of_ble_eq_true rfl⟩
theorem iX7_goOn_158 : LdA MX7_goOn 158 0 159 := Or.inr ⟨0, rfl, by decide +kernel, rfl⟩
theorem iX7_goOn_159 : Ins MX7_goOn 159 (.getfield 19) 3 162 := ⟨by decide +kernel, rfl⟩
theorem iX7_goOn_162 : Ins MX7_goOn 162 (.bipush 30) 2 164 := ⟨by decide +kernel, rfl⟩
theorem iX7_goOn_164 : LdI MX7_goOn 164 1 165 := Or.inr ⟨1, rfl, by decide +kernel, rfl⟩
theorem iX7_goOn_165 : Ins MX7_goOn 165 (.imul) 1 166 := ⟨by decide +kernel, rfl⟩
theorem iX7_goOn_166 : Ins MX7_goOn 166 (.iconst 1) 1 167 := ⟨by decide +kernel, rfl⟩
theorem iX7_goOn_167 : Ins MX7_goOn 167 (.iadd) 1 168 := ⟨by decide +kernel, rfl⟩
theorem iX7_goOn_168 : LdI MX7_goOn 168 2 169 := Or.inr ⟨2, rfl, by decide +kernel, rfl⟩
theorem iX7_goOn_169 : Ins MX7_goOn 169 (.iastore) 1 170 := ⟨by decide +kernel, rfl⟩
theorem iX7_goOn_170 : Ins MX7_goOn 170 (.return_) 1 171 := ⟨by decide +kernel, rfl⟩
theorem iX7_make_0 : LdA MX7_make 0 0 1 := Or.inr ⟨0, rfl, by decide +kernel, rfl⟩
theorem iX7_make_1 : Ins MX7_make 1 (.getfield 19) 3 4 := ⟨by decide +kernel, rfl⟩
theorem iX7_make_4 : Ins MX7_make 4 (.bipush 30) 2 6 := ⟨by decide +kernel, rfl⟩
theorem iX7_make_6 : LdI MX7_make 6 1 7 := Or.inr ⟨1, rfl, by decide +kernel, rfl⟩
theorem iX7_make_7 : Ins MX7_make 7 (.imul) 1 8 := ⟨by decide +kernel, rfl⟩
theorem iX7_make_8 : Ins MX7_make 8 (.iconst 1) 1 9 := ⟨by decide +kernel, rfl⟩
theorem iX7_make_9 : Ins MX7_make 9 (.iadd) 1 10 := ⟨by decide +kernel, rfl⟩
theorem iX7_make_10 : Ins MX7_make 10 (.iaload) 1 11 := ⟨by decide +kernel, rfl⟩
theorem iX7_make_11 : StI MX7_make 11 3 12 := ⟨Or.inr ⟨3, rfl, by decide +kernel, rfl⟩, Nat.le_of_ble_eq_true rfl⟩
theorem iX7_make_12 : LdI MX7_make 12 2 13 := Or.inr ⟨2, rfl, by decide +kernel, rfl⟩
theorem iX7_make_13 : Ins MX7_make 13 (.iconst 2) 1 14 := ⟨by decide +kernel, rfl⟩
theorem iX7_make_14 : Jmp MX7_make 14 (.if_icmp .ge) 33 17 := ⟨19, ⟨by decide +kernel, rfl⟩, by decide⟩
theorem iX7_make_17 : LdA MX7_make 17 0 18 := Or.inr ⟨0, rfl, by decide +kernel, rfl⟩
theorem iX7_make_18 : LdI MX7_make 18 1 19 := Or.inr ⟨1, rfl, by decide +kernel, rfl⟩
theorem iX7_make_19 : LdI MX7_make 19 3 20 := Or.inr ⟨3, rfl, by decide +kernel, rfl⟩
theorem iX7_make_20 : Ins MX7_make 20 (.iconst 0) 1 21 := ⟨by decide +kernel, rfl⟩
theorem iX7_make_21 : LdA MX7_make 21 0 22 := Or.inr ⟨0, rfl, by decide +kernel, rfl⟩
theorem iX7_make_22 : LdI MX7_make 22 1 23 := Or.inr ⟨1, rfl, by decide +kernel, rfl⟩
theorem iX7_make_23 : LdI MX7_make 23 3 24 := Or.inr ⟨3, rfl, by decide +kernel, rfl⟩
theorem iX7_make_24 : Ins MX7_make 24 (.iconst 0) 1 25 := ⟨by decide +kernel, rfl⟩
theorem iX7_make_25 : Ins MX7_make 25 (.invokevirtual 77) 3 28 := ⟨by decide +kernel, rfl⟩
theorem iX7_make_28 : Ins MX7_make 28 (.iconst 1) 1 29 := ⟨by decide +kernel, rfl⟩
theorem iX7_make_29 : Ins MX7_make 29 (.iadd) 1 30 := ⟨by decide +kernel, rfl⟩
theorem iX7_make_30 : Ins MX7_make 30 (.invokevirtual 103) 3 33 := ⟨by decide +kernel, rfl⟩
theorem iX7_make_33 : LdI MX7_make 33 2 34 := Or.inr ⟨2, rfl, by decide +kernel, rfl⟩
theorem iX7_make_34 : Ins MX7_make 34 (.iconst 1) 1 35 := ⟨by decide +kernel, rfl⟩
theorem iX7_make_35 : Jmp MX7_make 35 (.if_icmp .ne) 88 38 := ⟨53, ⟨by decide +kernel, rfl⟩, by decide⟩
theorem iX7_make_38 : LdA MX7_make 38 0 39 := Or.inr ⟨0, rfl, by decide +kernel, rfl⟩
theorem iX7_make_39 : LdI MX7_make 39 1 40 := Or.inr ⟨1, rfl, by decide +kernel, rfl⟩
theorem iX7_make_40 : LdI MX7_make 40 3 41 := Or.inr ⟨3, rfl, by decide +kernel, rfl⟩
theorem iX7_make_41 : Ins MX7_make 41 (.iconst 1) 1 42 := ⟨by decide +kernel, rfl⟩
theorem iX7_make_42 : Ins MX7_make 42 (.iconst 0) 1 43 := ⟨by decide +kernel, rfl⟩
theorem iX7_make_43 : Ins MX7_make 43 (.invokevirtual 103) 3 46 := ⟨by decide +kernel, rfl⟩
theorem iX7_make_46 : LdA MX7_make 46 0 47 := Or.inr ⟨0, rfl, by decide +kernel, rfl⟩
theorem iX7_make_47 : LdI MX7_make 47 1 48 := Or.inr ⟨1, rfl, by decide +kernel, rfl⟩
theorem iX7_make_48 : LdI MX7_make 48 3 49 := Or.inr ⟨3, rfl, by decide +kernel, rfl⟩
theorem iX7_make_49 : Ins MX7_make 49 (.iconst 2) 1 50 := ⟨by decide +kernel, rfl⟩
theorem iX7_make_50 : LdA MX7_make 50 0 51 := Or.inr ⟨0, rfl, by decide +kernel, rfl⟩
theorem iX7_make_51 : Ins MX7_make 51 (.getfield 19) 3 54 := ⟨by decide +kernel, rfl⟩
theorem iX7_make_54 : Ins MX7_make 54 (.bipush 30) 2 56 := ⟨by decide +kernel, rfl⟩
theorem iX7_make_56 : LdI MX7_make 56 1 57 := Or.inr ⟨1, rfl, by decide +kernel, rfl⟩
theorem iX7_make_57 : Ins MX7_make 57 (.imul) 1 58 := ⟨by decide +kernel, rfl⟩
theorem iX7_make_58 : Ins MX7_make 58 (.iaload) 1 59 := ⟨by decide +kernel, rfl⟩
theorem iX7_make_59 : Ins MX7_make 59 (.invokevirtual 103) 3 62 := ⟨by decide +kernel, rfl⟩
theorem iX7_make_62 : LdA MX7_make 62 0 63 := Or.inr ⟨0, rfl, by decide +kernel, rfl⟩
theorem iX7_make_63 : LdI MX7_make 63 1 64 := Or.inr ⟨1, rfl, by decide +kernel, rfl⟩
theorem iX7_make_64 : LdI MX7_make 64 3 65 := Or.inr ⟨3, rfl, by decide +kernel, rfl⟩
theorem iX7_make_65 : Ins MX7_make 65 (.iconst 3) 1 66 := ⟨by decide +kernel, rfl⟩
theorem iX7_make_66 : LdA MX7_make 66 0 67 := Or.inr ⟨0, rfl, by decide +kernel, rfl⟩
theorem iX7_make_67 : LdI MX7_make 67 1 68 := Or.inr ⟨1, rfl, by decide +kernel, rfl⟩
theorem iX7_make_68 : LdI MX7_make 68 3 69 := Or.inr ⟨3, rfl, by decide +kernel, rfl⟩
theorem iX7_make_69 : Ins MX7_make 69 (.bipush 6) 2 71 := ⟨by decide +kernel, rfl⟩
theorem iX7_make_71 : Ins MX7_make 71 (.invokevirtual 77) 3 74 := ⟨by decide +kernel, rfl⟩
theorem iX7_make_74 : Ins MX7_make 74 (.invokevirtual 103) 3 77 := ⟨by decide +kernel, rfl⟩
theorem iX7_make_77 : LdA MX7_make 77 0 78 := Or.inr ⟨0, rfl, by decide +kernel, rfl⟩
theorem iX7_make_78 : LdI MX7_make 78 1 79 := Or.inr ⟨1, rfl, by decide +kernel, rfl⟩
theorem iX7_make_79 : LdI MX7_make 79 3 80 := Or.inr ⟨3, rfl, by decide +kernel, rfl⟩
theorem iX7_make_80 : Ins MX7_make 80 (.iconst 5) 1 81 := ⟨by decide +kernel, rfl⟩
theorem iX7_make_81 : Ins MX7_make 81 (.iconst 1) 1 82 := ⟨by decide +kernel, rfl⟩
theorem iX7_make_82 : Ins MX7_make 82 (.invokevirtual 103) 3 85 := ⟨by decide +kernel, rfl⟩
theorem iX7_make_85 : Jmp MX7_make 85 .goto 177 88 := ⟨92, ⟨by decide +kernel, rfl⟩, by decide⟩
theorem iX7_make_88 : LdI MX7_make 88 2 89 := Or.inr ⟨2, rfl, by decide +kernel, rfl⟩
theorem iX7_make_89 : Ins MX7_make 89 (.iconst 2) 1 90 := ⟨by decide +kernel, rfl⟩
theorem iX7_make_90 : Jmp MX7_make 90 (.if_icmp .ne) 104 93 := ⟨14, ⟨by decide +kernel, rfl⟩, by decide⟩
theorem iX7_make_93 : LdA MX7_make 93 0 94 := Or.inr ⟨0, rfl, by decide +kernel, rfl⟩
theorem iX7_make_94 : LdI MX7_make 94 1 95 := Or.inr ⟨1, rfl, by decide +kernel, rfl⟩
theorem iX7_make_95 : LdI MX7_make 95 3 96 := Or.inr ⟨3, rfl, by decide +kernel, rfl⟩
theorem iX7_make_96 : Ins MX7_make 96 (.iconst 5) 1 97 := ⟨by decide +kernel, rfl⟩
theorem iX7_make_97 : Ins MX7_make 97 (.iconst 2) 1 98 := ⟨by decide +kernel, rfl⟩
theorem iX7_make_98 : Ins MX7_make 98 (.invokevirtual 103) 3 101 := ⟨by decide +kernel, rfl⟩
theorem iX7_make_101 : Jmp MX7_make 101 .goto 177 104 := ⟨76, ⟨by decide +kernel, rfl⟩, by decide⟩
theorem iX7_make_104 : LdA MX7_make 104 0 105 := Or.inr ⟨0, rfl, by decide +kernel, rfl⟩
theorem iX7_make_105 : LdI MX7_make 105 1 106 := Or.inr ⟨1, rfl, by decide +kernel, rfl⟩
theorem iX7_make_106 : LdI MX7_make 106 3 107 := Or.inr ⟨3, rfl, by decide +kernel, rfl⟩
theorem iX7_make_107 : Ins MX7_make 107 (.iconst 1) 1 108 := ⟨by decide +kernel, rfl⟩
theorem iX7_make_108 : LdA MX7_make 108 0 109 := Or.inr ⟨0, rfl, by decide +kernel, rfl⟩
theorem iX7_make_109 : LdI MX7_make 109 1 110 := Or.inr ⟨1, rfl, by decide +kernel, rfl⟩
theorem iX7_make_110 : LdI MX7_make 110 3 111 := Or.inr ⟨3, rfl, by decide +kernel, rfl⟩
theorem iX7_make_111 : Ins MX7_make 111 (.iconst 1) 1 112 := ⟨by decide +kernel, rfl⟩
theorem iX7_make_112 : Ins MX7_make 112 (.invokevirtual 77) 3 115 := ⟨by decide +kernel, rfl⟩
theorem iX7_make_115 : Ins MX7_make 115 (.iconst 1) 1 116 := ⟨by decide +kernel, rfl⟩
theorem iX7_make_116 : Ins MX7_make 116 (.iadd) 1 117 := ⟨by decide +kernel, rfl⟩
theorem iX7_make_117 : Ins MX7_make 117 (.invokevirtual 103) 3 120 := ⟨by decide +kernel, rfl⟩
theorem iX7_make_120 : LdA MX7_make 120 0 121 := Or.inr ⟨0, rfl, by decide +kernel, rfl⟩
theorem iX7_make_121 : LdI MX7_make 121 1 122 := Or.inr ⟨1, rfl, by decide +kernel, rfl⟩
theorem iX7_make_122 : LdI MX7_make 122 3 123 := Or.inr ⟨3, rfl, by decide +kernel, rfl⟩
theorem iX7_make_123 : Ins MX7_make 123 (.iconst 4) 1 124 := ⟨by decide +kernel, rfl⟩
theorem iX7_make_124 : LdA MX7_make 124 0 125 := Or.inr ⟨0, rfl, by decide +kernel, rfl⟩
theorem iX7_make_125 : LdI MX7_make 125 1 126 := Or.inr ⟨1, rfl, by decide +kernel, rfl⟩
theorem iX7_make_126 : LdI MX7_make 126 3 127 := Or.inr ⟨3, rfl, by decide +kernel, rfl⟩
theorem iX7_make_127 : Ins MX7_make 127 (.iconst 4) 1 128 := ⟨by decide +kernel, rfl⟩
theorem iX7_make_128 : Ins MX7_make 128 (.invokevirtual 77) 3 131 := ⟨by decide +kernel, rfl⟩
theorem iX7_make_131 : Ins MX7_make 131 (.iconst 1) 1 132 := ⟨by decide +kernel, rfl⟩
theorem iX7_make_132 : Ins MX7_make 132 (.iadd) 1 133 := ⟨by decide +kernel, rfl⟩
theorem iX7_make_133 : Ins MX7_make 133 (.invokevirtual 103) 3 136 := ⟨by decide +kernel, rfl⟩
theorem iX7_make_136 : LdA MX7_make 136 0 137 := Or.inr ⟨0, rfl, by decide +kernel, rfl⟩
theorem iX7_make_137 : LdI MX7_make 137 1 138 := Or.inr ⟨1, rfl, by decide +kernel, rfl⟩
theorem iX7_make_138 : LdI MX7_make 138 3 139 := Or.inr ⟨3, rfl, by decide +kernel, rfl⟩
theorem iX7_make_139 : Ins MX7_make 139 (.bipush 6) 2 141 := ⟨by decide +kernel, rfl⟩
theorem iX7_make_141 : LdA MX7_make 141 0 142 := Or.inr ⟨0, rfl, by decide +kernel, rfl⟩
theorem iX7_make_142 : LdI MX7_make 142 1 143 := Or.inr ⟨1, rfl, by decide +kernel, rfl⟩
theorem iX7_make_143 : LdI MX7_make 143 3 144 := Or.inr ⟨3, rfl, by decide +kernel, rfl⟩
theorem iX7_make_144 : Ins MX7_make 144 (.bipush 6) 2 146 := ⟨by decide +kernel, rfl⟩
theorem iX7_make_146 : Ins MX7_make 146 (.invokevirtual 77) 3 149 := ⟨by decide +kernel, rfl⟩
theorem iX7_make_149 : Ins MX7_make 149 (.iconst 1) 1 150 := ⟨by decide +kernel, rfl⟩
theorem iX7_make_150 : Ins MX7_make 150 (.iadd) 1 151 := ⟨by decide +kernel, rfl⟩
theorem iX7_make_151 : Ins MX7_make 151 (.invokevirtual 103) 3 154 := ⟨by decide +kernel, rfl⟩
theorem iX7_make_154 : LdA MX7_make 154 0 155 := Or.inr ⟨0, rfl, by decide +kernel, rfl⟩
theorem iX7_make_155 : LdI MX7_make 155 1 156 := Or.inr ⟨1, rfl, by decide +kernel, rfl⟩
theorem iX7_make_156 : LdI MX7_make 156 3 157 := Or.inr ⟨3, rfl, by decide +kernel, rfl⟩
theorem iX7_make_157 : Ins MX7_make 157 (.iconst 5) 1 158 := ⟨by decide +kernel, rfl⟩
theorem iX7_make_158 : LdA MX7_make 158 0 159 := Or.inr ⟨0, rfl, by decide +kernel, rfl⟩
theorem iX7_make_159 : LdI MX7_make 159 1 160 := Or.inr ⟨1, rfl, by decide +kernel, rfl⟩
theorem iX7_make_160 : LdI MX7_make 160 3 161 := Or.inr ⟨3, rfl, by decide +kernel, rfl⟩
theorem iX7_make_161 : Ins MX7_make 161 (.iconst 1) 1 162 := ⟨by decide +kernel, rfl⟩
theorem iX7_make_162 : Ins MX7_make 162 (.invokevirtual 77) 3 165 := ⟨by decide +kernel, rfl⟩
theorem iX7_make_165 : Ins MX7_make 165 (.iconst 3) 1 166 := ⟨by decide +kernel, rfl⟩
theorem iX7_make_166 : Jmp MX7_make 166 (.if_icmp .ne) 173 169 := ⟨7, ⟨by decide +kernel, rfl⟩, by decide⟩
theorem iX7_make_169 : Ins MX7_make 169 (.iconst 3) 1 170 := ⟨by decide +kernel, rfl⟩
theorem iX7_make_170 : Jmp MX7_make 170 .goto 174 173 := ⟨4, ⟨by decide +kernel, rfl⟩, by decide⟩
theorem iX7_make_173 : Ins MX7_make 173 (.iconst 0) 1 174 := ⟨by decide +kernel, rfl⟩
theorem iX7_make_174 : Ins MX7_make 174 (.invokevirtual 103) 3 177 := ⟨by decide +kernel, rfl⟩
theorem iX7_make_177 : LdA MX7_make 177 0 178 := Or.inr ⟨0, rfl, by decide +kernel, rfl⟩
theorem iX7_make_178 : LdI MX7_make 178 1 179 := Or.inr ⟨1, rfl, by decide +kernel, rfl⟩
theorem iX7_make_179 : Ins MX7_make 179 (.invokevirtual 107) 3 182 := ⟨by decide +kernel, rfl⟩
theorem iX7_make_182 : Ins MX7_make 182 (.return_) 1 183 := ⟨by decide +kernel, rfl⟩
theorem iX7_act_0 : LdA MX7_act 0 0 1 := Or.inr ⟨0, rfl, by decide +kernel, rfl⟩
theorem iX7_act_1 : Ins MX7_act 1 (.getfield 19) 3 4 := ⟨by decide +kernel, rfl⟩
theorem iX7_act_4 : Ins MX7_act 4 (.iconst 1) 1 5 := ⟨by decide +kernel, rfl⟩
theorem iX7_act_5 : Ins MX7_act 5 (.iaload) 1 6 := ⟨by decide +kernel, rfl⟩
theorem iX7_act_6 : Ins MX7_act 6 (.bipush (-9)) 2 8 := ⟨by decide +kernel, rfl⟩
theorem iX7_act_8 : Jmp MX7_act 8 (.if_icmp .ne) 14 11 := ⟨6, ⟨by decide +kernel, rfl⟩, by decide⟩
theorem iX7_act_11 : Ins MX7_act 11 (.bipush (-3)) 2 13 := ⟨by decide +kernel, rfl⟩
theorem iX7_act_13 : Ins MX7_act 13 (.ireturn) 1 14 := ⟨by decide +kernel, rfl⟩
theorem iX7_act_14 : LdA MX7_act 14 0 15 := Or.inr ⟨0, rfl, by decide +kernel, rfl⟩
theorem iX7_act_15 : Ins MX7_act 15 (.invokevirtual 111) 3 18 := ⟨by decide +kernel, rfl⟩
theorem iX7_act_18 : LdA MX7_act 18 0 19 := Or.inr ⟨0, rfl, by decide +kernel, rfl⟩
theorem iX7_act_19 : Ins MX7_act 19 (.iconst 0) 1 20 := ⟨by decide +kernel, rfl⟩
theorem iX7_act_20 : LdI MX7_act 20 1 21 := Or.inr ⟨1, rfl, by decide +kernel, rfl⟩
theorem iX7_act_21 : Ins MX7_act 21 (.invokevirtual 114) 3 24 := ⟨by decide +kernel, rfl⟩
theorem iX7_act_24 : LdA MX7_act 24 0 25 := Or.inr ⟨0, rfl, by decide +kernel, rfl⟩
theorem iX7_act_25 : Ins MX7_act 25 (.getfield 19) 3 28 := ⟨by decide +kernel, rfl⟩
theorem iX7_act_28 : Ins MX7_act 28 (.iconst 1) 1 29 := ⟨by decide +kernel, rfl⟩
theorem iX7_act_29 : Ins MX7_act 29 (.iaload) 1 30 := ⟨by decide +kernel, rfl⟩
theorem iX7_act_30 : Ins MX7_act 30 (.ireturn) 1 31 := ⟨by decide +kernel, rfl⟩
theorem iX7_toss_0 : LdA MX7_toss 0 0 1 := Or.inr ⟨0, rfl, by decide +kernel, rfl⟩
theorem iX7_toss_1 : LdI MX7_toss 1 1 2 := Or.inr ⟨1, rfl, by decide +kernel, rfl⟩
theorem iX7_toss_2 : Jmp MX7_toss 2 (.ifCond .eq) 9 5 := ⟨7, ⟨by decide +kernel, rfl⟩, by decide⟩
theorem iX7_toss_5 : Ins MX7_toss 5 (.iconst 1) 1 6 := ⟨by decide +kernel, rfl⟩
theorem iX7_toss_6 : Jmp MX7_toss 6 .goto 10 9 := ⟨4, ⟨by decide +kernel, rfl⟩, by decide⟩
theorem iX7_toss_9 : Ins MX7_toss 9 (.iconst 0) 1 10 := ⟨by decide +kernel, rfl⟩
theorem iX7_toss_10 : Ins MX7_toss 10 (.invokevirtual 118) 3 13 := ⟨by decide +kernel, rfl⟩
theorem iX7_toss_13 : Ins MX7_toss 13 (.ireturn) 1 14 := ⟨by decide +kernel, rfl⟩
theorem iX7_spare_0 : LdA MX7_spare 0 0 1 := Or.inr ⟨0, rfl, by decide +kernel, rfl⟩
theorem iX7_spare_1 : Ins MX7_spare 1 (.iconst 2) 1 2 := ⟨by decide +kernel, rfl⟩
theorem iX7_spare_2 : Ins MX7_spare 2 (.invokevirtual 118) 3 5 := ⟨by decide +kernel, rfl⟩
theorem iX7_spare_5 : Ins MX7_spare 5 (.ireturn) 1 6 := ⟨by decide +kernel, rfl⟩
theorem iX7_undo_0 : LdA MX7_undo 0 0 1 := Or.inr ⟨0, rfl, by decide +kernel, rfl⟩
theorem iX7_undo_1 : Ins MX7_undo 1 (.getfield 71) 3 4 := ⟨by decide +kernel, rfl⟩
theorem iX7_undo_4 : Jmp MX7_undo 4 (.ifCond .ne) 10 7 := ⟨6, ⟨by decide +kernel, rfl⟩, by decide⟩
theorem iX7_undo_7 : Ins MX7_undo 7 (.bipush (-3)) 2 9 := ⟨by decide +kernel, rfl⟩
theorem iX7_undo_9 : Ins MX7_undo 9 (.ireturn) 1 10 := ⟨by decide +kernel, rfl⟩
theorem iX7_undo_10 : LdA MX7_undo 10 0 11 := Or.inr ⟨0, rfl, by decide +kernel, rfl⟩
theorem iX7_undo_11 : Ins MX7_undo 11 (.dup) 1 12 := ⟨by decide +kernel, rfl⟩
theorem iX7_undo_12 : Ins MX7_undo 12 (.getfield 71) 3 15 := ⟨by decide +kernel, rfl⟩
theorem iX7_undo_15 : Ins MX7_undo 15 (.iconst 1) 1 16 := ⟨by decide +kernel, rfl⟩
theorem iX7_undo_16 : Ins MX7_undo 16 (.isub) 1 17 := ⟨by decide +kernel, rfl⟩
theorem iX7_undo_17 : Ins MX7_undo 17 (.putfield 71) 3 20 := ⟨by decide +kernel, rfl⟩
theorem iX7_undo_20 : LdA MX7_undo 20 0 21 := Or.inr ⟨0, rfl, by decide +kernel, rfl⟩
theorem iX7_undo_21 : LdA MX7_undo 21 0 22 := Or.inr ⟨0, rfl, by decide +kernel, rfl⟩
theorem iX7_undo_22 : Ins MX7_undo 22 (.getfield 97) 3 25 := ⟨by decide +kernel, rfl⟩
theorem iX7_undo_25 : Ins MX7_undo 25 (.bipush 15) 2 27 := ⟨by decide +kernel, rfl⟩
theorem iX7_undo_27 : Ins MX7_undo 27 (.iadd) 1 28 := ⟨by decide +kernel, rfl⟩
theorem iX7_undo_28 : Ins MX7_undo 28 (.bipush 16) 2 30 := ⟨by decide +kernel, rfl⟩
theorem iX7_undo_30 : Ins MX7_undo 30 (.irem) 1 31 := ⟨by decide +kernel, rfl⟩
theorem iX7_undo_31 : Ins MX7_undo 31 (.putfield 97) 3 34 := ⟨by decide +kernel, rfl⟩
theorem iX7_undo_34 : Ins MX7_undo 34 (.iconst 0) 1 35 := ⟨by decide +kernel, rfl⟩
theorem iX7_undo_35 : StI MX7_undo 35 1 36 := ⟨Or.inr ⟨1, rfl, by decide +kernel, rfl⟩, Nat.le_of_ble_eq_true rfl⟩
theorem iX7_undo_36 : LdI MX7_undo 36 1 37 := Or.inr ⟨1, rfl, by decide +kernel, rfl⟩
theorem iX7_undo_37 : Ins MX7_undo 37 (.bipush 30) 2 39 := ⟨by decide +kernel, rfl⟩
theorem iX7_undo_39 : Jmp MX7_undo 39 (.if_icmp .ge) 68 42 := ⟨29, ⟨by decide +kernel, rfl⟩, by decide⟩
theorem iX7_undo_42 : LdA MX7_undo 42 0 43 := Or.inr ⟨0, rfl, by decide +kernel, rfl⟩
theorem iX7_undo_43 : Ins MX7_undo 43 (.getfield 19) 3 46 := ⟨by decide +kernel, rfl⟩
theorem iX7_undo_46 : LdI MX7_undo 46 1 47 := Or.inr ⟨1, rfl, by decide +kernel, rfl⟩
theorem iX7_undo_47 : LdA MX7_undo 47 0 48 := Or.inr ⟨0, rfl, by decide +kernel, rfl⟩
theorem iX7_undo_48 : Ins MX7_undo 48 (.getfield 22) 3 51 := ⟨by decide +kernel, rfl⟩
theorem iX7_undo_51 : Ins MX7_undo 51 (.bipush 30) 2 53 := ⟨by decide +kernel, rfl⟩
theorem iX7_undo_53 : LdA MX7_undo 53 0 54 := Or.inr ⟨0, rfl, by decide +kernel, rfl⟩
theorem iX7_undo_54 : Ins MX7_undo 54 (.getfield 97) 3 57 := ⟨by decide +kernel, rfl⟩
theorem iX7_undo_57 : Ins MX7_undo 57 (.imul) 1 58 := ⟨by decide +kernel, rfl⟩
theorem iX7_undo_58 : LdI MX7_undo 58 1 59 := Or.inr ⟨1, rfl, by decide +kernel, rfl⟩
theorem iX7_undo_59 : Ins MX7_undo 59 (.iadd) 1 60 := ⟨by decide +kernel, rfl⟩
theorem iX7_undo_60 : Ins MX7_undo 60 (.iaload) 1 61 := ⟨by decide +kernel, rfl⟩
theorem iX7_undo_61 : Ins MX7_undo 61 (.iastore) 1 62 := ⟨by decide +kernel, rfl⟩
theorem iX7_undo_62 : Inc MX7_undo 62 1 (1) 65 := ⟨⟨by decide +kernel, rfl⟩, Nat.le_of_ble_eq_true rfl⟩
theorem iX7_undo_65 : Jmp MX7_undo 65 .goto 36 68 := ⟨-29, ⟨by decide +kernel, rfl⟩, by decide⟩
theorem iX7_undo_68 : LdA MX7_undo 68 0 69 := Or.inr ⟨0, rfl, by decide +kernel, rfl⟩
theorem iX7_undo_69 : Ins MX7_undo 69 (.getfield 71) 3 72 := ⟨by decide +kernel, rfl⟩
theorem iX7_undo_72 : Ins MX7_undo 72 (.ireturn) 1 73 := ⟨by decide +kernel, rfl⟩
theorem iX7_tenTo_0 : Ins MX7_tenTo 0 (.lconst 1) 1 1 := ⟨by decide +kernel, rfl⟩
theorem iX7_tenTo_1 : StL MX7_tenTo 1 1 2 := ⟨Or.inr ⟨1, rfl, by decide +kernel, rfl⟩, Nat.le_of_ble_eq_true rfl⟩
theorem iX7_tenTo_2 : Ins MX7_tenTo 2 (.iconst 0) 1 3 := ⟨by decide +kernel, rfl⟩
theorem iX7_tenTo_3 : StI MX7_tenTo 3 3 4 := ⟨Or.inr ⟨3, rfl, by decide +kernel, rfl⟩, Nat.le_of_ble_eq_true rfl⟩
theorem iX7_tenTo_4 : LdI MX7_tenTo 4 3 5 := Or.inr ⟨3, rfl, by decide +kernel, rfl⟩
theorem iX7_tenTo_5 : LdI MX7_tenTo 5 0 6 := Or.inr ⟨0, rfl, by decide +kernel, rfl⟩
theorem iX7_tenTo_6 : Jmp MX7_tenTo 6 (.if_icmp .ge) 21 9 := ⟨15, ⟨by decide +kernel, rfl⟩, by decide⟩
theorem iX7_tenTo_9 : LdL MX7_tenTo 9 1 10 := Or.inr ⟨1, rfl, by decide +kernel, rfl⟩
theorem iX7_tenTo_10 : Ins MX7_tenTo 10 (.ldc2_w 122) 3 13 := ⟨by decide +kernel, rfl⟩
theorem iX7_tenTo_13 : Ins MX7_tenTo 13 (.lmul) 1 14 := ⟨by decide +kernel, rfl⟩
theorem iX7_tenTo_14 : StL MX7_tenTo 14 1 15 := ⟨Or.inr ⟨1, rfl, by decide +kernel, rfl⟩, Nat.le_of_ble_eq_true rfl⟩
theorem iX7_tenTo_15 : Inc MX7_tenTo 15 3 (1) 18 := ⟨⟨by decide +kernel, rfl⟩, Nat.le_of_ble_eq_true rfl⟩
theorem iX7_tenTo_18 : Jmp MX7_tenTo 18 .goto 4 21 := ⟨-14, ⟨by decide +kernel, rfl⟩, by decide⟩
theorem iX7_tenTo_21 : LdL MX7_tenTo 21 1 22 := Or.inr ⟨1, rfl, by decide +kernel, rfl⟩
theorem iX7_tenTo_22 : Ins MX7_tenTo 22 (.lreturn) 1 23 := ⟨by decide +kernel, rfl⟩
theorem iX7_copyNow_0 : Ins MX7_copyNow 0 (.iconst 0) 1 1 := ⟨by decide +kernel, rfl⟩
theorem iX7_copyNow_1 : StI MX7_copyNow 1 1 2 := ⟨Or.inr ⟨1, rfl, by decide +kernel, rfl⟩, Nat.le_of_ble_eq_true rfl⟩
theorem iX7_copyNow_2 : LdI MX7_copyNow 2 1 3 := Or.inr ⟨1, rfl, by decide +kernel, rfl⟩
theorem iX7_copyNow_3 : Ins MX7_copyNow 3 (.bipush 30) 2 5 := ⟨by decide +kernel, rfl⟩
theorem iX7_copyNow_5 : Jmp MX7_copyNow 5 (.if_icmp .ge) 29 8 := ⟨24, ⟨by decide +kernel, rfl⟩, by decide⟩
theorem iX7_copyNow_8 : LdA MX7_copyNow 8 0 9 := Or.inr ⟨0, rfl, by decide +kernel, rfl⟩
theorem iX7_copyNow_9 : Ins MX7_copyNow 9 (.getfield 19) 3 12 := ⟨by decide +kernel, rfl⟩
theorem iX7_copyNow_12 : Ins MX7_copyNow 12 (.bipush 30) 2 14 := ⟨by decide +kernel, rfl⟩
theorem iX7_copyNow_14 : LdI MX7_copyNow 14 1 15 := Or.inr ⟨1, rfl, by decide +kernel, rfl⟩
theorem iX7_copyNow_15 : Ins MX7_copyNow 15 (.iadd) 1 16 := ⟨by decide +kernel, rfl⟩
theorem iX7_copyNow_16 : LdA MX7_copyNow 16 0 17 := Or.inr ⟨0, rfl, by decide +kernel, rfl⟩
theorem iX7_copyNow_17 : Ins MX7_copyNow 17 (.getfield 19) 3 20 := ⟨by decide +kernel, rfl⟩
theorem iX7_copyNow_20 : LdI MX7_copyNow 20 1 21 := Or.inr ⟨1, rfl, by decide +kernel, rfl⟩
theorem iX7_copyNow_21 : Ins MX7_copyNow 21 (.iaload) 1 22 := ⟨by decide +kernel, rfl⟩
theorem iX7_copyNow_22 : Ins MX7_copyNow 22 (.iastore) 1 23 := ⟨by decide +kernel, rfl⟩
theorem iX7_copyNow_23 : Inc MX7_copyNow 23 1 (1) 26 := ⟨⟨by decide +kernel, rfl⟩, Nat.le_of_ble_eq_true rfl⟩
theorem iX7_copyNow_26 : Jmp MX7_copyNow 26 .goto 2 29 := ⟨-24, ⟨by decide +kernel, rfl⟩, by decide⟩
theorem iX7_copyNow_29 : Ins MX7_copyNow 29 (.return_) 1 30 := ⟨by decide +kernel, rfl⟩
theorem iX7_judge_0 : LdI MX7_judge 0 1 1 := Or.inr ⟨1, rfl, by decide +kernel, rfl⟩
theorem iX7_judge_1 : Ins MX7_judge 1 (.i2l) 1 2 := ⟨by decide +kernel, rfl⟩
theorem iX7_judge_2 : Ins MX7_judge 2 (.lconst 1) 1 3 := ⟨by decide +kernel, rfl⟩
theorem iX7_judge_3 : Ins MX7_judge 3 (.ldc2_w 42) 3 6 := ⟨by decide +kernel, rfl⟩
theorem iX7_judge_6 : Ins MX7_judge 6 (.invokestatic 44) 3 9 := ⟨by decide +kernel, rfl⟩
theorem iX7_judge_9 : Jmp MX7_judge 9 (.ifCond .eq) 27 12 := ⟨18, ⟨by decide +kernel, rfl⟩, by decide⟩
theorem iX7_judge_12 : LdI MX7_judge 12 2 13 := Or.inr ⟨2, rfl, by decide +kernel, rfl⟩
theorem iX7_judge_13 : Ins MX7_judge 13 (.i2l) 1 14 := ⟨by decide +kernel, rfl⟩
theorem iX7_judge_14 : Ins MX7_judge 14 (.lconst 0) 1 15 := ⟨by decide +kernel, rfl⟩
theorem iX7_judge_15 : LdI MX7_judge 15 1 16 := Or.inr ⟨1, rfl, by decide +kernel, rfl⟩
theorem iX7_judge_16 : Ins MX7_judge 16 (.invokestatic 124) 3 19 := ⟨by decide +kernel, rfl⟩
theorem iX7_judge_19 : Ins MX7_judge 19 (.lconst 1) 1 20 := ⟨by decide +kernel, rfl⟩
theorem iX7_judge_20 : Ins MX7_judge 20 (.lsub) 1 21 := ⟨by decide +kernel, rfl⟩
theorem iX7_judge_21 : Ins MX7_judge 21 (.invokestatic 44) 3 24 := ⟨by decide +kernel, rfl⟩
theorem iX7_judge_24 : Jmp MX7_judge 24 (.ifCond .ne) 30 27 := ⟨6, ⟨by decide +kernel, rfl⟩, by decide⟩
theorem iX7_judge_27 : Ins MX7_judge 27 (.bipush (-2)) 2 29 := ⟨by decide +kernel, rfl⟩
theorem iX7_judge_29 : Ins MX7_judge 29 (.ireturn) 1 30 := ⟨by decide +kernel, rfl⟩
theorem iX7_judge_30 : LdA MX7_judge 30 0 31 := Or.inr ⟨0, rfl, by decide +kernel, rfl⟩
theorem iX7_judge_31 : Ins MX7_judge 31 (.invokevirtual 128) 3 34 := ⟨by decide +kernel, rfl⟩
theorem iX7_judge_34 : Ins MX7_judge 34 (.iconst 0) 1 35 := ⟨by decide +kernel, rfl⟩
theorem iX7_judge_35 : StI MX7_judge 35 3 36 := ⟨Or.inr ⟨3, rfl, by decide +kernel, rfl⟩, Nat.le_of_ble_eq_true rfl⟩
theorem iX7_judge_36 : LdI MX7_judge 36 3 37 := Or.inr ⟨3, rfl, by decide +kernel, rfl⟩
theorem iX7_judge_37 : LdI MX7_judge 37 1 38 := Or.inr ⟨1, rfl, by decide +kernel, rfl⟩
theorem iX7_judge_38 : Jmp MX7_judge 38 (.if_icmp .ge) 92 41 := ⟨54, ⟨by decide +kernel, rfl⟩, by decide⟩
theorem iX7_judge_41 : LdI MX7_judge 41 2 42 := Or.inr ⟨2, rfl, by decide +kernel, rfl⟩
theorem iX7_judge_42 : Ins MX7_judge 42 (.i2l) 1 43 := ⟨by decide +kernel, rfl⟩
theorem iX7_judge_43 : LdI MX7_judge 43 1 44 := Or.inr ⟨1, rfl, by decide +kernel, rfl⟩
theorem iX7_judge_44 : Ins MX7_judge 44 (.iconst 1) 1 45 := ⟨by decide +kernel, rfl⟩
theorem iX7_judge_45 : Ins MX7_judge 45 (.isub) 1 46 := ⟨by decide +kernel, rfl⟩
theorem iX7_judge_46 : LdI MX7_judge 46 3 47 := Or.inr ⟨3, rfl, by decide +kernel, rfl⟩
theorem iX7_judge_47 : Ins MX7_judge 47 (.isub) 1 48 := ⟨by decide +kernel, rfl⟩
theorem iX7_judge_48 : Ins MX7_judge 48 (.invokestatic 124) 3 51 := ⟨by decide +kernel, rfl⟩
theorem iX7_judge_51 : Ins MX7_judge 51 (.ldiv) 1 52 := ⟨by decide +kernel, rfl⟩
theorem iX7_judge_52 : Ins MX7_judge 52 (.ldc2_w 122) 3 55 := ⟨by decide +kernel, rfl⟩
theorem iX7_judge_55 : Ins MX7_judge 55 (.lrem) 1 56 := ⟨by decide +kernel, rfl⟩
theorem iX7_judge_56 : Ins MX7_judge 56 (.l2i) 1 57 := ⟨by decide +kernel, rfl⟩
theorem iX7_judge_57 : StI MX7_judge 57 4 59 := ⟨Or.inl ⟨by decide +kernel, rfl⟩, Nat.le_of_ble_eq_true rfl⟩
theorem iX7_judge_59 : LdI MX7_judge 59 4 61 := Or.inl ⟨by decide +kernel, rfl⟩
theorem iX7_judge_61 : Ins MX7_judge 61 (.iconst 2) 1 62 := ⟨by decide +kernel, rfl⟩
theorem iX7_judge_62 : Jmp MX7_judge 62 (.if_icmp .gt) 77 65 := ⟨15, ⟨by decide +kernel, rfl⟩, by decide⟩
theorem iX7_judge_65 : LdA MX7_judge 65 0 66 := Or.inr ⟨0, rfl, by decide +kernel, rfl⟩
theorem iX7_judge_66 : Ins MX7_judge 66 (.getfield 19) 3 69 := ⟨by decide +kernel, rfl⟩
theorem iX7_judge_69 : Ins MX7_judge 69 (.bipush 31) 2 71 := ⟨by decide +kernel, rfl⟩
theorem iX7_judge_71 : Ins MX7_judge 71 (.iaload) 1 72 := ⟨by decide +kernel, rfl⟩
theorem iX7_judge_72 : Ins MX7_judge 72 (.bipush (-9)) 2 74 := ⟨by decide +kernel, rfl⟩
theorem iX7_judge_74 : Jmp MX7_judge 74 (.if_icmp .ne) 79 77 := ⟨5, ⟨by decide +kernel, rfl⟩, by decide⟩
theorem iX7_judge_77 : LdI MX7_judge 77 3 78 := Or.inr ⟨3, rfl, by decide +kernel, rfl⟩
theorem iX7_judge_78 : Ins MX7_judge 78 (.ireturn) 1 79 := ⟨by decide +kernel, rfl⟩
theorem iX7_judge_79 : LdA MX7_judge 79 0 80 := Or.inr ⟨0, rfl, by decide +kernel, rfl⟩
theorem iX7_judge_80 : Ins MX7_judge 80 (.iconst 1) 1 81 := ⟨by decide +kernel, rfl⟩
theorem iX7_judge_81 : LdI MX7_judge 81 4 83 := Or.inl ⟨by decide +kernel, rfl⟩
theorem iX7_judge_83 : Ins MX7_judge 83 (.invokevirtual 114) 3 86 := ⟨by decide +kernel, rfl⟩
theorem iX7_judge_86 : Inc MX7_judge 86 3 (1) 89 := ⟨⟨by decide +kernel, rfl⟩, Nat.le_of_ble_eq_true rfl⟩
theorem iX7_judge_89 : Jmp MX7_judge 89 .goto 36 92 := ⟨-53, ⟨by decide +kernel, rfl⟩, by decide⟩
theorem iX7_judge_92 : Ins MX7_judge 92 (.bipush (-9)) 2 94 := ⟨by decide +kernel, rfl⟩
theorem iX7_judge_94 : Ins MX7_judge 94 (.ireturn) 1 95 := ⟨by decide +kernel, rfl⟩
theorem iX7_common_0 : LdL MX7_common 0 0 1 := Or.inr ⟨0, rfl, by decide +kernel, rfl⟩
theorem iX7_common_1 : StL MX7_common 1 4 3 := ⟨Or.inl ⟨by decide +kernel, rfl⟩, Nat.le_of_ble_eq_true rfl⟩
theorem iX7_common_3 : LdL MX7_common 3 2 4 := Or.inr ⟨2, rfl, by decide +kernel, rfl⟩
theorem iX7_common_4 : StL MX7_common 4 6 6 := ⟨Or.inl ⟨by decide +kernel, rfl⟩, Nat.le_of_ble_eq_true rfl⟩
theorem iX7_common_6 : LdL MX7_common 6 6 8 := Or.inl ⟨by decide +kernel, rfl⟩
theorem iX7_common_8 : Ins MX7_common 8 (.lconst 0) 1 9 := ⟨by decide +kernel, rfl⟩
theorem iX7_common_9 : Ins MX7_common 9 (.lcmp) 1 10 := ⟨by decide +kernel, rfl⟩
theorem iX7_common_10 : Jmp MX7_common 10 (.ifCond .eq) 31 13 := ⟨21, ⟨by decide +kernel, rfl⟩, by decide⟩
theorem iX7_common_13 : LdL MX7_common 13 4 15 := Or.inl ⟨by decide +kernel, rfl⟩
theorem iX7_common_15 : LdL MX7_common 15 6 17 := Or.inl ⟨by decide +kernel, rfl⟩
theorem iX7_common_17 : Ins MX7_common 17 (.lrem) 1 18 := ⟨by decide +kernel, rfl⟩
theorem iX7_common_18 : StL MX7_common 18 8 20 := ⟨Or.inl ⟨by decide +kernel, rfl⟩, Nat.le_of_ble_eq_true rfl⟩
theorem iX7_common_20 : LdL MX7_common 20 6 22 := Or.inl ⟨by decide +kernel, rfl⟩
theorem iX7_common_22 : StL MX7_common 22 4 24 := ⟨Or.inl ⟨by decide +kernel, rfl⟩, Nat.le_of_ble_eq_true rfl⟩
theorem iX7_common_24 : LdL MX7_common 24 8 26 := Or.inl ⟨by decide +kernel, rfl⟩
theorem iX7_common_26 : StL MX7_common 26 6 28 := ⟨Or.inl ⟨by decide +kernel, rfl⟩, Nat.le_of_ble_eq_true rfl⟩
theorem iX7_common_28 : Jmp MX7_common 28 .goto 6 31 := ⟨-22, ⟨by decide +kernel, rfl⟩, by decide⟩
theorem iX7_common_31 : LdL MX7_common 31 4 33 := Or.inl ⟨by decide +kernel, rfl⟩
theorem iX7_common_33 : Ins MX7_common 33 (.lreturn) 1 34 := ⟨by decide +kernel, rfl⟩
theorem iX7_clearsOf_0 : Ins MX7_clearsOf 0 (.iconst 0) 1 1 := ⟨by decide +kernel, rfl⟩
theorem iX7_clearsOf_1 : StI MX7_clearsOf 1 2 2 := ⟨Or.inr ⟨2, rfl, by decide +kernel, rfl⟩, Nat.le_of_ble_eq_true rfl⟩
theorem iX7_clearsOf_2 : Ins MX7_clearsOf 2 (.sipush 1000) 3 5 := ⟨by decide +kernel, rfl⟩
theorem iX7_clearsOf_5 : StI MX7_clearsOf 5 3 6 := ⟨Or.inr ⟨3, rfl, by decide +kernel, rfl⟩, Nat.le_of_ble_eq_true rfl⟩
theorem iX7_clearsOf_6 : LdA MX7_clearsOf 6 0 7 := Or.inr ⟨0, rfl, by decide +kernel, rfl⟩
theorem iX7_clearsOf_7 : Ins MX7_clearsOf 7 (.iconst 0) 1 8 := ⟨by decide +kernel, rfl⟩
theorem iX7_clearsOf_8 : LdI MX7_clearsOf 8 1 9 := Or.inr ⟨1, rfl, by decide +kernel, rfl⟩
theorem iX7_clearsOf_9 : Ins MX7_clearsOf 9 (.iconst 0) 1 10 := ⟨by decide +kernel, rfl⟩
theorem iX7_clearsOf_10 : Ins MX7_clearsOf 10 (.invokevirtual 77) 3 13 := ⟨by decide +kernel, rfl⟩
theorem iX7_clearsOf_13 : StI MX7_clearsOf 13 4 15 := ⟨Or.inl ⟨by decide +kernel, rfl⟩, Nat.le_of_ble_eq_true rfl⟩
theorem iX7_clearsOf_15 : LdA MX7_clearsOf 15 0 16 := Or.inr ⟨0, rfl, by decide +kernel, rfl⟩
theorem iX7_clearsOf_16 : Ins MX7_clearsOf 16 (.iconst 0) 1 17 := ⟨by decide +kernel, rfl⟩
theorem iX7_clearsOf_17 : LdI MX7_clearsOf 17 1 18 := Or.inr ⟨1, rfl, by decide +kernel, rfl⟩
theorem iX7_clearsOf_18 : Ins MX7_clearsOf 18 (.iconst 1) 1 19 := ⟨by decide +kernel, rfl⟩
theorem iX7_clearsOf_19 : Ins MX7_clearsOf 19 (.invokevirtual 77) 3 22 := ⟨by decide +kernel, rfl⟩
theorem iX7_clearsOf_22 : StI MX7_clearsOf 22 5 24 := ⟨Or.inl ⟨by decide +kernel, rfl⟩, Nat.le_of_ble_eq_true rfl⟩
theorem iX7_clearsOf_24 : LdI MX7_clearsOf 24 5 26 := Or.inl ⟨by decide +kernel, rfl⟩
theorem iX7_clearsOf_26 : Ins MX7_clearsOf 26 (.iconst 3) 1 27 := ⟨by decide +kernel, rfl⟩
theorem iX7_clearsOf_27 : Jmp MX7_clearsOf 27 (.if_icmp .ge) 75 30 := ⟨48, ⟨by decide +kernel, rfl⟩, by decide⟩
theorem iX7_clearsOf_30 : LdA MX7_clearsOf 30 0 31 := Or.inr ⟨0, rfl, by decide +kernel, rfl⟩
theorem iX7_clearsOf_31 : LdI MX7_clearsOf 31 1 32 := Or.inr ⟨1, rfl, by decide +kernel, rfl⟩
theorem iX7_clearsOf_32 : LdA MX7_clearsOf 32 0 33 := Or.inr ⟨0, rfl, by decide +kernel, rfl⟩
theorem iX7_clearsOf_33 : Ins MX7_clearsOf 33 (.getfield 19) 3 36 := ⟨by decide +kernel, rfl⟩
theorem iX7_clearsOf_36 : Ins MX7_clearsOf 36 (.iconst 0) 1 37 := ⟨by decide +kernel, rfl⟩
theorem iX7_clearsOf_37 : Ins MX7_clearsOf 37 (.iaload) 1 38 := ⟨by decide +kernel, rfl⟩
theorem iX7_clearsOf_38 : LdI MX7_clearsOf 38 4 40 := Or.inl ⟨by decide +kernel, rfl⟩
theorem iX7_clearsOf_40 : Ins MX7_clearsOf 40 (.invokevirtual 94) 3 43 := ⟨by decide +kernel, rfl⟩
theorem iX7_clearsOf_43 : StI MX7_clearsOf 43 6 45 := ⟨Or.inl ⟨by decide +kernel, rfl⟩, Nat.le_of_ble_eq_true rfl⟩
theorem iX7_clearsOf_45 : LdI MX7_clearsOf 45 2 46 := Or.inr ⟨2, rfl, by decide +kernel, rfl⟩
theorem iX7_clearsOf_46 : LdI MX7_clearsOf 46 3 47 := Or.inr ⟨3, rfl, by decide +kernel, rfl⟩
theorem iX7_clearsOf_47 : Ins MX7_clearsOf 47 (.bipush 10) 2 49 := ⟨by decide +kernel, rfl⟩
theorem iX7_clearsOf_49 : Ins MX7_clearsOf 49 (.idiv) 1 50 := ⟨by decide +kernel, rfl⟩
theorem iX7_clearsOf_50 : LdI MX7_clearsOf 50 6 52 := Or.inl ⟨by decide +kernel, rfl⟩
theorem iX7_clearsOf_52 : Ins MX7_clearsOf 52 (.imul) 1 53 := ⟨by decide +kernel, rfl⟩
theorem iX7_clearsOf_53 : Ins MX7_clearsOf 53 (.iadd) 1 54 := ⟨by decide +kernel, rfl⟩
theorem iX7_clearsOf_54 : StI MX7_clearsOf 54 2 55 := ⟨Or.inr ⟨2, rfl, by decide +kernel, rfl⟩, Nat.le_of_ble_eq_true rfl⟩
theorem iX7_clearsOf_55 : LdI MX7_clearsOf 55 3 56 := Or.inr ⟨3, rfl, by decide +kernel, rfl⟩
theorem iX7_clearsOf_56 : Ins MX7_clearsOf 56 (.bipush 10) 2 58 := ⟨by decide +kernel, rfl⟩
theorem iX7_clearsOf_58 : Ins MX7_clearsOf 58 (.idiv) 1 59 := ⟨by decide +kernel, rfl⟩
theorem iX7_clearsOf_59 : Ins MX7_clearsOf 59 (.bipush 10) 2 61 := ⟨by decide +kernel, rfl⟩
theorem iX7_clearsOf_61 : LdI MX7_clearsOf 61 6 63 := Or.inl ⟨by decide +kernel, rfl⟩
theorem iX7_clearsOf_63 : Ins MX7_clearsOf 63 (.isub) 1 64 := ⟨by decide +kernel, rfl⟩
theorem iX7_clearsOf_64 : Ins MX7_clearsOf 64 (.imul) 1 65 := ⟨by decide +kernel, rfl⟩
theorem iX7_clearsOf_65 : StI MX7_clearsOf 65 3 66 := ⟨Or.inr ⟨3, rfl, by decide +kernel, rfl⟩, Nat.le_of_ble_eq_true rfl⟩
theorem iX7_clearsOf_66 : Inc MX7_clearsOf 66 4 (1) 69 := ⟨⟨by decide +kernel, rfl⟩, Nat.le_of_ble_eq_true rfl⟩
theorem iX7_clearsOf_69 : Inc MX7_clearsOf 69 5 (1) 72 := ⟨⟨by decide +kernel, rfl⟩, Nat.le_of_ble_eq_true rfl⟩
theorem iX7_clearsOf_72 : Jmp MX7_clearsOf 72 .goto 24 75 := ⟨-48, ⟨by decide +kernel, rfl⟩, by decide⟩
theorem iX7_clearsOf_75 : LdI MX7_clearsOf 75 2 76 := Or.inr ⟨2, rfl, by decide +kernel, rfl⟩
theorem iX7_clearsOf_76 : Ins MX7_clearsOf 76 (.ireturn) 1 77 := ⟨by decide +kernel, rfl⟩
theorem iX7_isOut_0 : LdA MX7_isOut 0 0 1 := Or.inr ⟨0, rfl, by decide +kernel, rfl⟩
theorem iX7_isOut_1 : Ins MX7_isOut 1 (.iconst 0) 1 2 := ⟨by decide +kernel, rfl⟩
theorem iX7_isOut_2 : LdI MX7_isOut 2 1 3 := Or.inr ⟨1, rfl, by decide +kernel, rfl⟩
theorem iX7_isOut_3 : Ins MX7_isOut 3 (.iconst 5) 1 4 := ⟨by decide +kernel, rfl⟩
theorem iX7_isOut_4 : Ins MX7_isOut 4 (.invokevirtual 77) 3 7 := ⟨by decide +kernel, rfl⟩
theorem iX7_isOut_7 : Ins MX7_isOut 7 (.iconst 3) 1 8 := ⟨by decide +kernel, rfl⟩
theorem iX7_isOut_8 : Jmp MX7_isOut 8 (.if_icmp .ne) 15 11 := ⟨7, ⟨by decide +kernel, rfl⟩, by decide⟩
theorem iX7_isOut_11 : Ins MX7_isOut 11 (.iconst 1) 1 12 := ⟨by decide +kernel, rfl⟩
theorem iX7_isOut_12 : Jmp MX7_isOut 12 .goto 16 15 := ⟨4, ⟨by decide +kernel, rfl⟩, by decide⟩
theorem iX7_isOut_15 : Ins MX7_isOut 15 (.iconst 0) 1 16 := ⟨by decide +kernel, rfl⟩
theorem iX7_isOut_16 : Ins MX7_isOut 16 (.ireturn) 1 17 := ⟨by decide +kernel, rfl⟩
theorem iX7_clears_0 : LdA MX7_clears 0 0 1 := Or.inr ⟨0, rfl, by decide +kernel, rfl⟩
theorem iX7_clears_1 : LdI MX7_clears 1 1 2 := Or.inr ⟨1, rfl, by decide +kernel, rfl⟩
theorem iX7_clears_2 : Ins MX7_clears 2 (.invokevirtual 74) 3 5 := ⟨by decide +kernel, rfl⟩
theorem iX7_clears_5 : Jmp MX7_clears 5 (.ifCond .ne) 10 8 := ⟨5, ⟨by decide +kernel, rfl⟩, by decide⟩
theorem iX7_clears_8 : Ins MX7_clears 8 (.iconst (-1)) 1 9 := ⟨by decide +kernel, rfl⟩
theorem iX7_clears_9 : Ins MX7_clears 9 (.ireturn) 1 10 := ⟨by decide +kernel, rfl⟩
theorem iX7_clears_10 : LdA MX7_clears 10 0 11 := Or.inr ⟨0, rfl, by decide +kernel, rfl⟩
theorem iX7_clears_11 : LdI MX7_clears 11 1 12 := Or.inr ⟨1, rfl, by decide +kernel, rfl⟩
theorem iX7_clears_12 : Ins MX7_clears 12 (.invokevirtual 131) 3 15 := ⟨by decide +kernel, rfl⟩
theorem iX7_clears_15 : Jmp MX7_clears 15 (.ifCond .eq) 21 18 := ⟨6, ⟨by decide +kernel, rfl⟩, by decide⟩
theorem iX7_clears_18 : Ins MX7_clears 18 (.bipush (-3)) 2 20 := ⟨by decide +kernel, rfl⟩
theorem iX7_clears_20 : Ins MX7_clears 20 (.ireturn) 1 21 := ⟨by decide +kernel, rfl⟩
theorem iX7_clears_21 : LdA MX7_clears 21 0 22 := Or.inr ⟨0, rfl, by decide +kernel, rfl⟩
theorem iX7_clears_22 : LdI MX7_clears 22 1 23 := Or.inr ⟨1, rfl, by decide +kernel, rfl⟩
theorem iX7_clears_23 : Ins MX7_clears 23 (.invokevirtual 134) 3 26 := ⟨by decide +kernel, rfl⟩
theorem iX7_clears_26 : StI MX7_clears 26 3 27 := ⟨Or.inr ⟨3, rfl, by decide +kernel, rfl⟩, Nat.le_of_ble_eq_true rfl⟩
theorem iX7_clears_27 : LdI MX7_clears 27 3 28 := Or.inr ⟨3, rfl, by decide +kernel, rfl⟩
theorem iX7_clears_28 : Ins MX7_clears 28 (.i2l) 1 29 := ⟨by decide +kernel, rfl⟩
theorem iX7_clears_29 : Ins MX7_clears 29 (.ldc2_w 137) 3 32 := ⟨by decide +kernel, rfl⟩
theorem iX7_clears_32 : Ins MX7_clears 32 (.invokestatic 139) 3 35 := ⟨by decide +kernel, rfl⟩
theorem iX7_clears_35 : Ins MX7_clears 35 (.l2i) 1 36 := ⟨by decide +kernel, rfl⟩
theorem iX7_clears_36 : StI MX7_clears 36 4 38 := ⟨Or.inl ⟨by decide +kernel, rfl⟩, Nat.le_of_ble_eq_true rfl⟩
theorem iX7_clears_38 : LdI MX7_clears 38 2 39 := Or.inr ⟨2, rfl, by decide +kernel, rfl⟩
theorem iX7_clears_39 : Jmp MX7_clears 39 (.ifCond .eq) 49 42 := ⟨10, ⟨by decide +kernel, rfl⟩, by decide⟩
theorem iX7_clears_42 : LdI MX7_clears 42 3 43 := Or.inr ⟨3, rfl, by decide +kernel, rfl⟩
theorem iX7_clears_43 : LdI MX7_clears 43 4 45 := Or.inl ⟨by decide +kernel, rfl⟩
theorem iX7_clears_45 : Ins MX7_clears 45 (.idiv) 1 46 := ⟨by decide +kernel, rfl⟩
theorem iX7_clears_46 : Jmp MX7_clears 46 .goto 55 49 := ⟨9, ⟨by decide +kernel, rfl⟩, by decide⟩
theorem iX7_clears_49 : Ins MX7_clears 49 (.sipush 1000) 3 52 := ⟨by decide +kernel, rfl⟩
theorem iX7_clears_52 : LdI MX7_clears 52 4 54 := Or.inl ⟨by decide +kernel, rfl⟩
theorem iX7_clears_54 : Ins MX7_clears 54 (.idiv) 1 55 := ⟨by decide +kernel, rfl⟩
theorem iX7_clears_55 : Ins MX7_clears 55 (.ireturn) 1 56 := ⟨by decide +kernel, rfl⟩
theorem iX7_place_0 : LdI MX7_place 0 0 1 := Or.inr ⟨0, rfl, by decide +kernel, rfl⟩
theorem iX7_place_1 : Ins MX7_place 1 (.iconst 3) 1 2 := ⟨by decide +kernel, rfl⟩
theorem iX7_place_2 : Ins MX7_place 2 (.imul) 1 3 := ⟨by decide +kernel, rfl⟩
theorem iX7_place_3 : LdI MX7_place 3 1 4 := Or.inr ⟨1, rfl, by decide +kernel, rfl⟩
theorem iX7_place_4 : Ins MX7_place 4 (.iadd) 1 5 := ⟨by decide +kernel, rfl⟩
theorem iX7_place_5 : Ins MX7_place 5 (.bipush 16) 2 7 := ⟨by decide +kernel, rfl⟩
theorem iX7_place_7 : Ins MX7_place 7 (.imul) 1 8 := ⟨by decide +kernel, rfl⟩
theorem iX7_place_8 : LdI MX7_place 8 2 9 := Or.inr ⟨2, rfl, by decide +kernel, rfl⟩
theorem iX7_place_9 : Ins MX7_place 9 (.iadd) 1 10 := ⟨by decide +kernel, rfl⟩
theorem iX7_place_10 : Ins MX7_place 10 (.iconst 5) 1 11 := ⟨by decide +kernel, rfl⟩
theorem iX7_place_11 : Ins MX7_place 11 (.imul) 1 12 := ⟨by decide +kernel, rfl⟩
theorem iX7_place_12 : LdI MX7_place 12 3 13 := Or.inr ⟨3, rfl, by decide +kernel, rfl⟩
theorem iX7_place_13 : Ins MX7_place 13 (.iadd) 1 14 := ⟨by decide +kernel, rfl⟩
theorem iX7_place_14 : Ins MX7_place 14 (.ireturn) 1 15 := ⟨by decide +kernel, rfl⟩
theorem iX7_layMeans_0 : Ins MX7_layMeans 0 (.iconst 0) 1 1 := ⟨by decide +kernel, rfl⟩
theorem iX7_layMeans_1 : StI MX7_layMeans 1 3 2 := ⟨Or.inr ⟨3, rfl, by decide +kernel, rfl⟩, Nat.le_of_ble_eq_true rfl⟩
theorem iX7_layMeans_2 : LdI MX7_layMeans 2 3 3 := Or.inr ⟨3, rfl, by decide +kernel, rfl⟩
theorem iX7_layMeans_3 : Ins MX7_layMeans 3 (.iconst 3) 1 4 := ⟨by decide +kernel, rfl⟩
theorem iX7_layMeans_4 : Jmp MX7_layMeans 4 (.if_icmp .ge) 54 7 := ⟨50, ⟨by decide +kernel, rfl⟩, by decide⟩
theorem iX7_layMeans_7 : Ins MX7_layMeans 7 (.iconst 0) 1 8 := ⟨by decide +kernel, rfl⟩
theorem iX7_layMeans_8 : StI MX7_layMeans 8 4 10 := ⟨Or.inl ⟨by decide +kernel, rfl⟩, Nat.le_of_ble_eq_true rfl⟩
theorem iX7_layMeans_10 : LdI MX7_layMeans 10 4 12 := Or.inl ⟨by decide +kernel, rfl⟩
theorem iX7_layMeans_12 : Ins MX7_layMeans 12 (.bipush 80) 2 14 := ⟨by decide +kernel, rfl⟩
theorem iX7_layMeans_14 : Jmp MX7_layMeans 14 (.if_icmp .ge) 48 17 := ⟨34, ⟨by decide +kernel, rfl⟩, by decide⟩
theorem iX7_layMeans_17 : LdA MX7_layMeans 17 0 18 := Or.inr ⟨0, rfl, by decide +kernel, rfl⟩
theorem iX7_layMeans_18 : Ins MX7_layMeans 18 (.getfield 25) 3 21 := ⟨by decide +kernel, rfl⟩
theorem iX7_layMeans_21 : LdI MX7_layMeans 21 2 22 := Or.inr ⟨2, rfl, by decide +kernel, rfl⟩
theorem iX7_layMeans_22 : LdI MX7_layMeans 22 3 23 := Or.inr ⟨3, rfl, by decide +kernel, rfl⟩
theorem iX7_layMeans_23 : Ins MX7_layMeans 23 (.iconst 0) 1 24 := ⟨by decide +kernel, rfl⟩
theorem iX7_layMeans_24 : Ins MX7_layMeans 24 (.iconst 0) 1 25 := ⟨by decide +kernel, rfl⟩
theorem iX7_layMeans_25 : Ins MX7_layMeans 25 (.invokestatic 143) 3 28 := ⟨by decide +kernel, rfl⟩
theorem iX7_layMeans_28 : LdI MX7_layMeans 28 4 30 := Or.inl ⟨by decide +kernel, rfl⟩
theorem iX7_layMeans_30 : Ins MX7_layMeans 30 (.iadd) 1 31 := ⟨by decide +kernel, rfl⟩
theorem iX7_layMeans_31 : LdI MX7_layMeans 31 4 33 := Or.inl ⟨by decide +kernel, rfl⟩
theorem iX7_layMeans_33 : Ins MX7_layMeans 33 (.iconst 5) 1 34 := ⟨by decide +kernel, rfl⟩
theorem iX7_layMeans_34 : Ins MX7_layMeans 34 (.irem) 1 35 := ⟨by decide +kernel, rfl⟩
theorem iX7_layMeans_35 : Ins MX7_layMeans 35 (.i2l) 1 36 := ⟨by decide +kernel, rfl⟩
theorem iX7_layMeans_36 : Ins MX7_layMeans 36 (.iconst 0) 1 37 := ⟨by decide +kernel, rfl⟩
theorem iX7_layMeans_37 : Ins MX7_layMeans 37 (.invokestatic 124) 3 40 := ⟨by decide +kernel, rfl⟩
theorem iX7_layMeans_40 : Ins MX7_layMeans 40 (.lmul) 1 41 := ⟨by decide +kernel, rfl⟩
theorem iX7_layMeans_41 : Ins MX7_layMeans 41 (.lastore) 1 42 := ⟨by decide +kernel, rfl⟩
theorem iX7_layMeans_42 : Inc MX7_layMeans 42 4 (1) 45 := ⟨⟨by decide +kernel, rfl⟩, Nat.le_of_ble_eq_true rfl⟩
theorem iX7_layMeans_45 : Jmp MX7_layMeans 45 .goto 10 48 := ⟨-35, ⟨by decide +kernel, rfl⟩, by decide⟩
theorem iX7_layMeans_48 : Inc MX7_layMeans 48 3 (1) 51 := ⟨⟨by decide +kernel, rfl⟩, Nat.le_of_ble_eq_true rfl⟩
theorem iX7_layMeans_51 : Jmp MX7_layMeans 51 .goto 2 54 := ⟨-49, ⟨by decide +kernel, rfl⟩, by decide⟩
theorem iX7_layMeans_54 : LdI MX7_layMeans 54 2 55 := Or.inr ⟨2, rfl, by decide +kernel, rfl⟩
theorem iX7_layMeans_55 : Ins MX7_layMeans 55 (.iconst 1) 1 56 := ⟨by decide +kernel, rfl⟩
theorem iX7_layMeans_56 : Ins MX7_layMeans 56 (.isub) 1 57 := ⟨by decide +kernel, rfl⟩
theorem iX7_layMeans_57 : StI MX7_layMeans 57 3 58 := ⟨Or.inr ⟨3, rfl, by decide +kernel, rfl⟩, Nat.le_of_ble_eq_true rfl⟩
theorem iX7_layMeans_58 : LdI MX7_layMeans 58 3 59 := Or.inr ⟨3, rfl, by decide +kernel, rfl⟩
theorem iX7_layMeans_59 : Jmp MX7_layMeans 59 (.ifCond .lt) 109 62 := ⟨50, ⟨by decide +kernel, rfl⟩, by decide⟩
theorem iX7_layMeans_62 : Ins MX7_layMeans 62 (.iconst 2) 1 63 := ⟨by decide +kernel, rfl⟩
theorem iX7_layMeans_63 : StI MX7_layMeans 63 4 65 := ⟨Or.inl ⟨by decide +kernel, rfl⟩, Nat.le_of_ble_eq_true rfl⟩
theorem iX7_layMeans_65 : LdI MX7_layMeans 65 4 67 := Or.inl ⟨by decide +kernel, rfl⟩
theorem iX7_layMeans_67 : Jmp MX7_layMeans 67 (.ifCond .lt) 103 70 := ⟨36, ⟨by decide +kernel, rfl⟩, by decide⟩
theorem iX7_layMeans_70 : Ins MX7_layMeans 70 (.iconst 0) 1 71 := ⟨by decide +kernel, rfl⟩
theorem iX7_layMeans_71 : StI MX7_layMeans 71 5 73 := ⟨Or.inl ⟨by decide +kernel, rfl⟩, Nat.le_of_ble_eq_true rfl⟩
theorem iX7_layMeans_73 : LdI MX7_layMeans 73 5 75 := Or.inl ⟨by decide +kernel, rfl⟩
theorem iX7_layMeans_75 : Ins MX7_layMeans 75 (.bipush 15) 2 77 := ⟨by decide +kernel, rfl⟩
theorem iX7_layMeans_77 : Jmp MX7_layMeans 77 (.if_icmp .ge) 97 80 := ⟨20, ⟨by decide +kernel, rfl⟩, by decide⟩
theorem iX7_layMeans_80 : LdA MX7_layMeans 80 0 81 := Or.inr ⟨0, rfl, by decide +kernel, rfl⟩
theorem iX7_layMeans_81 : LdI MX7_layMeans 81 1 82 := Or.inr ⟨1, rfl, by decide +kernel, rfl⟩
theorem iX7_layMeans_82 : LdI MX7_layMeans 82 2 83 := Or.inr ⟨2, rfl, by decide +kernel, rfl⟩
theorem iX7_layMeans_83 : LdI MX7_layMeans 83 3 84 := Or.inr ⟨3, rfl, by decide +kernel, rfl⟩
theorem iX7_layMeans_84 : LdI MX7_layMeans 84 4 86 := Or.inl ⟨by decide +kernel, rfl⟩
theorem iX7_layMeans_86 : LdI MX7_layMeans 86 5 88 := Or.inl ⟨by decide +kernel, rfl⟩
theorem iX7_layMeans_88 : Ins MX7_layMeans 88 (.invokevirtual 147) 3 91 := ⟨by decide +kernel, rfl⟩
theorem iX7_layMeans_91 : Inc MX7_layMeans 91 5 (1) 94 := ⟨⟨by decide +kernel, rfl⟩, Nat.le_of_ble_eq_true rfl⟩
theorem iX7_layMeans_94 : Jmp MX7_layMeans 94 .goto 73 97 := ⟨-21, ⟨by decide +kernel, rfl⟩, by decide⟩
theorem iX7_layMeans_97 : Inc MX7_layMeans 97 4 (-1) 100 := ⟨⟨by decide +kernel, rfl⟩, Nat.le_of_ble_eq_true rfl⟩
theorem iX7_layMeans_100 : Jmp MX7_layMeans 100 .goto 65 103 := ⟨-35, ⟨by decide +kernel, rfl⟩, by decide⟩
theorem iX7_layMeans_103 : Inc MX7_layMeans 103 3 (-1) 106 := ⟨⟨by decide +kernel, rfl⟩, Nat.le_of_ble_eq_true rfl⟩
theorem iX7_layMeans_106 : Jmp MX7_layMeans 106 .goto 58 109 := ⟨-48, ⟨by decide +kernel, rfl⟩, by decide⟩
theorem iX7_layMeans_109 : Ins MX7_layMeans 109 (.return_) 1 110 := ⟨by decide +kernel, rfl⟩
theorem iX7_layMean_0 : LdA MX7_layMean 0 0 1 := Or.inr ⟨0, rfl, by decide +kernel, rfl⟩
theorem iX7_layMean_1 : LdI MX7_layMean 1 1 2 := Or.inr ⟨1, rfl, by decide +kernel, rfl⟩
theorem iX7_layMean_2 : LdA MX7_layMean 2 0 3 := Or.inr ⟨0, rfl, by decide +kernel, rfl⟩
theorem iX7_layMean_3 : Ins MX7_layMean 3 (.getfield 19) 3 6 := ⟨by decide +kernel, rfl⟩
theorem iX7_layMean_6 : Ins MX7_layMean 6 (.iconst 0) 1 7 := ⟨by decide +kernel, rfl⟩
theorem iX7_layMean_7 : Ins MX7_layMean 7 (.iaload) 1 8 := ⟨by decide +kernel, rfl⟩
theorem iX7_layMean_8 : LdI MX7_layMean 8 3 9 := Or.inr ⟨3, rfl, by decide +kernel, rfl⟩
theorem iX7_layMean_9 : Ins MX7_layMean 9 (.iadd) 1 10 := ⟨by decide +kernel, rfl⟩
theorem iX7_layMean_10 : LdA MX7_layMean 10 0 11 := Or.inr ⟨0, rfl, by decide +kernel, rfl⟩
theorem iX7_layMean_11 : Ins MX7_layMean 11 (.iconst 0) 1 12 := ⟨by decide +kernel, rfl⟩
theorem iX7_layMean_12 : LdI MX7_layMean 12 1 13 := Or.inr ⟨1, rfl, by decide +kernel, rfl⟩
theorem iX7_layMean_13 : Ins MX7_layMean 13 (.iconst 0) 1 14 := ⟨by decide +kernel, rfl⟩
theorem iX7_layMean_14 : Ins MX7_layMean 14 (.invokevirtual 77) 3 17 := ⟨by decide +kernel, rfl⟩
theorem iX7_layMean_17 : LdI MX7_layMean 17 5 19 := Or.inl ⟨by decide +kernel, rfl⟩
theorem iX7_layMean_19 : Ins MX7_layMean 19 (.iadd) 1 20 := ⟨by decide +kernel, rfl⟩
theorem iX7_layMean_20 : Ins MX7_layMean 20 (.invokevirtual 94) 3 23 := ⟨by decide +kernel, rfl⟩
theorem iX7_layMean_23 : StI MX7_layMean 23 6 25 := ⟨Or.inl ⟨by decide +kernel, rfl⟩, Nat.le_of_ble_eq_true rfl⟩
theorem iX7_layMean_25 : Ins MX7_layMean 25 (.iconst 3) 1 26 := ⟨by decide +kernel, rfl⟩
theorem iX7_layMean_26 : LdI MX7_layMean 26 2 27 := Or.inr ⟨2, rfl, by decide +kernel, rfl⟩
theorem iX7_layMean_27 : LdI MX7_layMean 27 3 28 := Or.inr ⟨3, rfl, by decide +kernel, rfl⟩
theorem iX7_layMean_28 : Ins MX7_layMean 28 (.isub) 1 29 := ⟨by decide +kernel, rfl⟩
theorem iX7_layMean_29 : Ins MX7_layMean 29 (.imul) 1 30 := ⟨by decide +kernel, rfl⟩
theorem iX7_layMean_30 : LdI MX7_layMean 30 4 32 := Or.inl ⟨by decide +kernel, rfl⟩
theorem iX7_layMean_32 : Ins MX7_layMean 32 (.isub) 1 33 := ⟨by decide +kernel, rfl⟩
theorem iX7_layMean_33 : StI MX7_layMean 33 7 35 := ⟨Or.inl ⟨by decide +kernel, rfl⟩, Nat.le_of_ble_eq_true rfl⟩
theorem iX7_layMean_35 : Ins MX7_layMean 35 (.iconst 0) 1 36 := ⟨by decide +kernel, rfl⟩
theorem iX7_layMean_36 : StI MX7_layMean 36 8 38 := ⟨Or.inl ⟨by decide +kernel, rfl⟩, Nat.le_of_ble_eq_true rfl⟩
theorem iX7_layMean_38 : LdI MX7_layMean 38 8 40 := Or.inl ⟨by decide +kernel, rfl⟩
theorem iX7_layMean_40 : LdI MX7_layMean 40 2 41 := Or.inr ⟨2, rfl, by decide +kernel, rfl⟩
theorem iX7_layMean_41 : Jmp MX7_layMean 41 (.if_icmp .gt) 222 44 := ⟨181, ⟨by decide +kernel, rfl⟩, by decide⟩
theorem iX7_layMean_44 : LdI MX7_layMean 44 4 46 := Or.inl ⟨by decide +kernel, rfl⟩
theorem iX7_layMean_46 : Ins MX7_layMean 46 (.iconst 2) 1 47 := ⟨by decide +kernel, rfl⟩
theorem iX7_layMean_47 : Jmp MX7_layMean 47 (.if_icmp .ne) 64 50 := ⟨17, ⟨by decide +kernel, rfl⟩, by decide⟩
theorem iX7_layMean_50 : LdI MX7_layMean 50 8 52 := Or.inl ⟨by decide +kernel, rfl⟩
theorem iX7_layMean_52 : Ins MX7_layMean 52 (.i2l) 1 53 := ⟨by decide +kernel, rfl⟩
theorem iX7_layMean_53 : LdI MX7_layMean 53 7 55 := Or.inl ⟨by decide +kernel, rfl⟩
theorem iX7_layMean_55 : Ins MX7_layMean 55 (.iconst 1) 1 56 := ⟨by decide +kernel, rfl⟩
theorem iX7_layMean_56 : Ins MX7_layMean 56 (.isub) 1 57 := ⟨by decide +kernel, rfl⟩
theorem iX7_layMean_57 : Ins MX7_layMean 57 (.invokestatic 124) 3 60 := ⟨by decide +kernel, rfl⟩
theorem iX7_layMean_60 : Ins MX7_layMean 60 (.lmul) 1 61 := ⟨by decide +kernel, rfl⟩
theorem iX7_layMean_61 : Jmp MX7_layMean 61 .goto 83 64 := ⟨22, ⟨by decide +kernel, rfl⟩, by decide⟩
theorem iX7_layMean_64 : LdA MX7_layMean 64 0 65 := Or.inr ⟨0, rfl, by decide +kernel, rfl⟩
theorem iX7_layMean_65 : Ins MX7_layMean 65 (.getfield 25) 3 68 := ⟨by decide +kernel, rfl⟩
theorem iX7_layMean_68 : LdI MX7_layMean 68 3 69 := Or.inr ⟨3, rfl, by decide +kernel, rfl⟩
theorem iX7_layMean_69 : LdI MX7_layMean 69 4 71 := Or.inl ⟨by decide +kernel, rfl⟩
theorem iX7_layMean_71 : Ins MX7_layMean 71 (.iconst 1) 1 72 := ⟨by decide +kernel, rfl⟩
theorem iX7_layMean_72 : Ins MX7_layMean 72 (.iadd) 1 73 := ⟨by decide +kernel, rfl⟩
theorem iX7_layMean_73 : LdI MX7_layMean 73 5 75 := Or.inl ⟨by decide +kernel, rfl⟩
theorem iX7_layMean_75 : Ins MX7_layMean 75 (.iconst 1) 1 76 := ⟨by decide +kernel, rfl⟩
theorem iX7_layMean_76 : Ins MX7_layMean 76 (.iadd) 1 77 := ⟨by decide +kernel, rfl⟩
theorem iX7_layMean_77 : LdI MX7_layMean 77 8 79 := Or.inl ⟨by decide +kernel, rfl⟩
theorem iX7_layMean_79 : Ins MX7_layMean 79 (.invokestatic 143) 3 82 := ⟨by decide +kernel, rfl⟩
theorem iX7_layMean_82 : Ins MX7_layMean 82 (.laload) 1 83 := ⟨by decide +kernel, rfl⟩
theorem iX7_layMean_83 : StL MX7_layMean 83 9 85 := ⟨Or.inl ⟨by decide +kernel, rfl⟩, Nat.le_of_ble_eq_true rfl⟩
theorem iX7_layMean_85 : LdA MX7_layMean 85 0 86 := Or.inr ⟨0, rfl, by decide +kernel, rfl⟩
theorem iX7_layMean_86 : Ins MX7_layMean 86 (.getfield 25) 3 89 := ⟨by decide +kernel, rfl⟩
theorem iX7_layMean_89 : LdI MX7_layMean 89 3 90 := Or.inr ⟨3, rfl, by decide +kernel, rfl⟩
theorem iX7_layMean_90 : Ins MX7_layMean 90 (.iconst 1) 1 91 := ⟨by decide +kernel, rfl⟩
theorem iX7_layMean_91 : Ins MX7_layMean 91 (.iadd) 1 92 := ⟨by decide +kernel, rfl⟩
theorem iX7_layMean_92 : Ins MX7_layMean 92 (.iconst 0) 1 93 := ⟨by decide +kernel, rfl⟩
theorem iX7_layMean_93 : LdI MX7_layMean 93 5 95 := Or.inl ⟨by decide +kernel, rfl⟩
theorem iX7_layMean_95 : Ins MX7_layMean 95 (.iconst 1) 1 96 := ⟨by decide +kernel, rfl⟩
theorem iX7_layMean_96 : Ins MX7_layMean 96 (.iadd) 1 97 := ⟨by decide +kernel, rfl⟩
theorem iX7_layMean_97 : LdI MX7_layMean 97 3 98 := Or.inr ⟨3, rfl, by decide +kernel, rfl⟩
theorem iX7_layMean_98 : Ins MX7_layMean 98 (.iconst 1) 1 99 := ⟨by decide +kernel, rfl⟩
theorem iX7_layMean_99 : Ins MX7_layMean 99 (.iadd) 1 100 := ⟨by decide +kernel, rfl⟩
theorem iX7_layMean_100 : Ins MX7_layMean 100 (.invokestatic 143) 3 103 := ⟨by decide +kernel, rfl⟩
theorem iX7_layMean_103 : Ins MX7_layMean 103 (.laload) 1 104 := ⟨by decide +kernel, rfl⟩
theorem iX7_layMean_104 : Ins MX7_layMean 104 (.iconst 2) 1 105 := ⟨by decide +kernel, rfl⟩
theorem iX7_layMean_105 : LdI MX7_layMean 105 4 107 := Or.inl ⟨by decide +kernel, rfl⟩
theorem iX7_layMean_107 : Ins MX7_layMean 107 (.isub) 1 108 := ⟨by decide +kernel, rfl⟩
theorem iX7_layMean_108 : Ins MX7_layMean 108 (.invokestatic 124) 3 111 := ⟨by decide +kernel, rfl⟩
theorem iX7_layMean_111 : Ins MX7_layMean 111 (.lmul) 1 112 := ⟨by decide +kernel, rfl⟩
theorem iX7_layMean_112 : StL MX7_layMean 112 11 114 := ⟨Or.inl ⟨by decide +kernel, rfl⟩, Nat.le_of_ble_eq_true rfl⟩
theorem iX7_layMean_114 : LdA MX7_layMean 114 0 115 := Or.inr ⟨0, rfl, by decide +kernel, rfl⟩
theorem iX7_layMean_115 : LdL MX7_layMean 115 11 117 := Or.inl ⟨by decide +kernel, rfl⟩
theorem iX7_layMean_117 : LdI MX7_layMean 117 6 119 := Or.inl ⟨by decide +kernel, rfl⟩
theorem iX7_layMean_119 : Ins MX7_layMean 119 (.i2l) 1 120 := ⟨by decide +kernel, rfl⟩
theorem iX7_layMean_120 : Ins MX7_layMean 120 (.lmul) 1 121 := ⟨by decide +kernel, rfl⟩
theorem iX7_layMean_121 : LdL MX7_layMean 121 9 123 := Or.inl ⟨by decide +kernel, rfl⟩
theorem iX7_layMean_123 : Ins MX7_layMean 123 (.bipush 10) 2 125 := ⟨by decide +kernel, rfl⟩
theorem iX7_layMean_125 : LdI MX7_layMean 125 6 127 := Or.inl ⟨by decide +kernel, rfl⟩
theorem iX7_layMean_127 : Ins MX7_layMean 127 (.isub) 1 128 := ⟨by decide +kernel, rfl⟩
theorem iX7_layMean_128 : Ins MX7_layMean 128 (.i2l) 1 129 := ⟨by decide +kernel, rfl⟩
theorem iX7_layMean_129 : Ins MX7_layMean 129 (.lmul) 1 130 := ⟨by decide +kernel, rfl⟩
theorem iX7_layMean_130 : Ins MX7_layMean 130 (.ladd) 1 131 := ⟨by decide +kernel, rfl⟩
theorem iX7_layMean_131 : Ins MX7_layMean 131 (.putfield 151) 3 134 := ⟨by decide +kernel, rfl⟩
theorem iX7_layMean_134 : LdA MX7_layMean 134 0 135 := Or.inr ⟨0, rfl, by decide +kernel, rfl⟩
theorem iX7_layMean_135 : LdI MX7_layMean 135 3 136 := Or.inr ⟨3, rfl, by decide +kernel, rfl⟩
theorem iX7_layMean_136 : LdI MX7_layMean 136 2 137 := Or.inr ⟨2, rfl, by decide +kernel, rfl⟩
theorem iX7_layMean_137 : Ins MX7_layMean 137 (.iconst 1) 1 138 := ⟨by decide +kernel, rfl⟩
theorem iX7_layMean_138 : Ins MX7_layMean 138 (.isub) 1 139 := ⟨by decide +kernel, rfl⟩
theorem iX7_layMean_139 : Jmp MX7_layMean 139 (.if_icmp .ne) 154 142 := ⟨15, ⟨by decide +kernel, rfl⟩, by decide⟩
theorem iX7_layMean_142 : LdI MX7_layMean 142 8 144 := Or.inl ⟨by decide +kernel, rfl⟩
theorem iX7_layMean_144 : Ins MX7_layMean 144 (.i2l) 1 145 := ⟨by decide +kernel, rfl⟩
theorem iX7_layMean_145 : LdI MX7_layMean 145 7 147 := Or.inl ⟨by decide +kernel, rfl⟩
theorem iX7_layMean_147 : Ins MX7_layMean 147 (.invokestatic 124) 3 150 := ⟨by decide +kernel, rfl⟩
theorem iX7_layMean_150 : Ins MX7_layMean 150 (.lmul) 1 151 := ⟨by decide +kernel, rfl⟩
theorem iX7_layMean_151 : Jmp MX7_layMean 151 .goto 175 154 := ⟨24, ⟨by decide +kernel, rfl⟩, by decide⟩
theorem iX7_layMean_154 : LdA MX7_layMean 154 0 155 := Or.inr ⟨0, rfl, by decide +kernel, rfl⟩
theorem iX7_layMean_155 : Ins MX7_layMean 155 (.getfield 25) 3 158 := ⟨by decide +kernel, rfl⟩
theorem iX7_layMean_158 : LdI MX7_layMean 158 3 159 := Or.inr ⟨3, rfl, by decide +kernel, rfl⟩
theorem iX7_layMean_159 : Ins MX7_layMean 159 (.iconst 1) 1 160 := ⟨by decide +kernel, rfl⟩
theorem iX7_layMean_160 : Ins MX7_layMean 160 (.iadd) 1 161 := ⟨by decide +kernel, rfl⟩
theorem iX7_layMean_161 : LdI MX7_layMean 161 4 163 := Or.inl ⟨by decide +kernel, rfl⟩
theorem iX7_layMean_163 : LdI MX7_layMean 163 5 165 := Or.inl ⟨by decide +kernel, rfl⟩
theorem iX7_layMean_165 : LdI MX7_layMean 165 8 167 := Or.inl ⟨by decide +kernel, rfl⟩
theorem iX7_layMean_167 : Ins MX7_layMean 167 (.invokestatic 143) 3 170 := ⟨by decide +kernel, rfl⟩
theorem iX7_layMean_170 : Ins MX7_layMean 170 (.laload) 1 171 := ⟨by decide +kernel, rfl⟩
theorem iX7_layMean_171 : Ins MX7_layMean 171 (.ldc2_w 137) 3 174 := ⟨by decide +kernel, rfl⟩
theorem iX7_layMean_174 : Ins MX7_layMean 174 (.lmul) 1 175 := ⟨by decide +kernel, rfl⟩
theorem iX7_layMean_175 : Ins MX7_layMean 175 (.putfield 155) 3 178 := ⟨by decide +kernel, rfl⟩
theorem iX7_layMean_178 : LdA MX7_layMean 178 0 179 := Or.inr ⟨0, rfl, by decide +kernel, rfl⟩
theorem iX7_layMean_179 : Ins MX7_layMean 179 (.getfield 25) 3 182 := ⟨by decide +kernel, rfl⟩
theorem iX7_layMean_182 : LdI MX7_layMean 182 3 183 := Or.inr ⟨3, rfl, by decide +kernel, rfl⟩
theorem iX7_layMean_183 : LdI MX7_layMean 183 4 185 := Or.inl ⟨by decide +kernel, rfl⟩
theorem iX7_layMean_185 : LdI MX7_layMean 185 5 187 := Or.inl ⟨by decide +kernel, rfl⟩
theorem iX7_layMean_187 : LdI MX7_layMean 187 8 189 := Or.inl ⟨by decide +kernel, rfl⟩
theorem iX7_layMean_189 : Ins MX7_layMean 189 (.invokestatic 143) 3 192 := ⟨by decide +kernel, rfl⟩
theorem iX7_layMean_192 : LdA MX7_layMean 192 0 193 := Or.inr ⟨0, rfl, by decide +kernel, rfl⟩
theorem iX7_layMean_193 : Ins MX7_layMean 193 (.getfield 151) 3 196 := ⟨by decide +kernel, rfl⟩
theorem iX7_layMean_196 : LdA MX7_layMean 196 0 197 := Or.inr ⟨0, rfl, by decide +kernel, rfl⟩
theorem iX7_layMean_197 : Ins MX7_layMean 197 (.getfield 155) 3 200 := ⟨by decide +kernel, rfl⟩
theorem iX7_layMean_200 : Ins MX7_layMean 200 (.lcmp) 1 201 := ⟨by decide +kernel, rfl⟩
theorem iX7_layMean_201 : Jmp MX7_layMean 201 (.ifCond .le) 211 204 := ⟨10, ⟨by decide +kernel, rfl⟩, by decide⟩
theorem iX7_layMean_204 : LdA MX7_layMean 204 0 205 := Or.inr ⟨0, rfl, by decide +kernel, rfl⟩
theorem iX7_layMean_205 : Ins MX7_layMean 205 (.getfield 151) 3 208 := ⟨by decide +kernel, rfl⟩
theorem iX7_layMean_208 : Jmp MX7_layMean 208 .goto 215 211 := ⟨7, ⟨by decide +kernel, rfl⟩, by decide⟩
theorem iX7_layMean_211 : LdA MX7_layMean 211 0 212 := Or.inr ⟨0, rfl, by decide +kernel, rfl⟩
theorem iX7_layMean_212 : Ins MX7_layMean 212 (.getfield 155) 3 215 := ⟨by decide +kernel, rfl⟩
theorem iX7_layMean_215 : Ins MX7_layMean 215 (.lastore) 1 216 := ⟨by decide +kernel, rfl⟩
theorem iX7_layMean_216 : Inc MX7_layMean 216 8 (1) 219 := ⟨⟨by decide +kernel, rfl⟩, Nat.le_of_ble_eq_true rfl⟩
theorem iX7_layMean_219 : Jmp MX7_layMean 219 .goto 38 222 := ⟨-181, ⟨by decide +kernel, rfl⟩, by decide⟩
theorem iX7_layMean_222 : Ins MX7_layMean 222 (.return_) 1 223 := ⟨by decide +kernel, rfl⟩
theorem iX7_refused_0 : LdA MX7_refused 0 0 1 := Or.inr ⟨0, rfl, by decide +kernel, rfl⟩
theorem iX7_refused_1 : LdI MX7_refused 1 1 2 := Or.inr ⟨1, rfl, by decide +kernel, rfl⟩
theorem iX7_refused_2 : Ins MX7_refused 2 (.invokevirtual 74) 3 5 := ⟨by decide +kernel, rfl⟩
theorem iX7_refused_5 : Jmp MX7_refused 5 (.ifCond .ne) 12 8 := ⟨7, ⟨by decide +kernel, rfl⟩, by decide⟩
theorem iX7_refused_8 : Ins MX7_refused 8 (.iconst (-1)) 1 9 := ⟨by decide +kernel, rfl⟩
theorem iX7_refused_9 : Jmp MX7_refused 9 .goto 58 12 := ⟨49, ⟨by decide +kernel, rfl⟩, by decide⟩
theorem iX7_refused_12 : LdI MX7_refused 12 2 13 := Or.inr ⟨2, rfl, by decide +kernel, rfl⟩
theorem iX7_refused_13 : Ins MX7_refused 13 (.i2l) 1 14 := ⟨by decide +kernel, rfl⟩
theorem iX7_refused_14 : Ins MX7_refused 14 (.lconst 1) 1 15 := ⟨by decide +kernel, rfl⟩
theorem iX7_refused_15 : Ins MX7_refused 15 (.ldc2_w 158) 3 18 := ⟨by decide +kernel, rfl⟩
theorem iX7_refused_18 : Ins MX7_refused 18 (.invokestatic 44) 3 21 := ⟨by decide +kernel, rfl⟩
theorem iX7_refused_21 : Jmp MX7_refused 21 (.ifCond .eq) 39 24 := ⟨18, ⟨by decide +kernel, rfl⟩, by decide⟩
theorem iX7_refused_24 : LdA MX7_refused 24 0 25 := Or.inr ⟨0, rfl, by decide +kernel, rfl⟩
theorem iX7_refused_25 : Ins MX7_refused 25 (.getfield 19) 3 28 := ⟨by decide +kernel, rfl⟩
theorem iX7_refused_28 : Ins MX7_refused 28 (.iconst 0) 1 29 := ⟨by decide +kernel, rfl⟩
theorem iX7_refused_29 : Ins MX7_refused 29 (.iaload) 1 30 := ⟨by decide +kernel, rfl⟩
theorem iX7_refused_30 : LdI MX7_refused 30 2 31 := Or.inr ⟨2, rfl, by decide +kernel, rfl⟩
theorem iX7_refused_31 : Ins MX7_refused 31 (.iadd) 1 32 := ⟨by decide +kernel, rfl⟩
theorem iX7_refused_32 : Ins MX7_refused 32 (.iconst 1) 1 33 := ⟨by decide +kernel, rfl⟩
theorem iX7_refused_33 : Ins MX7_refused 33 (.isub) 1 34 := ⟨by decide +kernel, rfl⟩
theorem iX7_refused_34 : Ins MX7_refused 34 (.bipush 11) 2 36 := ⟨by decide +kernel, rfl⟩
theorem iX7_refused_36 : Jmp MX7_refused 36 (.if_icmp .le) 44 39 := ⟨8, ⟨by decide +kernel, rfl⟩, by decide⟩
theorem iX7_refused_39 : Ins MX7_refused 39 (.bipush (-2)) 2 41 := ⟨by decide +kernel, rfl⟩
theorem iX7_refused_41 : Jmp MX7_refused 41 .goto 58 44 := ⟨17, ⟨by decide +kernel, rfl⟩, by decide⟩
theorem iX7_refused_44 : LdA MX7_refused 44 0 45 := Or.inr ⟨0, rfl, by decide +kernel, rfl⟩
theorem iX7_refused_45 : LdI MX7_refused 45 1 46 := Or.inr ⟨1, rfl, by decide +kernel, rfl⟩
theorem iX7_refused_46 : Ins MX7_refused 46 (.invokevirtual 131) 3 49 := ⟨by decide +kernel, rfl⟩
theorem iX7_refused_49 : Jmp MX7_refused 49 (.ifCond .eq) 57 52 := ⟨8, ⟨by decide +kernel, rfl⟩, by decide⟩
theorem iX7_refused_52 : Ins MX7_refused 52 (.bipush (-3)) 2 54 := ⟨by decide +kernel, rfl⟩
theorem iX7_refused_54 : Jmp MX7_refused 54 .goto 58 57 := ⟨4, ⟨by decide +kernel, rfl⟩, by decide⟩
theorem iX7_refused_57 : Ins MX7_refused 57 (.iconst 0) 1 58 := ⟨by decide +kernel, rfl⟩
theorem iX7_refused_58 : Ins MX7_refused 58 (.ireturn) 1 59 := ⟨by decide +kernel, rfl⟩
theorem iX7_mean_0 : LdA MX7_mean 0 0 1 := Or.inr ⟨0, rfl, by decide +kernel, rfl⟩
theorem iX7_mean_1 : LdI MX7_mean 1 1 2 := Or.inr ⟨1, rfl, by decide +kernel, rfl⟩
theorem iX7_mean_2 : LdI MX7_mean 2 2 3 := Or.inr ⟨2, rfl, by decide +kernel, rfl⟩
theorem iX7_mean_3 : Ins MX7_mean 3 (.invokevirtual 160) 3 6 := ⟨by decide +kernel, rfl⟩
theorem iX7_mean_6 : StI MX7_mean 6 4 8 := ⟨Or.inl ⟨by decide +kernel, rfl⟩, Nat.le_of_ble_eq_true rfl⟩
theorem iX7_mean_8 : LdI MX7_mean 8 4 10 := Or.inl ⟨by decide +kernel, rfl⟩
theorem iX7_mean_10 : Jmp MX7_mean 10 (.ifCond .eq) 17 13 := ⟨7, ⟨by decide +kernel, rfl⟩, by decide⟩
theorem iX7_mean_13 : LdI MX7_mean 13 4 15 := Or.inl ⟨by decide +kernel, rfl⟩
theorem iX7_mean_15 : Ins MX7_mean 15 (.i2l) 1 16 := ⟨by decide +kernel, rfl⟩
theorem iX7_mean_16 : Ins MX7_mean 16 (.lreturn) 1 17 := ⟨by decide +kernel, rfl⟩
theorem iX7_mean_17 : LdA MX7_mean 17 0 18 := Or.inr ⟨0, rfl, by decide +kernel, rfl⟩
theorem iX7_mean_18 : LdI MX7_mean 18 1 19 := Or.inr ⟨1, rfl, by decide +kernel, rfl⟩
theorem iX7_mean_19 : LdI MX7_mean 19 2 20 := Or.inr ⟨2, rfl, by decide +kernel, rfl⟩
theorem iX7_mean_20 : Ins MX7_mean 20 (.invokevirtual 163) 3 23 := ⟨by decide +kernel, rfl⟩
theorem iX7_mean_23 : LdA MX7_mean 23 0 24 := Or.inr ⟨0, rfl, by decide +kernel, rfl⟩
theorem iX7_mean_24 : Ins MX7_mean 24 (.iconst 0) 1 25 := ⟨by decide +kernel, rfl⟩
theorem iX7_mean_25 : LdI MX7_mean 25 1 26 := Or.inr ⟨1, rfl, by decide +kernel, rfl⟩
theorem iX7_mean_26 : Ins MX7_mean 26 (.iconst 1) 1 27 := ⟨by decide +kernel, rfl⟩
theorem iX7_mean_27 : Ins MX7_mean 27 (.invokevirtual 77) 3 30 := ⟨by decide +kernel, rfl⟩
theorem iX7_mean_30 : StI MX7_mean 30 5 32 := ⟨Or.inl ⟨by decide +kernel, rfl⟩, Nat.le_of_ble_eq_true rfl⟩
theorem iX7_mean_32 : LdA MX7_mean 32 0 33 := Or.inr ⟨0, rfl, by decide +kernel, rfl⟩
theorem iX7_mean_33 : Ins MX7_mean 33 (.getfield 25) 3 36 := ⟨by decide +kernel, rfl⟩
theorem iX7_mean_36 : Ins MX7_mean 36 (.iconst 0) 1 37 := ⟨by decide +kernel, rfl⟩
theorem iX7_mean_37 : LdI MX7_mean 37 5 39 := Or.inl ⟨by decide +kernel, rfl⟩
theorem iX7_mean_39 : Ins MX7_mean 39 (.iconst 0) 1 40 := ⟨by decide +kernel, rfl⟩
theorem iX7_mean_40 : Ins MX7_mean 40 (.iconst 0) 1 41 := ⟨by decide +kernel, rfl⟩
theorem iX7_mean_41 : Ins MX7_mean 41 (.invokestatic 143) 3 44 := ⟨by decide +kernel, rfl⟩
theorem iX7_mean_44 : Ins MX7_mean 44 (.laload) 1 45 := ⟨by decide +kernel, rfl⟩
theorem iX7_mean_45 : StL MX7_mean 45 6 47 := ⟨Or.inl ⟨by decide +kernel, rfl⟩, Nat.le_of_ble_eq_true rfl⟩
theorem iX7_mean_47 : Ins MX7_mean 47 (.iconst 3) 1 48 := ⟨by decide +kernel, rfl⟩
theorem iX7_mean_48 : LdI MX7_mean 48 2 49 := Or.inr ⟨2, rfl, by decide +kernel, rfl⟩
theorem iX7_mean_49 : Ins MX7_mean 49 (.imul) 1 50 := ⟨by decide +kernel, rfl⟩
theorem iX7_mean_50 : LdI MX7_mean 50 5 52 := Or.inl ⟨by decide +kernel, rfl⟩
theorem iX7_mean_52 : Ins MX7_mean 52 (.isub) 1 53 := ⟨by decide +kernel, rfl⟩
theorem iX7_mean_53 : Ins MX7_mean 53 (.invokestatic 124) 3 56 := ⟨by decide +kernel, rfl⟩
theorem iX7_mean_56 : StL MX7_mean 56 8 58 := ⟨Or.inl ⟨by decide +kernel, rfl⟩, Nat.le_of_ble_eq_true rfl⟩
theorem iX7_mean_58 : LdI MX7_mean 58 3 59 := Or.inr ⟨3, rfl, by decide +kernel, rfl⟩
theorem iX7_mean_59 : Jmp MX7_mean 59 (.ifCond .eq) 75 62 := ⟨16, ⟨by decide +kernel, rfl⟩, by decide⟩
theorem iX7_mean_62 : LdL MX7_mean 62 6 64 := Or.inl ⟨by decide +kernel, rfl⟩
theorem iX7_mean_64 : LdL MX7_mean 64 6 66 := Or.inl ⟨by decide +kernel, rfl⟩
theorem iX7_mean_66 : LdL MX7_mean 66 8 68 := Or.inl ⟨by decide +kernel, rfl⟩
theorem iX7_mean_68 : Ins MX7_mean 68 (.invokestatic 139) 3 71 := ⟨by decide +kernel, rfl⟩
theorem iX7_mean_71 : Ins MX7_mean 71 (.ldiv) 1 72 := ⟨by decide +kernel, rfl⟩
theorem iX7_mean_72 : Jmp MX7_mean 72 .goto 85 75 := ⟨13, ⟨by decide +kernel, rfl⟩, by decide⟩
theorem iX7_mean_75 : LdL MX7_mean 75 8 77 := Or.inl ⟨by decide +kernel, rfl⟩
theorem iX7_mean_77 : LdL MX7_mean 77 6 79 := Or.inl ⟨by decide +kernel, rfl⟩
theorem iX7_mean_79 : LdL MX7_mean 79 8 81 := Or.inl ⟨by decide +kernel, rfl⟩
theorem iX7_mean_81 : Ins MX7_mean 81 (.invokestatic 139) 3 84 := ⟨by decide +kernel, rfl⟩
theorem iX7_mean_84 : Ins MX7_mean 84 (.ldiv) 1 85 := ⟨by decide +kernel, rfl⟩
theorem iX7_mean_85 : Ins MX7_mean 85 (.lreturn) 1 86 := ⟨by decide +kernel, rfl⟩
theorem iX7_wise_0 : LdA MX7_wise 0 0 1 := Or.inr ⟨0, rfl, by decide +kernel, rfl⟩
theorem iX7_wise_1 : LdI MX7_wise 1 1 2 := Or.inr ⟨1, rfl, by decide +kernel, rfl⟩
theorem iX7_wise_2 : LdI MX7_wise 2 2 3 := Or.inr ⟨2, rfl, by decide +kernel, rfl⟩
theorem iX7_wise_3 : Ins MX7_wise 3 (.invokevirtual 160) 3 6 := ⟨by decide +kernel, rfl⟩
theorem iX7_wise_6 : StI MX7_wise 6 3 7 := ⟨Or.inr ⟨3, rfl, by decide +kernel, rfl⟩, Nat.le_of_ble_eq_true rfl⟩
theorem iX7_wise_7 : LdI MX7_wise 7 3 8 := Or.inr ⟨3, rfl, by decide +kernel, rfl⟩
theorem iX7_wise_8 : Jmp MX7_wise 8 (.ifCond .eq) 13 11 := ⟨5, ⟨by decide +kernel, rfl⟩, by decide⟩
theorem iX7_wise_11 : LdI MX7_wise 11 3 12 := Or.inr ⟨3, rfl, by decide +kernel, rfl⟩
theorem iX7_wise_12 : Ins MX7_wise 12 (.ireturn) 1 13 := ⟨by decide +kernel, rfl⟩
theorem iX7_wise_13 : LdA MX7_wise 13 0 14 := Or.inr ⟨0, rfl, by decide +kernel, rfl⟩
theorem iX7_wise_14 : LdI MX7_wise 14 1 15 := Or.inr ⟨1, rfl, by decide +kernel, rfl⟩
theorem iX7_wise_15 : LdI MX7_wise 15 2 16 := Or.inr ⟨2, rfl, by decide +kernel, rfl⟩
theorem iX7_wise_16 : Ins MX7_wise 16 (.invokevirtual 163) 3 19 := ⟨by decide +kernel, rfl⟩
theorem iX7_wise_19 : LdA MX7_wise 19 0 20 := Or.inr ⟨0, rfl, by decide +kernel, rfl⟩
theorem iX7_wise_20 : Ins MX7_wise 20 (.iconst 0) 1 21 := ⟨by decide +kernel, rfl⟩
theorem iX7_wise_21 : LdI MX7_wise 21 1 22 := Or.inr ⟨1, rfl, by decide +kernel, rfl⟩
theorem iX7_wise_22 : Ins MX7_wise 22 (.iconst 1) 1 23 := ⟨by decide +kernel, rfl⟩
theorem iX7_wise_23 : Ins MX7_wise 23 (.invokevirtual 77) 3 26 := ⟨by decide +kernel, rfl⟩
theorem iX7_wise_26 : StI MX7_wise 26 4 28 := ⟨Or.inl ⟨by decide +kernel, rfl⟩, Nat.le_of_ble_eq_true rfl⟩
theorem iX7_wise_28 : LdA MX7_wise 28 0 29 := Or.inr ⟨0, rfl, by decide +kernel, rfl⟩
theorem iX7_wise_29 : LdI MX7_wise 29 1 30 := Or.inr ⟨1, rfl, by decide +kernel, rfl⟩
theorem iX7_wise_30 : LdA MX7_wise 30 0 31 := Or.inr ⟨0, rfl, by decide +kernel, rfl⟩
theorem iX7_wise_31 : Ins MX7_wise 31 (.getfield 19) 3 34 := ⟨by decide +kernel, rfl⟩
theorem iX7_wise_34 : Ins MX7_wise 34 (.iconst 0) 1 35 := ⟨by decide +kernel, rfl⟩
theorem iX7_wise_35 : Ins MX7_wise 35 (.iaload) 1 36 := ⟨by decide +kernel, rfl⟩
theorem iX7_wise_36 : LdA MX7_wise 36 0 37 := Or.inr ⟨0, rfl, by decide +kernel, rfl⟩
theorem iX7_wise_37 : Ins MX7_wise 37 (.iconst 0) 1 38 := ⟨by decide +kernel, rfl⟩
theorem iX7_wise_38 : LdI MX7_wise 38 1 39 := Or.inr ⟨1, rfl, by decide +kernel, rfl⟩
theorem iX7_wise_39 : Ins MX7_wise 39 (.iconst 0) 1 40 := ⟨by decide +kernel, rfl⟩
theorem iX7_wise_40 : Ins MX7_wise 40 (.invokevirtual 77) 3 43 := ⟨by decide +kernel, rfl⟩
theorem iX7_wise_43 : Ins MX7_wise 43 (.invokevirtual 94) 3 46 := ⟨by decide +kernel, rfl⟩
theorem iX7_wise_46 : StI MX7_wise 46 5 48 := ⟨Or.inl ⟨by decide +kernel, rfl⟩, Nat.le_of_ble_eq_true rfl⟩
theorem iX7_wise_48 : LdI MX7_wise 48 4 50 := Or.inl ⟨by decide +kernel, rfl⟩
theorem iX7_wise_50 : Ins MX7_wise 50 (.iconst 2) 1 51 := ⟨by decide +kernel, rfl⟩
theorem iX7_wise_51 : Jmp MX7_wise 51 (.if_icmp .ne) 58 54 := ⟨7, ⟨by decide +kernel, rfl⟩, by decide⟩
theorem iX7_wise_54 : Ins MX7_wise 54 (.lconst 0) 1 55 := ⟨by decide +kernel, rfl⟩
theorem iX7_wise_55 : Jmp MX7_wise 55 .goto 73 58 := ⟨18, ⟨by decide +kernel, rfl⟩, by decide⟩
theorem iX7_wise_58 : LdA MX7_wise 58 0 59 := Or.inr ⟨0, rfl, by decide +kernel, rfl⟩
theorem iX7_wise_59 : Ins MX7_wise 59 (.getfield 25) 3 62 := ⟨by decide +kernel, rfl⟩
theorem iX7_wise_62 : Ins MX7_wise 62 (.iconst 0) 1 63 := ⟨by decide +kernel, rfl⟩
theorem iX7_wise_63 : LdI MX7_wise 63 4 65 := Or.inl ⟨by decide +kernel, rfl⟩
theorem iX7_wise_65 : Ins MX7_wise 65 (.iconst 1) 1 66 := ⟨by decide +kernel, rfl⟩
theorem iX7_wise_66 : Ins MX7_wise 66 (.iadd) 1 67 := ⟨by decide +kernel, rfl⟩
theorem iX7_wise_67 : Ins MX7_wise 67 (.iconst 1) 1 68 := ⟨by decide +kernel, rfl⟩
theorem iX7_wise_68 : Ins MX7_wise 68 (.iconst 0) 1 69 := ⟨by decide +kernel, rfl⟩
theorem iX7_wise_69 : Ins MX7_wise 69 (.invokestatic 143) 3 72 := ⟨by decide +kernel, rfl⟩
theorem iX7_wise_72 : Ins MX7_wise 72 (.laload) 1 73 := ⟨by decide +kernel, rfl⟩
theorem iX7_wise_73 : StL MX7_wise 73 6 75 := ⟨Or.inl ⟨by decide +kernel, rfl⟩, Nat.le_of_ble_eq_true rfl⟩
theorem iX7_wise_75 : LdA MX7_wise 75 0 76 := Or.inr ⟨0, rfl, by decide +kernel, rfl⟩
theorem iX7_wise_76 : Ins MX7_wise 76 (.getfield 25) 3 79 := ⟨by decide +kernel, rfl⟩
theorem iX7_wise_79 : Ins MX7_wise 79 (.iconst 1) 1 80 := ⟨by decide +kernel, rfl⟩
theorem iX7_wise_80 : Ins MX7_wise 80 (.iconst 0) 1 81 := ⟨by decide +kernel, rfl⟩
theorem iX7_wise_81 : Ins MX7_wise 81 (.iconst 1) 1 82 := ⟨by decide +kernel, rfl⟩
theorem iX7_wise_82 : Ins MX7_wise 82 (.iconst 1) 1 83 := ⟨by decide +kernel, rfl⟩
theorem iX7_wise_83 : Ins MX7_wise 83 (.invokestatic 143) 3 86 := ⟨by decide +kernel, rfl⟩
theorem iX7_wise_86 : Ins MX7_wise 86 (.laload) 1 87 := ⟨by decide +kernel, rfl⟩
theorem iX7_wise_87 : Ins MX7_wise 87 (.iconst 2) 1 88 := ⟨by decide +kernel, rfl⟩
theorem iX7_wise_88 : LdI MX7_wise 88 4 90 := Or.inl ⟨by decide +kernel, rfl⟩
theorem iX7_wise_90 : Ins MX7_wise 90 (.isub) 1 91 := ⟨by decide +kernel, rfl⟩
theorem iX7_wise_91 : Ins MX7_wise 91 (.invokestatic 124) 3 94 := ⟨by decide +kernel, rfl⟩
theorem iX7_wise_94 : Ins MX7_wise 94 (.lmul) 1 95 := ⟨by decide +kernel, rfl⟩
theorem iX7_wise_95 : StL MX7_wise 95 8 97 := ⟨Or.inl ⟨by decide +kernel, rfl⟩, Nat.le_of_ble_eq_true rfl⟩
theorem iX7_wise_97 : LdI MX7_wise 97 2 98 := Or.inr ⟨2, rfl, by decide +kernel, rfl⟩
theorem iX7_wise_98 : Ins MX7_wise 98 (.iconst 1) 1 99 := ⟨by decide +kernel, rfl⟩
theorem iX7_wise_99 : Jmp MX7_wise 99 (.if_icmp .ne) 106 102 := ⟨7, ⟨by decide +kernel, rfl⟩, by decide⟩
theorem iX7_wise_102 : Ins MX7_wise 102 (.lconst 0) 1 103 := ⟨by decide +kernel, rfl⟩
theorem iX7_wise_103 : Jmp MX7_wise 103 .goto 123 106 := ⟨20, ⟨by decide +kernel, rfl⟩, by decide⟩
theorem iX7_wise_106 : LdA MX7_wise 106 0 107 := Or.inr ⟨0, rfl, by decide +kernel, rfl⟩
theorem iX7_wise_107 : Ins MX7_wise 107 (.getfield 25) 3 110 := ⟨by decide +kernel, rfl⟩
theorem iX7_wise_110 : Ins MX7_wise 110 (.iconst 1) 1 111 := ⟨by decide +kernel, rfl⟩
theorem iX7_wise_111 : LdI MX7_wise 111 4 113 := Or.inl ⟨by decide +kernel, rfl⟩
theorem iX7_wise_113 : Ins MX7_wise 113 (.iconst 0) 1 114 := ⟨by decide +kernel, rfl⟩
theorem iX7_wise_114 : Ins MX7_wise 114 (.iconst 0) 1 115 := ⟨by decide +kernel, rfl⟩
theorem iX7_wise_115 : Ins MX7_wise 115 (.invokestatic 143) 3 118 := ⟨by decide +kernel, rfl⟩
theorem iX7_wise_118 : Ins MX7_wise 118 (.laload) 1 119 := ⟨by decide +kernel, rfl⟩
theorem iX7_wise_119 : Ins MX7_wise 119 (.ldc2_w 137) 3 122 := ⟨by decide +kernel, rfl⟩
theorem iX7_wise_122 : Ins MX7_wise 122 (.lmul) 1 123 := ⟨by decide +kernel, rfl⟩
theorem iX7_wise_123 : StL MX7_wise 123 10 125 := ⟨Or.inl ⟨by decide +kernel, rfl⟩, Nat.le_of_ble_eq_true rfl⟩
theorem iX7_wise_125 : LdL MX7_wise 125 8 127 := Or.inl ⟨by decide +kernel, rfl⟩
theorem iX7_wise_127 : LdI MX7_wise 127 5 129 := Or.inl ⟨by decide +kernel, rfl⟩
theorem iX7_wise_129 : Ins MX7_wise 129 (.i2l) 1 130 := ⟨by decide +kernel, rfl⟩
theorem iX7_wise_130 : Ins MX7_wise 130 (.lmul) 1 131 := ⟨by decide +kernel, rfl⟩
theorem iX7_wise_131 : LdL MX7_wise 131 6 133 := Or.inl ⟨by decide +kernel, rfl⟩
theorem iX7_wise_133 : Ins MX7_wise 133 (.bipush 10) 2 135 := ⟨by decide +kernel, rfl⟩
theorem iX7_wise_135 : LdI MX7_wise 135 5 137 := Or.inl ⟨by decide +kernel, rfl⟩
theorem iX7_wise_137 : Ins MX7_wise 137 (.isub) 1 138 := ⟨by decide +kernel, rfl⟩
theorem iX7_wise_138 : Ins MX7_wise 138 (.i2l) 1 139 := ⟨by decide +kernel, rfl⟩
theorem iX7_wise_139 : Ins MX7_wise 139 (.lmul) 1 140 := ⟨by decide +kernel, rfl⟩
theorem iX7_wise_140 : Ins MX7_wise 140 (.ladd) 1 141 := ⟨by decide +kernel, rfl⟩
theorem iX7_wise_141 : LdL MX7_wise 141 10 143 := Or.inl ⟨by decide +kernel, rfl⟩
theorem iX7_wise_143 : Ins MX7_wise 143 (.lcmp) 1 144 := ⟨by decide +kernel, rfl⟩
theorem iX7_wise_144 : Jmp MX7_wise 144 (.ifCond .lt) 151 147 := ⟨7, ⟨by decide +kernel, rfl⟩, by decide⟩
theorem iX7_wise_147 : Ins MX7_wise 147 (.iconst 1) 1 148 := ⟨by decide +kernel, rfl⟩
theorem iX7_wise_148 : Jmp MX7_wise 148 .goto 152 151 := ⟨4, ⟨by decide +kernel, rfl⟩, by decide⟩
theorem iX7_wise_151 : Ins MX7_wise 151 (.iconst 0) 1 152 := ⟨by decide +kernel, rfl⟩
theorem iX7_wise_152 : Ins MX7_wise 152 (.ireturn) 1 153 := ⟨by decide +kernel, rfl⟩
theorem iX7_partsOf_0 : LdA MX7_partsOf 0 0 1 := Or.inr ⟨0, rfl, by decide +kernel, rfl⟩
theorem iX7_partsOf_1 : Ins MX7_partsOf 1 (.iconst 0) 1 2 := ⟨by decide +kernel, rfl⟩
theorem iX7_partsOf_2 : LdI MX7_partsOf 2 1 3 := Or.inr ⟨1, rfl, by decide +kernel, rfl⟩
theorem iX7_partsOf_3 : Ins MX7_partsOf 3 (.iconst 1) 1 4 := ⟨by decide +kernel, rfl⟩
theorem iX7_partsOf_4 : Ins MX7_partsOf 4 (.invokevirtual 77) 3 7 := ⟨by decide +kernel, rfl⟩
theorem iX7_partsOf_7 : StI MX7_partsOf 7 4 9 := ⟨Or.inl ⟨by decide +kernel, rfl⟩, Nat.le_of_ble_eq_true rfl⟩
theorem iX7_partsOf_9 : LdA MX7_partsOf 9 0 10 := Or.inr ⟨0, rfl, by decide +kernel, rfl⟩
theorem iX7_partsOf_10 : Ins MX7_partsOf 10 (.iconst 0) 1 11 := ⟨by decide +kernel, rfl⟩
theorem iX7_partsOf_11 : LdI MX7_partsOf 11 1 12 := Or.inr ⟨1, rfl, by decide +kernel, rfl⟩
theorem iX7_partsOf_12 : Ins MX7_partsOf 12 (.iconst 0) 1 13 := ⟨by decide +kernel, rfl⟩
theorem iX7_partsOf_13 : Ins MX7_partsOf 13 (.invokevirtual 77) 3 16 := ⟨by decide +kernel, rfl⟩
theorem iX7_partsOf_16 : StI MX7_partsOf 16 5 18 := ⟨Or.inl ⟨by decide +kernel, rfl⟩, Nat.le_of_ble_eq_true rfl⟩
theorem iX7_partsOf_18 : LdA MX7_partsOf 18 0 19 := Or.inr ⟨0, rfl, by decide +kernel, rfl⟩
theorem iX7_partsOf_19 : Ins MX7_partsOf 19 (.iconst 0) 1 20 := ⟨by decide +kernel, rfl⟩
theorem iX7_partsOf_20 : LdI MX7_partsOf 20 1 21 := Or.inr ⟨1, rfl, by decide +kernel, rfl⟩
theorem iX7_partsOf_21 : Ins MX7_partsOf 21 (.iconst 2) 1 22 := ⟨by decide +kernel, rfl⟩
theorem iX7_partsOf_22 : Ins MX7_partsOf 22 (.invokevirtual 77) 3 25 := ⟨by decide +kernel, rfl⟩
theorem iX7_partsOf_25 : StI MX7_partsOf 25 6 27 := ⟨Or.inl ⟨by decide +kernel, rfl⟩, Nat.le_of_ble_eq_true rfl⟩
theorem iX7_partsOf_27 : LdA MX7_partsOf 27 0 28 := Or.inr ⟨0, rfl, by decide +kernel, rfl⟩
theorem iX7_partsOf_28 : Ins MX7_partsOf 28 (.iconst 0) 1 29 := ⟨by decide +kernel, rfl⟩
theorem iX7_partsOf_29 : LdI MX7_partsOf 29 1 30 := Or.inr ⟨1, rfl, by decide +kernel, rfl⟩
theorem iX7_partsOf_30 : Ins MX7_partsOf 30 (.iconst 3) 1 31 := ⟨by decide +kernel, rfl⟩
theorem iX7_partsOf_31 : Ins MX7_partsOf 31 (.invokevirtual 77) 3 34 := ⟨by decide +kernel, rfl⟩
theorem iX7_partsOf_34 : StI MX7_partsOf 34 7 36 := ⟨Or.inl ⟨by decide +kernel, rfl⟩, Nat.le_of_ble_eq_true rfl⟩
theorem iX7_partsOf_36 : LdA MX7_partsOf 36 0 37 := Or.inr ⟨0, rfl, by decide +kernel, rfl⟩
theorem iX7_partsOf_37 : Ins MX7_partsOf 37 (.iconst 0) 1 38 := ⟨by decide +kernel, rfl⟩
theorem iX7_partsOf_38 : LdI MX7_partsOf 38 1 39 := Or.inr ⟨1, rfl, by decide +kernel, rfl⟩
theorem iX7_partsOf_39 : Ins MX7_partsOf 39 (.iconst 4) 1 40 := ⟨by decide +kernel, rfl⟩
theorem iX7_partsOf_40 : Ins MX7_partsOf 40 (.invokevirtual 77) 3 43 := ⟨by decide +kernel, rfl⟩
theorem iX7_partsOf_43 : StI MX7_partsOf 43 8 45 := ⟨Or.inl ⟨by decide +kernel, rfl⟩, Nat.le_of_ble_eq_true rfl⟩
theorem iX7_partsOf_45 : Ins MX7_partsOf 45 (.iconst 3) 1 46 := ⟨by decide +kernel, rfl⟩
theorem iX7_partsOf_46 : LdI MX7_partsOf 46 2 47 := Or.inr ⟨2, rfl, by decide +kernel, rfl⟩
theorem iX7_partsOf_47 : Ins MX7_partsOf 47 (.imul) 1 48 := ⟨by decide +kernel, rfl⟩
theorem iX7_partsOf_48 : Ins MX7_partsOf 48 (.invokestatic 124) 3 51 := ⟨by decide +kernel, rfl⟩
theorem iX7_partsOf_51 : StL MX7_partsOf 51 9 53 := ⟨Or.inl ⟨by decide +kernel, rfl⟩, Nat.le_of_ble_eq_true rfl⟩
theorem iX7_partsOf_53 : Ins MX7_partsOf 53 (.iconst 0) 1 54 := ⟨by decide +kernel, rfl⟩
theorem iX7_partsOf_54 : StI MX7_partsOf 54 11 56 := ⟨Or.inl ⟨by decide +kernel, rfl⟩, Nat.le_of_ble_eq_true rfl⟩
theorem iX7_partsOf_56 : Ins MX7_partsOf 56 (.iconst 0) 1 57 := ⟨by decide +kernel, rfl⟩
theorem iX7_partsOf_57 : StI MX7_partsOf 57 12 59 := ⟨Or.inl ⟨by decide +kernel, rfl⟩, Nat.le_of_ble_eq_true rfl⟩
theorem iX7_partsOf_59 : LdI MX7_partsOf 59 12 61 := Or.inl ⟨by decide +kernel, rfl⟩
theorem iX7_partsOf_61 : LdI MX7_partsOf 61 2 62 := Or.inr ⟨2, rfl, by decide +kernel, rfl⟩
theorem iX7_partsOf_62 : Jmp MX7_partsOf 62 (.if_icmp .ge) 282 65 := ⟨220, ⟨by decide +kernel, rfl⟩, by decide⟩
theorem iX7_partsOf_65 : LdI MX7_partsOf 65 3 66 := Or.inr ⟨3, rfl, by decide +kernel, rfl⟩
theorem iX7_partsOf_66 : Ins MX7_partsOf 66 (.iconst 2) 1 67 := ⟨by decide +kernel, rfl⟩
theorem iX7_partsOf_67 : LdI MX7_partsOf 67 2 68 := Or.inr ⟨2, rfl, by decide +kernel, rfl⟩
theorem iX7_partsOf_68 : Ins MX7_partsOf 68 (.iconst 1) 1 69 := ⟨by decide +kernel, rfl⟩
theorem iX7_partsOf_69 : Ins MX7_partsOf 69 (.isub) 1 70 := ⟨by decide +kernel, rfl⟩
theorem iX7_partsOf_70 : LdI MX7_partsOf 70 12 72 := Or.inl ⟨by decide +kernel, rfl⟩
theorem iX7_partsOf_72 : Ins MX7_partsOf 72 (.isub) 1 73 := ⟨by decide +kernel, rfl⟩
theorem iX7_partsOf_73 : Ins MX7_partsOf 73 (.imul) 1 74 := ⟨by decide +kernel, rfl⟩
theorem iX7_partsOf_74 : Ins MX7_partsOf 74 (.ishr) 1 75 := ⟨by decide +kernel, rfl⟩
theorem iX7_partsOf_75 : Ins MX7_partsOf 75 (.iconst 3) 1 76 := ⟨by decide +kernel, rfl⟩
theorem iX7_partsOf_76 : Ins MX7_partsOf 76 (.iand) 1 77 := ⟨by decide +kernel, rfl⟩
theorem iX7_partsOf_77 : StI MX7_partsOf 77 13 79 := ⟨Or.inl ⟨by decide +kernel, rfl⟩, Nat.le_of_ble_eq_true rfl⟩
theorem iX7_partsOf_79 : LdI MX7_partsOf 79 13 81 := Or.inl ⟨by decide +kernel, rfl⟩
theorem iX7_partsOf_81 : Ins MX7_partsOf 81 (.iconst 3) 1 82 := ⟨by decide +kernel, rfl⟩
theorem iX7_partsOf_82 : Jmp MX7_partsOf 82 (.if_icmp .ne) 92 85 := ⟨10, ⟨by decide +kernel, rfl⟩, by decide⟩
theorem iX7_partsOf_85 : Ins MX7_partsOf 85 (.iconst 3) 1 86 := ⟨by decide +kernel, rfl⟩
theorem iX7_partsOf_86 : LdI MX7_partsOf 86 4 88 := Or.inl ⟨by decide +kernel, rfl⟩
theorem iX7_partsOf_88 : Ins MX7_partsOf 88 (.isub) 1 89 := ⟨by decide +kernel, rfl⟩
theorem iX7_partsOf_89 : Jmp MX7_partsOf 89 .goto 94 92 := ⟨5, ⟨by decide +kernel, rfl⟩, by decide⟩
theorem iX7_partsOf_92 : LdI MX7_partsOf 92 13 94 := Or.inl ⟨by decide +kernel, rfl⟩
theorem iX7_partsOf_94 : StI MX7_partsOf 94 14 96 := ⟨Or.inl ⟨by decide +kernel, rfl⟩, Nat.le_of_ble_eq_true rfl⟩
theorem iX7_partsOf_96 : LdI MX7_partsOf 96 11 98 := Or.inl ⟨by decide +kernel, rfl⟩
theorem iX7_partsOf_98 : Jmp MX7_partsOf 98 (.ifCond .eq) 109 101 := ⟨11, ⟨by decide +kernel, rfl⟩, by decide⟩
theorem iX7_partsOf_101 : LdI MX7_partsOf 101 13 103 := Or.inl ⟨by decide +kernel, rfl⟩
theorem iX7_partsOf_103 : Jmp MX7_partsOf 103 (.ifCond .eq) 126 106 := ⟨23, ⟨by decide +kernel, rfl⟩, by decide⟩
theorem iX7_partsOf_106 : Jmp MX7_partsOf 106 .goto 124 109 := ⟨18, ⟨by decide +kernel, rfl⟩, by decide⟩
theorem iX7_partsOf_109 : LdI MX7_partsOf 109 13 111 := Or.inl ⟨by decide +kernel, rfl⟩
theorem iX7_partsOf_111 : Ins MX7_partsOf 111 (.iconst 3) 1 112 := ⟨by decide +kernel, rfl⟩
theorem iX7_partsOf_112 : Jmp MX7_partsOf 112 (.if_icmp .ge) 126 115 := ⟨14, ⟨by decide +kernel, rfl⟩, by decide⟩
theorem iX7_partsOf_115 : LdI MX7_partsOf 115 4 117 := Or.inl ⟨by decide +kernel, rfl⟩
theorem iX7_partsOf_117 : LdI MX7_partsOf 117 13 119 := Or.inl ⟨by decide +kernel, rfl⟩
theorem iX7_partsOf_119 : Ins MX7_partsOf 119 (.iadd) 1 120 := ⟨by decide +kernel, rfl⟩
theorem iX7_partsOf_120 : Ins MX7_partsOf 120 (.iconst 2) 1 121 := ⟨by decide +kernel, rfl⟩
theorem iX7_partsOf_121 : Jmp MX7_partsOf 121 (.if_icmp .le) 126 124 := ⟨5, ⟨by decide +kernel, rfl⟩, by decide⟩
theorem iX7_partsOf_124 : Ins MX7_partsOf 124 (.lconst 0) 1 125 := ⟨by decide +kernel, rfl⟩
theorem iX7_partsOf_125 : Ins MX7_partsOf 125 (.lreturn) 1 126 := ⟨by decide +kernel, rfl⟩
theorem iX7_partsOf_126 : Ins MX7_partsOf 126 (.iconst 0) 1 127 := ⟨by decide +kernel, rfl⟩
theorem iX7_partsOf_127 : StI MX7_partsOf 127 15 129 := ⟨Or.inl ⟨by decide +kernel, rfl⟩, Nat.le_of_ble_eq_true rfl⟩
theorem iX7_partsOf_129 : LdI MX7_partsOf 129 15 131 := Or.inl ⟨by decide +kernel, rfl⟩
theorem iX7_partsOf_131 : LdI MX7_partsOf 131 14 133 := Or.inl ⟨by decide +kernel, rfl⟩
theorem iX7_partsOf_133 : Jmp MX7_partsOf 133 (.if_icmp .ge) 182 136 := ⟨49, ⟨by decide +kernel, rfl⟩, by decide⟩
theorem iX7_partsOf_136 : LdI MX7_partsOf 136 11 138 := Or.inl ⟨by decide +kernel, rfl⟩
theorem iX7_partsOf_138 : Jmp MX7_partsOf 138 (.ifCond .ne) 182 141 := ⟨44, ⟨by decide +kernel, rfl⟩, by decide⟩
theorem iX7_partsOf_141 : LdL MX7_partsOf 141 9 143 := Or.inl ⟨by decide +kernel, rfl⟩
theorem iX7_partsOf_143 : Ins MX7_partsOf 143 (.ldc2_w 122) 3 146 := ⟨by decide +kernel, rfl⟩
theorem iX7_partsOf_146 : Ins MX7_partsOf 146 (.ldiv) 1 147 := ⟨by decide +kernel, rfl⟩
theorem iX7_partsOf_147 : Ins MX7_partsOf 147 (.bipush 10) 2 149 := ⟨by decide +kernel, rfl⟩
theorem iX7_partsOf_149 : LdA MX7_partsOf 149 0 150 := Or.inr ⟨0, rfl, by decide +kernel, rfl⟩
theorem iX7_partsOf_150 : LdI MX7_partsOf 150 1 151 := Or.inr ⟨1, rfl, by decide +kernel, rfl⟩
theorem iX7_partsOf_151 : LdA MX7_partsOf 151 0 152 := Or.inr ⟨0, rfl, by decide +kernel, rfl⟩
theorem iX7_partsOf_152 : Ins MX7_partsOf 152 (.getfield 19) 3 155 := ⟨by decide +kernel, rfl⟩
theorem iX7_partsOf_155 : Ins MX7_partsOf 155 (.iconst 0) 1 156 := ⟨by decide +kernel, rfl⟩
theorem iX7_partsOf_156 : Ins MX7_partsOf 156 (.iaload) 1 157 := ⟨by decide +kernel, rfl⟩
theorem iX7_partsOf_157 : LdI MX7_partsOf 157 12 159 := Or.inl ⟨by decide +kernel, rfl⟩
theorem iX7_partsOf_159 : Ins MX7_partsOf 159 (.iadd) 1 160 := ⟨by decide +kernel, rfl⟩
theorem iX7_partsOf_160 : LdI MX7_partsOf 160 5 162 := Or.inl ⟨by decide +kernel, rfl⟩
theorem iX7_partsOf_162 : Ins MX7_partsOf 162 (.invokevirtual 94) 3 165 := ⟨by decide +kernel, rfl⟩
theorem iX7_partsOf_165 : Ins MX7_partsOf 165 (.isub) 1 166 := ⟨by decide +kernel, rfl⟩
theorem iX7_partsOf_166 : Ins MX7_partsOf 166 (.i2l) 1 167 := ⟨by decide +kernel, rfl⟩
theorem iX7_partsOf_167 : Ins MX7_partsOf 167 (.lmul) 1 168 := ⟨by decide +kernel, rfl⟩
theorem iX7_partsOf_168 : StL MX7_partsOf 168 9 170 := ⟨Or.inl ⟨by decide +kernel, rfl⟩, Nat.le_of_ble_eq_true rfl⟩
theorem iX7_partsOf_170 : Inc MX7_partsOf 170 5 (1) 173 := ⟨⟨by decide +kernel, rfl⟩, Nat.le_of_ble_eq_true rfl⟩
theorem iX7_partsOf_173 : Inc MX7_partsOf 173 8 (1) 176 := ⟨⟨by decide +kernel, rfl⟩, Nat.le_of_ble_eq_true rfl⟩
theorem iX7_partsOf_176 : Inc MX7_partsOf 176 15 (1) 179 := ⟨⟨by decide +kernel, rfl⟩, Nat.le_of_ble_eq_true rfl⟩
theorem iX7_partsOf_179 : Jmp MX7_partsOf 179 .goto 129 182 := ⟨-50, ⟨by decide +kernel, rfl⟩, by decide⟩
theorem iX7_partsOf_182 : LdI MX7_partsOf 182 13 184 := Or.inl ⟨by decide +kernel, rfl⟩
theorem iX7_partsOf_184 : Ins MX7_partsOf 184 (.iconst 3) 1 185 := ⟨by decide +kernel, rfl⟩
theorem iX7_partsOf_185 : Jmp MX7_partsOf 185 (.if_icmp .ge) 258 188 := ⟨73, ⟨by decide +kernel, rfl⟩, by decide⟩
theorem iX7_partsOf_188 : LdI MX7_partsOf 188 11 190 := Or.inl ⟨by decide +kernel, rfl⟩
theorem iX7_partsOf_190 : Jmp MX7_partsOf 190 (.ifCond .ne) 258 193 := ⟨68, ⟨by decide +kernel, rfl⟩, by decide⟩
theorem iX7_partsOf_193 : LdL MX7_partsOf 193 9 195 := Or.inl ⟨by decide +kernel, rfl⟩
theorem iX7_partsOf_195 : Ins MX7_partsOf 195 (.ldc2_w 122) 3 198 := ⟨by decide +kernel, rfl⟩
theorem iX7_partsOf_198 : Ins MX7_partsOf 198 (.ldiv) 1 199 := ⟨by decide +kernel, rfl⟩
theorem iX7_partsOf_199 : LdA MX7_partsOf 199 0 200 := Or.inr ⟨0, rfl, by decide +kernel, rfl⟩
theorem iX7_partsOf_200 : LdI MX7_partsOf 200 1 201 := Or.inr ⟨1, rfl, by decide +kernel, rfl⟩
theorem iX7_partsOf_201 : LdA MX7_partsOf 201 0 202 := Or.inr ⟨0, rfl, by decide +kernel, rfl⟩
theorem iX7_partsOf_202 : Ins MX7_partsOf 202 (.getfield 19) 3 205 := ⟨by decide +kernel, rfl⟩
theorem iX7_partsOf_205 : Ins MX7_partsOf 205 (.iconst 0) 1 206 := ⟨by decide +kernel, rfl⟩
theorem iX7_partsOf_206 : Ins MX7_partsOf 206 (.iaload) 1 207 := ⟨by decide +kernel, rfl⟩
theorem iX7_partsOf_207 : LdI MX7_partsOf 207 12 209 := Or.inl ⟨by decide +kernel, rfl⟩
theorem iX7_partsOf_209 : Ins MX7_partsOf 209 (.iadd) 1 210 := ⟨by decide +kernel, rfl⟩
theorem iX7_partsOf_210 : LdI MX7_partsOf 210 5 212 := Or.inl ⟨by decide +kernel, rfl⟩
theorem iX7_partsOf_212 : Ins MX7_partsOf 212 (.invokevirtual 94) 3 215 := ⟨by decide +kernel, rfl⟩
theorem iX7_partsOf_215 : Ins MX7_partsOf 215 (.i2l) 1 216 := ⟨by decide +kernel, rfl⟩
theorem iX7_partsOf_216 : Ins MX7_partsOf 216 (.lmul) 1 217 := ⟨by decide +kernel, rfl⟩
theorem iX7_partsOf_217 : StL MX7_partsOf 217 9 219 := ⟨Or.inl ⟨by decide +kernel, rfl⟩, Nat.le_of_ble_eq_true rfl⟩
theorem iX7_partsOf_219 : Inc MX7_partsOf 219 5 (1) 222 := ⟨⟨by decide +kernel, rfl⟩, Nat.le_of_ble_eq_true rfl⟩
theorem iX7_partsOf_222 : LdA MX7_partsOf 222 0 223 := Or.inr ⟨0, rfl, by decide +kernel, rfl⟩
theorem iX7_partsOf_223 : Ins MX7_partsOf 223 (.getfield 19) 3 226 := ⟨by decide +kernel, rfl⟩
theorem iX7_partsOf_226 : Ins MX7_partsOf 226 (.iconst 0) 1 227 := ⟨by decide +kernel, rfl⟩
theorem iX7_partsOf_227 : Ins MX7_partsOf 227 (.iaload) 1 228 := ⟨by decide +kernel, rfl⟩
theorem iX7_partsOf_228 : LdI MX7_partsOf 228 12 230 := Or.inl ⟨by decide +kernel, rfl⟩
theorem iX7_partsOf_230 : Ins MX7_partsOf 230 (.iadd) 1 231 := ⟨by decide +kernel, rfl⟩
theorem iX7_partsOf_231 : StI MX7_partsOf 231 6 233 := ⟨Or.inl ⟨by decide +kernel, rfl⟩, Nat.le_of_ble_eq_true rfl⟩
theorem iX7_partsOf_233 : LdI MX7_partsOf 233 14 235 := Or.inl ⟨by decide +kernel, rfl⟩
theorem iX7_partsOf_235 : LdI MX7_partsOf 235 12 237 := Or.inl ⟨by decide +kernel, rfl⟩
theorem iX7_partsOf_237 : Jmp MX7_partsOf 237 (.ifCond .ne) 251 240 := ⟨14, ⟨by decide +kernel, rfl⟩, by decide⟩
theorem iX7_partsOf_240 : LdA MX7_partsOf 240 0 241 := Or.inr ⟨0, rfl, by decide +kernel, rfl⟩
theorem iX7_partsOf_241 : Ins MX7_partsOf 241 (.iconst 0) 1 242 := ⟨by decide +kernel, rfl⟩
theorem iX7_partsOf_242 : LdI MX7_partsOf 242 1 243 := Or.inr ⟨1, rfl, by decide +kernel, rfl⟩
theorem iX7_partsOf_243 : Ins MX7_partsOf 243 (.bipush 6) 2 245 := ⟨by decide +kernel, rfl⟩
theorem iX7_partsOf_245 : Ins MX7_partsOf 245 (.invokevirtual 77) 3 248 := ⟨by decide +kernel, rfl⟩
theorem iX7_partsOf_248 : Jmp MX7_partsOf 248 .goto 252 251 := ⟨4, ⟨by decide +kernel, rfl⟩, by decide⟩
theorem iX7_partsOf_251 : Ins MX7_partsOf 251 (.iconst 0) 1 252 := ⟨by decide +kernel, rfl⟩
theorem iX7_partsOf_252 : Ins MX7_partsOf 252 (.iadd) 1 253 := ⟨by decide +kernel, rfl⟩
theorem iX7_partsOf_253 : StI MX7_partsOf 253 7 255 := ⟨Or.inl ⟨by decide +kernel, rfl⟩, Nat.le_of_ble_eq_true rfl⟩
theorem iX7_partsOf_255 : Ins MX7_partsOf 255 (.iconst 0) 1 256 := ⟨by decide +kernel, rfl⟩
theorem iX7_partsOf_256 : StI MX7_partsOf 256 4 258 := ⟨Or.inl ⟨by decide +kernel, rfl⟩, Nat.le_of_ble_eq_true rfl⟩
theorem iX7_partsOf_258 : LdI MX7_partsOf 258 11 260 := Or.inl ⟨by decide +kernel, rfl⟩
theorem iX7_partsOf_260 : Jmp MX7_partsOf 260 (.ifCond .ne) 269 263 := ⟨9, ⟨by decide +kernel, rfl⟩, by decide⟩
theorem iX7_partsOf_263 : LdI MX7_partsOf 263 13 265 := Or.inl ⟨by decide +kernel, rfl⟩
theorem iX7_partsOf_265 : Ins MX7_partsOf 265 (.iconst 3) 1 266 := ⟨by decide +kernel, rfl⟩
theorem iX7_partsOf_266 : Jmp MX7_partsOf 266 (.if_icmp .ne) 273 269 := ⟨7, ⟨by decide +kernel, rfl⟩, by decide⟩
theorem iX7_partsOf_269 : Ins MX7_partsOf 269 (.iconst 1) 1 270 := ⟨by decide +kernel, rfl⟩
theorem iX7_partsOf_270 : Jmp MX7_partsOf 270 .goto 274 273 := ⟨4, ⟨by decide +kernel, rfl⟩, by decide⟩
theorem iX7_partsOf_273 : Ins MX7_partsOf 273 (.iconst 0) 1 274 := ⟨by decide +kernel, rfl⟩
theorem iX7_partsOf_274 : StI MX7_partsOf 274 11 276 := ⟨Or.inl ⟨by decide +kernel, rfl⟩, Nat.le_of_ble_eq_true rfl⟩
theorem iX7_partsOf_276 : Inc MX7_partsOf 276 12 (1) 279 := ⟨⟨by decide +kernel, rfl⟩, Nat.le_of_ble_eq_true rfl⟩
theorem iX7_partsOf_279 : Jmp MX7_partsOf 279 .goto 59 282 := ⟨-220, ⟨by decide +kernel, rfl⟩, by decide⟩
theorem iX7_partsOf_282 : Ins MX7_partsOf 282 (.iconst 1) 1 283 := ⟨by decide +kernel, rfl⟩
theorem iX7_partsOf_283 : StI MX7_partsOf 283 12 285 := ⟨Or.inl ⟨by decide +kernel, rfl⟩, Nat.le_of_ble_eq_true rfl⟩
theorem iX7_partsOf_285 : Ins MX7_partsOf 285 (.iconst 0) 1 286 := ⟨by decide +kernel, rfl⟩
theorem iX7_partsOf_286 : StI MX7_partsOf 286 13 288 := ⟨Or.inl ⟨by decide +kernel, rfl⟩, Nat.le_of_ble_eq_true rfl⟩
theorem iX7_partsOf_288 : LdI MX7_partsOf 288 13 290 := Or.inl ⟨by decide +kernel, rfl⟩
theorem iX7_partsOf_290 : LdA MX7_partsOf 290 0 291 := Or.inr ⟨0, rfl, by decide +kernel, rfl⟩
theorem iX7_partsOf_291 : Ins MX7_partsOf 291 (.getfield 68) 3 294 := ⟨by decide +kernel, rfl⟩
theorem iX7_partsOf_294 : Jmp MX7_partsOf 294 (.if_icmp .ge) 340 297 := ⟨46, ⟨by decide +kernel, rfl⟩, by decide⟩
theorem iX7_partsOf_297 : LdI MX7_partsOf 297 12 299 := Or.inl ⟨by decide +kernel, rfl⟩
theorem iX7_partsOf_299 : Jmp MX7_partsOf 299 (.ifCond .eq) 331 302 := ⟨32, ⟨by decide +kernel, rfl⟩, by decide⟩
theorem iX7_partsOf_302 : LdI MX7_partsOf 302 13 304 := Or.inl ⟨by decide +kernel, rfl⟩
theorem iX7_partsOf_304 : LdI MX7_partsOf 304 1 305 := Or.inr ⟨1, rfl, by decide +kernel, rfl⟩
theorem iX7_partsOf_305 : Jmp MX7_partsOf 305 (.if_icmp .eq) 327 308 := ⟨22, ⟨by decide +kernel, rfl⟩, by decide⟩
theorem iX7_partsOf_308 : LdA MX7_partsOf 308 0 309 := Or.inr ⟨0, rfl, by decide +kernel, rfl⟩
theorem iX7_partsOf_309 : Ins MX7_partsOf 309 (.iconst 0) 1 310 := ⟨by decide +kernel, rfl⟩
theorem iX7_partsOf_310 : LdI MX7_partsOf 310 13 312 := Or.inl ⟨by decide +kernel, rfl⟩
theorem iX7_partsOf_312 : Ins MX7_partsOf 312 (.invokevirtual 85) 3 315 := ⟨by decide +kernel, rfl⟩
theorem iX7_partsOf_315 : LdI MX7_partsOf 315 6 317 := Or.inl ⟨by decide +kernel, rfl⟩
theorem iX7_partsOf_317 : LdI MX7_partsOf 317 7 319 := Or.inl ⟨by decide +kernel, rfl⟩
theorem iX7_partsOf_319 : LdI MX7_partsOf 319 8 321 := Or.inl ⟨by decide +kernel, rfl⟩
theorem iX7_partsOf_321 : Ins MX7_partsOf 321 (.invokestatic 82) 3 324 := ⟨by decide +kernel, rfl⟩
theorem iX7_partsOf_324 : Jmp MX7_partsOf 324 (.if_icmp .gt) 331 327 := ⟨7, ⟨by decide +kernel, rfl⟩, by decide⟩
theorem iX7_partsOf_327 : Ins MX7_partsOf 327 (.iconst 1) 1 328 := ⟨by decide +kernel, rfl⟩
theorem iX7_partsOf_328 : Jmp MX7_partsOf 328 .goto 332 331 := ⟨4, ⟨by decide +kernel, rfl⟩, by decide⟩
theorem iX7_partsOf_331 : Ins MX7_partsOf 331 (.iconst 0) 1 332 := ⟨by decide +kernel, rfl⟩
theorem iX7_partsOf_332 : StI MX7_partsOf 332 12 334 := ⟨Or.inl ⟨by decide +kernel, rfl⟩, Nat.le_of_ble_eq_true rfl⟩
theorem iX7_partsOf_334 : Inc MX7_partsOf 334 13 (1) 337 := ⟨⟨by decide +kernel, rfl⟩, Nat.le_of_ble_eq_true rfl⟩
theorem iX7_partsOf_337 : Jmp MX7_partsOf 337 .goto 288 340 := ⟨-49, ⟨by decide +kernel, rfl⟩, by decide⟩
theorem iX7_partsOf_340 : LdI MX7_partsOf 340 12 342 := Or.inl ⟨by decide +kernel, rfl⟩
theorem iX7_partsOf_342 : Jmp MX7_partsOf 342 (.ifCond .eq) 350 345 := ⟨8, ⟨by decide +kernel, rfl⟩, by decide⟩
theorem iX7_partsOf_345 : LdL MX7_partsOf 345 9 347 := Or.inl ⟨by decide +kernel, rfl⟩
theorem iX7_partsOf_347 : Jmp MX7_partsOf 347 .goto 351 350 := ⟨4, ⟨by decide +kernel, rfl⟩, by decide⟩
theorem iX7_partsOf_350 : Ins MX7_partsOf 350 (.lconst 0) 1 351 := ⟨by decide +kernel, rfl⟩
theorem iX7_partsOf_351 : Ins MX7_partsOf 351 (.lreturn) 1 352 := ⟨by decide +kernel, rfl⟩
theorem iX7_first_0 : LdA MX7_first 0 0 1 := Or.inr ⟨0, rfl, by decide +kernel, rfl⟩
theorem iX7_first_1 : LdI MX7_first 1 1 2 := Or.inr ⟨1, rfl, by decide +kernel, rfl⟩
theorem iX7_first_2 : LdI MX7_first 2 2 3 := Or.inr ⟨2, rfl, by decide +kernel, rfl⟩
theorem iX7_first_3 : Ins MX7_first 3 (.invokevirtual 160) 3 6 := ⟨by decide +kernel, rfl⟩
theorem iX7_first_6 : StI MX7_first 6 4 8 := ⟨Or.inl ⟨by decide +kernel, rfl⟩, Nat.le_of_ble_eq_true rfl⟩
theorem iX7_first_8 : LdI MX7_first 8 4 10 := Or.inl ⟨by decide +kernel, rfl⟩
theorem iX7_first_10 : Jmp MX7_first 10 (.ifCond .eq) 17 13 := ⟨7, ⟨by decide +kernel, rfl⟩, by decide⟩
theorem iX7_first_13 : LdI MX7_first 13 4 15 := Or.inl ⟨by decide +kernel, rfl⟩
theorem iX7_first_15 : Ins MX7_first 15 (.i2l) 1 16 := ⟨by decide +kernel, rfl⟩
theorem iX7_first_16 : Ins MX7_first 16 (.lreturn) 1 17 := ⟨by decide +kernel, rfl⟩
theorem iX7_first_17 : Ins MX7_first 17 (.lconst 0) 1 18 := ⟨by decide +kernel, rfl⟩
theorem iX7_first_18 : StL MX7_first 18 5 20 := ⟨Or.inl ⟨by decide +kernel, rfl⟩, Nat.le_of_ble_eq_true rfl⟩
theorem iX7_first_20 : Ins MX7_first 20 (.iconst 0) 1 21 := ⟨by decide +kernel, rfl⟩
theorem iX7_first_21 : StI MX7_first 21 7 23 := ⟨Or.inl ⟨by decide +kernel, rfl⟩, Nat.le_of_ble_eq_true rfl⟩
theorem iX7_first_23 : LdI MX7_first 23 7 25 := Or.inl ⟨by decide +kernel, rfl⟩
theorem iX7_first_25 : Ins MX7_first 25 (.iconst 1) 1 26 := ⟨by decide +kernel, rfl⟩
theorem iX7_first_26 : Ins MX7_first 26 (.iconst 2) 1 27 := ⟨by decide +kernel, rfl⟩
theorem iX7_first_27 : LdI MX7_first 27 2 28 := Or.inr ⟨2, rfl, by decide +kernel, rfl⟩
theorem iX7_first_28 : Ins MX7_first 28 (.imul) 1 29 := ⟨by decide +kernel, rfl⟩
theorem iX7_first_29 : Ins MX7_first 29 (.ishl) 1 30 := ⟨by decide +kernel, rfl⟩
theorem iX7_first_30 : Jmp MX7_first 30 (.if_icmp .ge) 52 33 := ⟨22, ⟨by decide +kernel, rfl⟩, by decide⟩
theorem iX7_first_33 : LdL MX7_first 33 5 35 := Or.inl ⟨by decide +kernel, rfl⟩
theorem iX7_first_35 : LdA MX7_first 35 0 36 := Or.inr ⟨0, rfl, by decide +kernel, rfl⟩
theorem iX7_first_36 : LdI MX7_first 36 1 37 := Or.inr ⟨1, rfl, by decide +kernel, rfl⟩
theorem iX7_first_37 : LdI MX7_first 37 2 38 := Or.inr ⟨2, rfl, by decide +kernel, rfl⟩
theorem iX7_first_38 : LdI MX7_first 38 7 40 := Or.inl ⟨by decide +kernel, rfl⟩
theorem iX7_first_40 : Ins MX7_first 40 (.invokevirtual 166) 3 43 := ⟨by decide +kernel, rfl⟩
theorem iX7_first_43 : Ins MX7_first 43 (.ladd) 1 44 := ⟨by decide +kernel, rfl⟩
theorem iX7_first_44 : StL MX7_first 44 5 46 := ⟨Or.inl ⟨by decide +kernel, rfl⟩, Nat.le_of_ble_eq_true rfl⟩
theorem iX7_first_46 : Inc MX7_first 46 7 (1) 49 := ⟨⟨by decide +kernel, rfl⟩, Nat.le_of_ble_eq_true rfl⟩
theorem iX7_first_49 : Jmp MX7_first 49 .goto 23 52 := ⟨-26, ⟨by decide +kernel, rfl⟩, by decide⟩
theorem iX7_first_52 : LdL MX7_first 52 5 54 := Or.inl ⟨by decide +kernel, rfl⟩
theorem iX7_first_54 : Ins MX7_first 54 (.iconst 3) 1 55 := ⟨by decide +kernel, rfl⟩
theorem iX7_first_55 : LdI MX7_first 55 2 56 := Or.inr ⟨2, rfl, by decide +kernel, rfl⟩
theorem iX7_first_56 : Ins MX7_first 56 (.imul) 1 57 := ⟨by decide +kernel, rfl⟩
theorem iX7_first_57 : Ins MX7_first 57 (.invokestatic 124) 3 60 := ⟨by decide +kernel, rfl⟩
theorem iX7_first_60 : Ins MX7_first 60 (.invokestatic 139) 3 63 := ⟨by decide +kernel, rfl⟩
theorem iX7_first_63 : StL MX7_first 63 7 65 := ⟨Or.inl ⟨by decide +kernel, rfl⟩, Nat.le_of_ble_eq_true rfl⟩
theorem iX7_first_65 : LdI MX7_first 65 3 66 := Or.inr ⟨3, rfl, by decide +kernel, rfl⟩
theorem iX7_first_66 : Jmp MX7_first 66 (.ifCond .eq) 77 69 := ⟨11, ⟨by decide +kernel, rfl⟩, by decide⟩
theorem iX7_first_69 : LdL MX7_first 69 5 71 := Or.inl ⟨by decide +kernel, rfl⟩
theorem iX7_first_71 : LdL MX7_first 71 7 73 := Or.inl ⟨by decide +kernel, rfl⟩
theorem iX7_first_73 : Ins MX7_first 73 (.ldiv) 1 74 := ⟨by decide +kernel, rfl⟩
theorem iX7_first_74 : Jmp MX7_first 74 .goto 86 77 := ⟨12, ⟨by decide +kernel, rfl⟩, by decide⟩
theorem iX7_first_77 : Ins MX7_first 77 (.iconst 3) 1 78 := ⟨by decide +kernel, rfl⟩
theorem iX7_first_78 : LdI MX7_first 78 2 79 := Or.inr ⟨2, rfl, by decide +kernel, rfl⟩
theorem iX7_first_79 : Ins MX7_first 79 (.imul) 1 80 := ⟨by decide +kernel, rfl⟩
theorem iX7_first_80 : Ins MX7_first 80 (.invokestatic 124) 3 83 := ⟨by decide +kernel, rfl⟩
theorem iX7_first_83 : LdL MX7_first 83 7 85 := Or.inl ⟨by decide +kernel, rfl⟩
theorem iX7_first_85 : Ins MX7_first 85 (.ldiv) 1 86 := ⟨by decide +kernel, rfl⟩
theorem iX7_first_86 : Ins MX7_first 86 (.lreturn) 1 87 := ⟨by decide +kernel, rfl⟩
theorem iX7_alone_0 : LdA MX7_alone 0 0 1 := Or.inr ⟨0, rfl, by decide +kernel, rfl⟩
theorem iX7_alone_1 : LdI MX7_alone 1 1 2 := Or.inr ⟨1, rfl, by decide +kernel, rfl⟩
theorem iX7_alone_2 : Ins MX7_alone 2 (.invokevirtual 74) 3 5 := ⟨by decide +kernel, rfl⟩
theorem iX7_alone_5 : Jmp MX7_alone 5 (.ifCond .eq) 16 8 := ⟨11, ⟨by decide +kernel, rfl⟩, by decide⟩
theorem iX7_alone_8 : LdA MX7_alone 8 0 9 := Or.inr ⟨0, rfl, by decide +kernel, rfl⟩
theorem iX7_alone_9 : LdI MX7_alone 9 2 10 := Or.inr ⟨2, rfl, by decide +kernel, rfl⟩
theorem iX7_alone_10 : Ins MX7_alone 10 (.invokevirtual 74) 3 13 := ⟨by decide +kernel, rfl⟩
theorem iX7_alone_13 : Jmp MX7_alone 13 (.ifCond .ne) 18 16 := ⟨5, ⟨by decide +kernel, rfl⟩, by decide⟩
theorem iX7_alone_16 : Ins MX7_alone 16 (.iconst (-1)) 1 17 := ⟨by decide +kernel, rfl⟩
theorem iX7_alone_17 : Ins MX7_alone 17 (.ireturn) 1 18 := ⟨by decide +kernel, rfl⟩
theorem iX7_alone_18 : LdI MX7_alone 18 1 19 := Or.inr ⟨1, rfl, by decide +kernel, rfl⟩
theorem iX7_alone_19 : LdI MX7_alone 19 2 20 := Or.inr ⟨2, rfl, by decide +kernel, rfl⟩
theorem iX7_alone_20 : Jmp MX7_alone 20 (.if_icmp .ne) 26 23 := ⟨6, ⟨by decide +kernel, rfl⟩, by decide⟩
theorem iX7_alone_23 : Ins MX7_alone 23 (.bipush (-2)) 2 25 := ⟨by decide +kernel, rfl⟩
theorem iX7_alone_25 : Ins MX7_alone 25 (.ireturn) 1 26 := ⟨by decide +kernel, rfl⟩
theorem iX7_alone_26 : LdA MX7_alone 26 0 27 := Or.inr ⟨0, rfl, by decide +kernel, rfl⟩
theorem iX7_alone_27 : LdI MX7_alone 27 1 28 := Or.inr ⟨1, rfl, by decide +kernel, rfl⟩
theorem iX7_alone_28 : Ins MX7_alone 28 (.invokevirtual 131) 3 31 := ⟨by decide +kernel, rfl⟩
theorem iX7_alone_31 : Jmp MX7_alone 31 (.ifCond .ne) 42 34 := ⟨11, ⟨by decide +kernel, rfl⟩, by decide⟩
theorem iX7_alone_34 : LdA MX7_alone 34 0 35 := Or.inr ⟨0, rfl, by decide +kernel, rfl⟩
theorem iX7_alone_35 : LdI MX7_alone 35 2 36 := Or.inr ⟨2, rfl, by decide +kernel, rfl⟩
theorem iX7_alone_36 : Ins MX7_alone 36 (.invokevirtual 131) 3 39 := ⟨by decide +kernel, rfl⟩
theorem iX7_alone_39 : Jmp MX7_alone 39 (.ifCond .eq) 45 42 := ⟨6, ⟨by decide +kernel, rfl⟩, by decide⟩
theorem iX7_alone_42 : Ins MX7_alone 42 (.bipush (-3)) 2 44 := ⟨by decide +kernel, rfl⟩
theorem iX7_alone_44 : Ins MX7_alone 44 (.ireturn) 1 45 := ⟨by decide +kernel, rfl⟩
theorem iX7_alone_45 : LdA MX7_alone 45 0 46 := Or.inr ⟨0, rfl, by decide +kernel, rfl⟩
theorem iX7_alone_46 : LdI MX7_alone 46 1 47 := Or.inr ⟨1, rfl, by decide +kernel, rfl⟩
theorem iX7_alone_47 : Ins MX7_alone 47 (.invokevirtual 134) 3 50 := ⟨by decide +kernel, rfl⟩
theorem iX7_alone_50 : StI MX7_alone 50 4 52 := ⟨Or.inl ⟨by decide +kernel, rfl⟩, Nat.le_of_ble_eq_true rfl⟩
theorem iX7_alone_52 : LdA MX7_alone 52 0 53 := Or.inr ⟨0, rfl, by decide +kernel, rfl⟩
theorem iX7_alone_53 : LdI MX7_alone 53 2 54 := Or.inr ⟨2, rfl, by decide +kernel, rfl⟩
theorem iX7_alone_54 : Ins MX7_alone 54 (.invokevirtual 134) 3 57 := ⟨by decide +kernel, rfl⟩
theorem iX7_alone_57 : StI MX7_alone 57 5 59 := ⟨Or.inl ⟨by decide +kernel, rfl⟩, Nat.le_of_ble_eq_true rfl⟩
theorem iX7_alone_59 : LdI MX7_alone 59 4 61 := Or.inl ⟨by decide +kernel, rfl⟩
theorem iX7_alone_61 : Ins MX7_alone 61 (.sipush 1000) 3 64 := ⟨by decide +kernel, rfl⟩
theorem iX7_alone_64 : LdI MX7_alone 64 5 66 := Or.inl ⟨by decide +kernel, rfl⟩
theorem iX7_alone_66 : Ins MX7_alone 66 (.isub) 1 67 := ⟨by decide +kernel, rfl⟩
theorem iX7_alone_67 : Ins MX7_alone 67 (.imul) 1 68 := ⟨by decide +kernel, rfl⟩
theorem iX7_alone_68 : LdI MX7_alone 68 5 70 := Or.inl ⟨by decide +kernel, rfl⟩
theorem iX7_alone_70 : Ins MX7_alone 70 (.sipush 1000) 3 73 := ⟨by decide +kernel, rfl⟩
theorem iX7_alone_73 : LdI MX7_alone 73 4 75 := Or.inl ⟨by decide +kernel, rfl⟩
theorem iX7_alone_75 : Ins MX7_alone 75 (.isub) 1 76 := ⟨by decide +kernel, rfl⟩
theorem iX7_alone_76 : Ins MX7_alone 76 (.imul) 1 77 := ⟨by decide +kernel, rfl⟩
theorem iX7_alone_77 : Ins MX7_alone 77 (.iadd) 1 78 := ⟨by decide +kernel, rfl⟩
theorem iX7_alone_78 : StI MX7_alone 78 6 80 := ⟨Or.inl ⟨by decide +kernel, rfl⟩, Nat.le_of_ble_eq_true rfl⟩
theorem iX7_alone_80 : LdI MX7_alone 80 6 82 := Or.inl ⟨by decide +kernel, rfl⟩
theorem iX7_alone_82 : Ins MX7_alone 82 (.i2l) 1 83 := ⟨by decide +kernel, rfl⟩
theorem iX7_alone_83 : Ins MX7_alone 83 (.ldc2_w 170) 3 86 := ⟨by decide +kernel, rfl⟩
theorem iX7_alone_86 : Ins MX7_alone 86 (.invokestatic 139) 3 89 := ⟨by decide +kernel, rfl⟩
theorem iX7_alone_89 : Ins MX7_alone 89 (.l2i) 1 90 := ⟨by decide +kernel, rfl⟩
theorem iX7_alone_90 : StI MX7_alone 90 7 92 := ⟨Or.inl ⟨by decide +kernel, rfl⟩, Nat.le_of_ble_eq_true rfl⟩
theorem iX7_alone_92 : LdI MX7_alone 92 3 93 := Or.inr ⟨3, rfl, by decide +kernel, rfl⟩
theorem iX7_alone_93 : Jmp MX7_alone 93 (.ifCond .eq) 104 96 := ⟨11, ⟨by decide +kernel, rfl⟩, by decide⟩
theorem iX7_alone_96 : LdI MX7_alone 96 6 98 := Or.inl ⟨by decide +kernel, rfl⟩
theorem iX7_alone_98 : LdI MX7_alone 98 7 100 := Or.inl ⟨by decide +kernel, rfl⟩
theorem iX7_alone_100 : Ins MX7_alone 100 (.idiv) 1 101 := ⟨by decide +kernel, rfl⟩
theorem iX7_alone_101 : Jmp MX7_alone 101 .goto 109 104 := ⟨8, ⟨by decide +kernel, rfl⟩, by decide⟩
theorem iX7_alone_104 : Ins MX7_alone 104 (.ldc 81) 2 106 := ⟨by decide +kernel, rfl⟩
theorem iX7_alone_106 : LdI MX7_alone 106 7 108 := Or.inl ⟨by decide +kernel, rfl⟩
theorem iX7_alone_108 : Ins MX7_alone 108 (.idiv) 1 109 := ⟨by decide +kernel, rfl⟩
theorem iX7_alone_109 : Ins MX7_alone 109 (.ireturn) 1 110 := ⟨by decide +kernel, rfl⟩
theorem iX7_sheets_0 : LdI MX7_sheets 0 1 1 := Or.inr ⟨1, rfl, by decide +kernel, rfl⟩
theorem iX7_sheets_1 : Ins MX7_sheets 1 (.i2l) 1 2 := ⟨by decide +kernel, rfl⟩
theorem iX7_sheets_2 : Ins MX7_sheets 2 (.lconst 1) 1 3 := ⟨by decide +kernel, rfl⟩
theorem iX7_sheets_3 : Ins MX7_sheets 3 (.ldc2_w 172) 3 6 := ⟨by decide +kernel, rfl⟩
theorem iX7_sheets_6 : Ins MX7_sheets 6 (.invokestatic 44) 3 9 := ⟨by decide +kernel, rfl⟩
theorem iX7_sheets_9 : Jmp MX7_sheets 9 (.ifCond .eq) 35 12 := ⟨26, ⟨by decide +kernel, rfl⟩, by decide⟩
theorem iX7_sheets_12 : LdI MX7_sheets 12 2 13 := Or.inr ⟨2, rfl, by decide +kernel, rfl⟩
theorem iX7_sheets_13 : Ins MX7_sheets 13 (.i2l) 1 14 := ⟨by decide +kernel, rfl⟩
theorem iX7_sheets_14 : Ins MX7_sheets 14 (.lconst 0) 1 15 := ⟨by decide +kernel, rfl⟩
theorem iX7_sheets_15 : LdI MX7_sheets 15 1 16 := Or.inr ⟨1, rfl, by decide +kernel, rfl⟩
theorem iX7_sheets_16 : Ins MX7_sheets 16 (.i2l) 1 17 := ⟨by decide +kernel, rfl⟩
theorem iX7_sheets_17 : Ins MX7_sheets 17 (.invokestatic 44) 3 20 := ⟨by decide +kernel, rfl⟩
theorem iX7_sheets_20 : Jmp MX7_sheets 20 (.ifCond .eq) 35 23 := ⟨15, ⟨by decide +kernel, rfl⟩, by decide⟩
theorem iX7_sheets_23 : LdI MX7_sheets 23 3 24 := Or.inr ⟨3, rfl, by decide +kernel, rfl⟩
theorem iX7_sheets_24 : Ins MX7_sheets 24 (.i2l) 1 25 := ⟨by decide +kernel, rfl⟩
theorem iX7_sheets_25 : Ins MX7_sheets 25 (.lconst 0) 1 26 := ⟨by decide +kernel, rfl⟩
theorem iX7_sheets_26 : Ins MX7_sheets 26 (.ldc2_w 174) 3 29 := ⟨by decide +kernel, rfl⟩
theorem iX7_sheets_29 : Ins MX7_sheets 29 (.invokestatic 44) 3 32 := ⟨by decide +kernel, rfl⟩
theorem iX7_sheets_32 : Jmp MX7_sheets 32 (.ifCond .ne) 38 35 := ⟨6, ⟨by decide +kernel, rfl⟩, by decide⟩
theorem iX7_sheets_35 : Ins MX7_sheets 35 (.bipush (-2)) 2 37 := ⟨by decide +kernel, rfl⟩
theorem iX7_sheets_37 : Ins MX7_sheets 37 (.ireturn) 1 38 := ⟨by decide +kernel, rfl⟩
theorem iX7_sheets_38 : Ins MX7_sheets 38 (.iconst 0) 1 39 := ⟨by decide +kernel, rfl⟩
theorem iX7_sheets_39 : StI MX7_sheets 39 4 41 := ⟨Or.inl ⟨by decide +kernel, rfl⟩, Nat.le_of_ble_eq_true rfl⟩
theorem iX7_sheets_41 : Ins MX7_sheets 41 (.iconst 0) 1 42 := ⟨by decide +kernel, rfl⟩
theorem iX7_sheets_42 : StI MX7_sheets 42 5 44 := ⟨Or.inl ⟨by decide +kernel, rfl⟩, Nat.le_of_ble_eq_true rfl⟩
theorem iX7_sheets_44 : LdI MX7_sheets 44 5 46 := Or.inl ⟨by decide +kernel, rfl⟩
theorem iX7_sheets_46 : Ins MX7_sheets 46 (.sipush 420) 3 49 := ⟨by decide +kernel, rfl⟩
theorem iX7_sheets_49 : Jmp MX7_sheets 49 (.if_icmp .ge) 75 52 := ⟨26, ⟨by decide +kernel, rfl⟩, by decide⟩
theorem iX7_sheets_52 : LdA MX7_sheets 52 0 53 := Or.inr ⟨0, rfl, by decide +kernel, rfl⟩
theorem iX7_sheets_53 : Ins MX7_sheets 53 (.getfield 29) 3 56 := ⟨by decide +kernel, rfl⟩
theorem iX7_sheets_56 : LdI MX7_sheets 56 5 58 := Or.inl ⟨by decide +kernel, rfl⟩
theorem iX7_sheets_58 : LdI MX7_sheets 58 5 60 := Or.inl ⟨by decide +kernel, rfl⟩
theorem iX7_sheets_60 : Jmp MX7_sheets 60 (.ifCond .ne) 67 63 := ⟨7, ⟨by decide +kernel, rfl⟩, by decide⟩
theorem iX7_sheets_63 : Ins MX7_sheets 63 (.iconst 1) 1 64 := ⟨by decide +kernel, rfl⟩
theorem iX7_sheets_64 : Jmp MX7_sheets 64 .goto 68 67 := ⟨4, ⟨by decide +kernel, rfl⟩, by decide⟩
theorem iX7_sheets_67 : Ins MX7_sheets 67 (.iconst 0) 1 68 := ⟨by decide +kernel, rfl⟩
theorem iX7_sheets_68 : Ins MX7_sheets 68 (.iastore) 1 69 := ⟨by decide +kernel, rfl⟩
theorem iX7_sheets_69 : Inc MX7_sheets 69 5 (1) 72 := ⟨⟨by decide +kernel, rfl⟩, Nat.le_of_ble_eq_true rfl⟩
theorem iX7_sheets_72 : Jmp MX7_sheets 72 .goto 44 75 := ⟨-28, ⟨by decide +kernel, rfl⟩, by decide⟩
theorem iX7_sheets_75 : Ins MX7_sheets 75 (.iconst 1) 1 76 := ⟨by decide +kernel, rfl⟩
theorem iX7_sheets_76 : StI MX7_sheets 76 5 78 := ⟨Or.inl ⟨by decide +kernel, rfl⟩, Nat.le_of_ble_eq_true rfl⟩
theorem iX7_sheets_78 : LdI MX7_sheets 78 5 80 := Or.inl ⟨by decide +kernel, rfl⟩
theorem iX7_sheets_80 : LdI MX7_sheets 80 1 81 := Or.inr ⟨1, rfl, by decide +kernel, rfl⟩
theorem iX7_sheets_81 : Jmp MX7_sheets 81 (.if_icmp .gt) 311 84 := ⟨230, ⟨by decide +kernel, rfl⟩, by decide⟩
theorem iX7_sheets_84 : Ins MX7_sheets 84 (.iconst 0) 1 85 := ⟨by decide +kernel, rfl⟩
theorem iX7_sheets_85 : StI MX7_sheets 85 6 87 := ⟨Or.inl ⟨by decide +kernel, rfl⟩, Nat.le_of_ble_eq_true rfl⟩
theorem iX7_sheets_87 : LdI MX7_sheets 87 6 89 := Or.inl ⟨by decide +kernel, rfl⟩
theorem iX7_sheets_89 : Ins MX7_sheets 89 (.sipush 420) 3 92 := ⟨by decide +kernel, rfl⟩
theorem iX7_sheets_92 : Jmp MX7_sheets 92 (.if_icmp .ge) 109 95 := ⟨17, ⟨by decide +kernel, rfl⟩, by decide⟩
theorem iX7_sheets_95 : LdA MX7_sheets 95 0 96 := Or.inr ⟨0, rfl, by decide +kernel, rfl⟩
theorem iX7_sheets_96 : Ins MX7_sheets 96 (.getfield 32) 3 99 := ⟨by decide +kernel, rfl⟩
theorem iX7_sheets_99 : LdI MX7_sheets 99 6 101 := Or.inl ⟨by decide +kernel, rfl⟩
theorem iX7_sheets_101 : Ins MX7_sheets 101 (.iconst 0) 1 102 := ⟨by decide +kernel, rfl⟩
theorem iX7_sheets_102 : Ins MX7_sheets 102 (.iastore) 1 103 := ⟨by decide +kernel, rfl⟩
theorem iX7_sheets_103 : Inc MX7_sheets 103 6 (1) 106 := ⟨⟨by decide +kernel, rfl⟩, Nat.le_of_ble_eq_true rfl⟩
theorem iX7_sheets_106 : Jmp MX7_sheets 106 .goto 87 109 := ⟨-19, ⟨by decide +kernel, rfl⟩, by decide⟩
theorem iX7_sheets_109 : Ins MX7_sheets 109 (.iconst 0) 1 110 := ⟨by decide +kernel, rfl⟩
theorem iX7_sheets_110 : StI MX7_sheets 110 6 112 := ⟨Or.inl ⟨by decide +kernel, rfl⟩, Nat.le_of_ble_eq_true rfl⟩
theorem iX7_sheets_112 : LdI MX7_sheets 112 6 114 := Or.inl ⟨by decide +kernel, rfl⟩
theorem iX7_sheets_114 : Ins MX7_sheets 114 (.sipush 420) 3 117 := ⟨by decide +kernel, rfl⟩
theorem iX7_sheets_117 : Jmp MX7_sheets 117 (.if_icmp .ge) 274 120 := ⟨157, ⟨by decide +kernel, rfl⟩, by decide⟩
theorem iX7_sheets_120 : LdI MX7_sheets 120 6 122 := Or.inl ⟨by decide +kernel, rfl⟩
theorem iX7_sheets_122 : Ins MX7_sheets 122 (.sipush 140) 3 125 := ⟨by decide +kernel, rfl⟩
theorem iX7_sheets_125 : Ins MX7_sheets 125 (.idiv) 1 126 := ⟨by decide +kernel, rfl⟩
theorem iX7_sheets_126 : StI MX7_sheets 126 7 128 := ⟨Or.inl ⟨by decide +kernel, rfl⟩, Nat.le_of_ble_eq_true rfl⟩
theorem iX7_sheets_128 : LdI MX7_sheets 128 6 130 := Or.inl ⟨by decide +kernel, rfl⟩
theorem iX7_sheets_130 : Ins MX7_sheets 130 (.bipush 20) 2 132 := ⟨by decide +kernel, rfl⟩
theorem iX7_sheets_132 : Ins MX7_sheets 132 (.idiv) 1 133 := ⟨by decide +kernel, rfl⟩
theorem iX7_sheets_133 : Ins MX7_sheets 133 (.bipush 7) 2 135 := ⟨by decide +kernel, rfl⟩
theorem iX7_sheets_135 : Ins MX7_sheets 135 (.irem) 1 136 := ⟨by decide +kernel, rfl⟩
theorem iX7_sheets_136 : StI MX7_sheets 136 8 138 := ⟨Or.inl ⟨by decide +kernel, rfl⟩, Nat.le_of_ble_eq_true rfl⟩
theorem iX7_sheets_138 : LdI MX7_sheets 138 6 140 := Or.inl ⟨by decide +kernel, rfl⟩
theorem iX7_sheets_140 : Ins MX7_sheets 140 (.bipush 20) 2 142 := ⟨by decide +kernel, rfl⟩
theorem iX7_sheets_142 : Ins MX7_sheets 142 (.irem) 1 143 := ⟨by decide +kernel, rfl⟩
theorem iX7_sheets_143 : StI MX7_sheets 143 9 145 := ⟨Or.inl ⟨by decide +kernel, rfl⟩, Nat.le_of_ble_eq_true rfl⟩
theorem iX7_sheets_145 : Ins MX7_sheets 145 (.iconst 0) 1 146 := ⟨by decide +kernel, rfl⟩
theorem iX7_sheets_146 : StI MX7_sheets 146 10 148 := ⟨Or.inl ⟨by decide +kernel, rfl⟩, Nat.le_of_ble_eq_true rfl⟩
theorem iX7_sheets_148 : LdI MX7_sheets 148 7 150 := Or.inl ⟨by decide +kernel, rfl⟩
theorem iX7_sheets_150 : LdI MX7_sheets 150 10 152 := Or.inl ⟨by decide +kernel, rfl⟩
theorem iX7_sheets_152 : Ins MX7_sheets 152 (.iadd) 1 153 := ⟨by decide +kernel, rfl⟩
theorem iX7_sheets_153 : Ins MX7_sheets 153 (.iconst 3) 1 154 := ⟨by decide +kernel, rfl⟩
theorem iX7_sheets_154 : Jmp MX7_sheets 154 (.if_icmp .ge) 235 157 := ⟨81, ⟨by decide +kernel, rfl⟩, by decide⟩
theorem iX7_sheets_157 : LdA MX7_sheets 157 0 158 := Or.inr ⟨0, rfl, by decide +kernel, rfl⟩
theorem iX7_sheets_158 : Ins MX7_sheets 158 (.getfield 29) 3 161 := ⟨by decide +kernel, rfl⟩
theorem iX7_sheets_161 : LdI MX7_sheets 161 6 163 := Or.inl ⟨by decide +kernel, rfl⟩
theorem iX7_sheets_163 : Ins MX7_sheets 163 (.iaload) 1 164 := ⟨by decide +kernel, rfl⟩
theorem iX7_sheets_164 : Jmp MX7_sheets 164 (.ifCond .le) 235 167 := ⟨71, ⟨by decide +kernel, rfl⟩, by decide⟩
theorem iX7_sheets_167 : LdA MX7_sheets 167 0 168 := Or.inr ⟨0, rfl, by decide +kernel, rfl⟩
theorem iX7_sheets_168 : Ins MX7_sheets 168 (.getfield 32) 3 171 := ⟨by decide +kernel, rfl⟩
theorem iX7_sheets_171 : Ins MX7_sheets 171 (.bipush 20) 2 173 := ⟨by decide +kernel, rfl⟩
theorem iX7_sheets_173 : LdI MX7_sheets 173 5 175 := Or.inl ⟨by decide +kernel, rfl⟩
theorem iX7_sheets_175 : Ins MX7_sheets 175 (.imul) 1 176 := ⟨by decide +kernel, rfl⟩
theorem iX7_sheets_176 : LdI MX7_sheets 176 9 178 := Or.inl ⟨by decide +kernel, rfl⟩
theorem iX7_sheets_178 : Ins MX7_sheets 178 (.iadd) 1 179 := ⟨by decide +kernel, rfl⟩
theorem iX7_sheets_179 : LdI MX7_sheets 179 10 181 := Or.inl ⟨by decide +kernel, rfl⟩
theorem iX7_sheets_181 : Ins MX7_sheets 181 (.iadd) 1 182 := ⟨by decide +kernel, rfl⟩
theorem iX7_sheets_182 : Ins MX7_sheets 182 (.dup2) 1 183 := ⟨by decide +kernel, rfl⟩
theorem iX7_sheets_183 : Ins MX7_sheets 183 (.iaload) 1 184 := ⟨by decide +kernel, rfl⟩
theorem iX7_sheets_184 : LdA MX7_sheets 184 0 185 := Or.inr ⟨0, rfl, by decide +kernel, rfl⟩
theorem iX7_sheets_185 : Ins MX7_sheets 185 (.getfield 29) 3 188 := ⟨by decide +kernel, rfl⟩
theorem iX7_sheets_188 : LdI MX7_sheets 188 6 190 := Or.inl ⟨by decide +kernel, rfl⟩
theorem iX7_sheets_190 : Ins MX7_sheets 190 (.iaload) 1 191 := ⟨by decide +kernel, rfl⟩
theorem iX7_sheets_191 : Ins MX7_sheets 191 (.iadd) 1 192 := ⟨by decide +kernel, rfl⟩
theorem iX7_sheets_192 : Ins MX7_sheets 192 (.iastore) 1 193 := ⟨by decide +kernel, rfl⟩
theorem iX7_sheets_193 : LdA MX7_sheets 193 0 194 := Or.inr ⟨0, rfl, by decide +kernel, rfl⟩
theorem iX7_sheets_194 : Ins MX7_sheets 194 (.getfield 32) 3 197 := ⟨by decide +kernel, rfl⟩
theorem iX7_sheets_197 : Ins MX7_sheets 197 (.sipush 140) 3 200 := ⟨by decide +kernel, rfl⟩
theorem iX7_sheets_200 : LdI MX7_sheets 200 7 202 := Or.inl ⟨by decide +kernel, rfl⟩
theorem iX7_sheets_202 : LdI MX7_sheets 202 10 204 := Or.inl ⟨by decide +kernel, rfl⟩
theorem iX7_sheets_204 : Ins MX7_sheets 204 (.iadd) 1 205 := ⟨by decide +kernel, rfl⟩
theorem iX7_sheets_205 : Ins MX7_sheets 205 (.imul) 1 206 := ⟨by decide +kernel, rfl⟩
theorem iX7_sheets_206 : Ins MX7_sheets 206 (.bipush 20) 2 208 := ⟨by decide +kernel, rfl⟩
theorem iX7_sheets_208 : LdI MX7_sheets 208 8 210 := Or.inl ⟨by decide +kernel, rfl⟩
theorem iX7_sheets_210 : Ins MX7_sheets 210 (.imul) 1 211 := ⟨by decide +kernel, rfl⟩
theorem iX7_sheets_211 : Ins MX7_sheets 211 (.iadd) 1 212 := ⟨by decide +kernel, rfl⟩
theorem iX7_sheets_212 : LdI MX7_sheets 212 9 214 := Or.inl ⟨by decide +kernel, rfl⟩
theorem iX7_sheets_214 : Ins MX7_sheets 214 (.iadd) 1 215 := ⟨by decide +kernel, rfl⟩
theorem iX7_sheets_215 : LdI MX7_sheets 215 10 217 := Or.inl ⟨by decide +kernel, rfl⟩
theorem iX7_sheets_217 : Ins MX7_sheets 217 (.iadd) 1 218 := ⟨by decide +kernel, rfl⟩
theorem iX7_sheets_218 : Ins MX7_sheets 218 (.dup2) 1 219 := ⟨by decide +kernel, rfl⟩
theorem iX7_sheets_219 : Ins MX7_sheets 219 (.iaload) 1 220 := ⟨by decide +kernel, rfl⟩
theorem iX7_sheets_220 : LdA MX7_sheets 220 0 221 := Or.inr ⟨0, rfl, by decide +kernel, rfl⟩
theorem iX7_sheets_221 : Ins MX7_sheets 221 (.getfield 29) 3 224 := ⟨by decide +kernel, rfl⟩
theorem iX7_sheets_224 : LdI MX7_sheets 224 6 226 := Or.inl ⟨by decide +kernel, rfl⟩
theorem iX7_sheets_226 : Ins MX7_sheets 226 (.iaload) 1 227 := ⟨by decide +kernel, rfl⟩
theorem iX7_sheets_227 : Ins MX7_sheets 227 (.iadd) 1 228 := ⟨by decide +kernel, rfl⟩
theorem iX7_sheets_228 : Ins MX7_sheets 228 (.iastore) 1 229 := ⟨by decide +kernel, rfl⟩
theorem iX7_sheets_229 : Inc MX7_sheets 229 10 (1) 232 := ⟨⟨by decide +kernel, rfl⟩, Nat.le_of_ble_eq_true rfl⟩
theorem iX7_sheets_232 : Jmp MX7_sheets 232 .goto 148 235 := ⟨-84, ⟨by decide +kernel, rfl⟩, by decide⟩
theorem iX7_sheets_235 : LdI MX7_sheets 235 4 237 := Or.inl ⟨by decide +kernel, rfl⟩
theorem iX7_sheets_237 : LdI MX7_sheets 237 8 239 := Or.inl ⟨by decide +kernel, rfl⟩
theorem iX7_sheets_239 : LdI MX7_sheets 239 2 240 := Or.inr ⟨2, rfl, by decide +kernel, rfl⟩
theorem iX7_sheets_240 : Jmp MX7_sheets 240 (.if_icmp .ne) 264 243 := ⟨24, ⟨by decide +kernel, rfl⟩, by decide⟩
theorem iX7_sheets_243 : LdI MX7_sheets 243 9 245 := Or.inl ⟨by decide +kernel, rfl⟩
theorem iX7_sheets_245 : Ins MX7_sheets 245 (.iconst 3) 1 246 := ⟨by decide +kernel, rfl⟩
theorem iX7_sheets_246 : Ins MX7_sheets 246 (.iadd) 1 247 := ⟨by decide +kernel, rfl⟩
theorem iX7_sheets_247 : LdI MX7_sheets 247 7 249 := Or.inl ⟨by decide +kernel, rfl⟩
theorem iX7_sheets_249 : Ins MX7_sheets 249 (.isub) 1 250 := ⟨by decide +kernel, rfl⟩
theorem iX7_sheets_250 : LdI MX7_sheets 250 3 251 := Or.inr ⟨3, rfl, by decide +kernel, rfl⟩
theorem iX7_sheets_251 : Jmp MX7_sheets 251 (.if_icmp .ne) 264 254 := ⟨13, ⟨by decide +kernel, rfl⟩, by decide⟩
theorem iX7_sheets_254 : LdA MX7_sheets 254 0 255 := Or.inr ⟨0, rfl, by decide +kernel, rfl⟩
theorem iX7_sheets_255 : Ins MX7_sheets 255 (.getfield 29) 3 258 := ⟨by decide +kernel, rfl⟩
theorem iX7_sheets_258 : LdI MX7_sheets 258 6 260 := Or.inl ⟨by decide +kernel, rfl⟩
theorem iX7_sheets_260 : Ins MX7_sheets 260 (.iaload) 1 261 := ⟨by decide +kernel, rfl⟩
theorem iX7_sheets_261 : Jmp MX7_sheets 261 .goto 265 264 := ⟨4, ⟨by decide +kernel, rfl⟩, by decide⟩
theorem iX7_sheets_264 : Ins MX7_sheets 264 (.iconst 0) 1 265 := ⟨by decide +kernel, rfl⟩
theorem iX7_sheets_265 : Ins MX7_sheets 265 (.iadd) 1 266 := ⟨by decide +kernel, rfl⟩
theorem iX7_sheets_266 : StI MX7_sheets 266 4 268 := ⟨Or.inl ⟨by decide +kernel, rfl⟩, Nat.le_of_ble_eq_true rfl⟩
theorem iX7_sheets_268 : Inc MX7_sheets 268 6 (1) 271 := ⟨⟨by decide +kernel, rfl⟩, Nat.le_of_ble_eq_true rfl⟩
theorem iX7_sheets_271 : Jmp MX7_sheets 271 .goto 112 274 := ⟨-159, ⟨by decide +kernel, rfl⟩, by decide⟩
theorem iX7_sheets_274 : Ins MX7_sheets 274 (.iconst 0) 1 275 := ⟨by decide +kernel, rfl⟩
theorem iX7_sheets_275 : StI MX7_sheets 275 6 277 := ⟨Or.inl ⟨by decide +kernel, rfl⟩, Nat.le_of_ble_eq_true rfl⟩
theorem iX7_sheets_277 : LdI MX7_sheets 277 6 279 := Or.inl ⟨by decide +kernel, rfl⟩
theorem iX7_sheets_279 : Ins MX7_sheets 279 (.sipush 420) 3 282 := ⟨by decide +kernel, rfl⟩
theorem iX7_sheets_282 : Jmp MX7_sheets 282 (.if_icmp .ge) 305 285 := ⟨23, ⟨by decide +kernel, rfl⟩, by decide⟩
theorem iX7_sheets_285 : LdA MX7_sheets 285 0 286 := Or.inr ⟨0, rfl, by decide +kernel, rfl⟩
theorem iX7_sheets_286 : Ins MX7_sheets 286 (.getfield 29) 3 289 := ⟨by decide +kernel, rfl⟩
theorem iX7_sheets_289 : LdI MX7_sheets 289 6 291 := Or.inl ⟨by decide +kernel, rfl⟩
theorem iX7_sheets_291 : LdA MX7_sheets 291 0 292 := Or.inr ⟨0, rfl, by decide +kernel, rfl⟩
theorem iX7_sheets_292 : Ins MX7_sheets 292 (.getfield 32) 3 295 := ⟨by decide +kernel, rfl⟩
theorem iX7_sheets_295 : LdI MX7_sheets 295 6 297 := Or.inl ⟨by decide +kernel, rfl⟩
theorem iX7_sheets_297 : Ins MX7_sheets 297 (.iaload) 1 298 := ⟨by decide +kernel, rfl⟩
theorem iX7_sheets_298 : Ins MX7_sheets 298 (.iastore) 1 299 := ⟨by decide +kernel, rfl⟩
theorem iX7_sheets_299 : Inc MX7_sheets 299 6 (1) 302 := ⟨⟨by decide +kernel, rfl⟩, Nat.le_of_ble_eq_true rfl⟩
theorem iX7_sheets_302 : Jmp MX7_sheets 302 .goto 277 305 := ⟨-25, ⟨by decide +kernel, rfl⟩, by decide⟩
theorem iX7_sheets_305 : Inc MX7_sheets 305 5 (1) 308 := ⟨⟨by decide +kernel, rfl⟩, Nat.le_of_ble_eq_true rfl⟩
theorem iX7_sheets_308 : Jmp MX7_sheets 308 .goto 78 311 := ⟨-230, ⟨by decide +kernel, rfl⟩, by decide⟩
theorem iX7_sheets_311 : LdI MX7_sheets 311 4 313 := Or.inl ⟨by decide +kernel, rfl⟩
theorem iX7_sheets_313 : StI MX7_sheets 313 5 315 := ⟨Or.inl ⟨by decide +kernel, rfl⟩, Nat.le_of_ble_eq_true rfl⟩
theorem iX7_sheets_315 : Ins MX7_sheets 315 (.iconst 0) 1 316 := ⟨by decide +kernel, rfl⟩
theorem iX7_sheets_316 : StI MX7_sheets 316 6 318 := ⟨Or.inl ⟨by decide +kernel, rfl⟩, Nat.le_of_ble_eq_true rfl⟩
theorem iX7_sheets_318 : LdI MX7_sheets 318 6 320 := Or.inl ⟨by decide +kernel, rfl⟩
theorem iX7_sheets_320 : Ins MX7_sheets 320 (.iconst 3) 1 321 := ⟨by decide +kernel, rfl⟩
theorem iX7_sheets_321 : Jmp MX7_sheets 321 (.if_icmp .ge) 353 324 := ⟨32, ⟨by decide +kernel, rfl⟩, by decide⟩
theorem iX7_sheets_324 : LdI MX7_sheets 324 5 326 := Or.inl ⟨by decide +kernel, rfl⟩
theorem iX7_sheets_326 : LdA MX7_sheets 326 0 327 := Or.inr ⟨0, rfl, by decide +kernel, rfl⟩
theorem iX7_sheets_327 : Ins MX7_sheets 327 (.getfield 29) 3 330 := ⟨by decide +kernel, rfl⟩
theorem iX7_sheets_330 : Ins MX7_sheets 330 (.sipush 140) 3 333 := ⟨by decide +kernel, rfl⟩
theorem iX7_sheets_333 : LdI MX7_sheets 333 6 335 := Or.inl ⟨by decide +kernel, rfl⟩
theorem iX7_sheets_335 : Ins MX7_sheets 335 (.imul) 1 336 := ⟨by decide +kernel, rfl⟩
theorem iX7_sheets_336 : Ins MX7_sheets 336 (.bipush 20) 2 338 := ⟨by decide +kernel, rfl⟩
theorem iX7_sheets_338 : LdI MX7_sheets 338 2 339 := Or.inr ⟨2, rfl, by decide +kernel, rfl⟩
theorem iX7_sheets_339 : Ins MX7_sheets 339 (.imul) 1 340 := ⟨by decide +kernel, rfl⟩
theorem iX7_sheets_340 : Ins MX7_sheets 340 (.iadd) 1 341 := ⟨by decide +kernel, rfl⟩
theorem iX7_sheets_341 : LdI MX7_sheets 341 3 342 := Or.inr ⟨3, rfl, by decide +kernel, rfl⟩
theorem iX7_sheets_342 : Ins MX7_sheets 342 (.iadd) 1 343 := ⟨by decide +kernel, rfl⟩
theorem iX7_sheets_343 : Ins MX7_sheets 343 (.iaload) 1 344 := ⟨by decide +kernel, rfl⟩
theorem iX7_sheets_344 : Ins MX7_sheets 344 (.iadd) 1 345 := ⟨by decide +kernel, rfl⟩
theorem iX7_sheets_345 : StI MX7_sheets 345 5 347 := ⟨Or.inl ⟨by decide +kernel, rfl⟩, Nat.le_of_ble_eq_true rfl⟩
theorem iX7_sheets_347 : Inc MX7_sheets 347 6 (1) 350 := ⟨⟨by decide +kernel, rfl⟩, Nat.le_of_ble_eq_true rfl⟩
theorem iX7_sheets_350 : Jmp MX7_sheets 350 .goto 318 353 := ⟨-32, ⟨by decide +kernel, rfl⟩, by decide⟩
theorem iX7_sheets_353 : LdI MX7_sheets 353 5 355 := Or.inl ⟨by decide +kernel, rfl⟩
theorem iX7_sheets_355 : Ins MX7_sheets 355 (.ireturn) 1 356 := ⟨by decide +kernel, rfl⟩
theorem iX7_seed_0 : LdA MX7_seed 0 0 1 := Or.inr ⟨0, rfl, by decide +kernel, rfl⟩
theorem iX7_seed_1 : Ins MX7_seed 1 (.getfield 176) 3 4 := ⟨by decide +kernel, rfl⟩
theorem iX7_seed_4 : StL MX7_seed 4 3 5 := ⟨Or.inr ⟨3, rfl, by decide +kernel, rfl⟩, Nat.le_of_ble_eq_true rfl⟩
theorem iX7_seed_5 : LdA MX7_seed 5 0 6 := Or.inr ⟨0, rfl, by decide +kernel, rfl⟩
theorem iX7_seed_6 : LdL MX7_seed 6 1 7 := Or.inr ⟨1, rfl, by decide +kernel, rfl⟩
theorem iX7_seed_7 : Ins MX7_seed 7 (.putfield 176) 3 10 := ⟨by decide +kernel, rfl⟩
theorem iX7_seed_10 : LdL MX7_seed 10 3 11 := Or.inr ⟨3, rfl, by decide +kernel, rfl⟩
theorem iX7_seed_11 : Ins MX7_seed 11 (.lreturn) 1 12 := ⟨by decide +kernel, rfl⟩
theorem iX7_winners_0 : Ins MX7_winners 0 (.iconst 0) 1 1 := ⟨by decide +kernel, rfl⟩
theorem iX7_winners_1 : StI MX7_winners 1 2 2 := ⟨Or.inr ⟨2, rfl, by decide +kernel, rfl⟩, Nat.le_of_ble_eq_true rfl⟩
theorem iX7_winners_2 : Ins MX7_winners 2 (.iconst 0) 1 3 := ⟨by decide +kernel, rfl⟩
theorem iX7_winners_3 : StI MX7_winners 3 3 4 := ⟨Or.inr ⟨3, rfl, by decide +kernel, rfl⟩, Nat.le_of_ble_eq_true rfl⟩
theorem iX7_winners_4 : LdI MX7_winners 4 3 5 := Or.inr ⟨3, rfl, by decide +kernel, rfl⟩
theorem iX7_winners_5 : LdA MX7_winners 5 0 6 := Or.inr ⟨0, rfl, by decide +kernel, rfl⟩
theorem iX7_winners_6 : Ins MX7_winners 6 (.getfield 68) 3 9 := ⟨by decide +kernel, rfl⟩
theorem iX7_winners_9 : Jmp MX7_winners 9 (.if_icmp .ge) 37 12 := ⟨28, ⟨by decide +kernel, rfl⟩, by decide⟩
theorem iX7_winners_12 : LdI MX7_winners 12 2 13 := Or.inr ⟨2, rfl, by decide +kernel, rfl⟩
theorem iX7_winners_13 : LdA MX7_winners 13 0 14 := Or.inr ⟨0, rfl, by decide +kernel, rfl⟩
theorem iX7_winners_14 : LdI MX7_winners 14 1 15 := Or.inr ⟨1, rfl, by decide +kernel, rfl⟩
theorem iX7_winners_15 : LdI MX7_winners 15 3 16 := Or.inr ⟨3, rfl, by decide +kernel, rfl⟩
theorem iX7_winners_16 : Ins MX7_winners 16 (.invokevirtual 89) 3 19 := ⟨by decide +kernel, rfl⟩
theorem iX7_winners_19 : Jmp MX7_winners 19 (.ifCond .ne) 28 22 := ⟨9, ⟨by decide +kernel, rfl⟩, by decide⟩
theorem iX7_winners_22 : Ins MX7_winners 22 (.iconst 1) 1 23 := ⟨by decide +kernel, rfl⟩
theorem iX7_winners_23 : LdI MX7_winners 23 3 24 := Or.inr ⟨3, rfl, by decide +kernel, rfl⟩
theorem iX7_winners_24 : Ins MX7_winners 24 (.ishl) 1 25 := ⟨by decide +kernel, rfl⟩
theorem iX7_winners_25 : Jmp MX7_winners 25 .goto 29 28 := ⟨4, ⟨by decide +kernel, rfl⟩, by decide⟩
theorem iX7_winners_28 : Ins MX7_winners 28 (.iconst 0) 1 29 := ⟨by decide +kernel, rfl⟩
theorem iX7_winners_29 : Ins MX7_winners 29 (.ior) 1 30 := ⟨by decide +kernel, rfl⟩
theorem iX7_winners_30 : StI MX7_winners 30 2 31 := ⟨Or.inr ⟨2, rfl, by decide +kernel, rfl⟩, Nat.le_of_ble_eq_true rfl⟩
theorem iX7_winners_31 : Inc MX7_winners 31 3 (1) 34 := ⟨⟨by decide +kernel, rfl⟩, Nat.le_of_ble_eq_true rfl⟩
theorem iX7_winners_34 : Jmp MX7_winners 34 .goto 4 37 := ⟨-30, ⟨by decide +kernel, rfl⟩, by decide⟩
theorem iX7_winners_37 : LdI MX7_winners 37 2 38 := Or.inr ⟨2, rfl, by decide +kernel, rfl⟩
theorem iX7_winners_38 : Ins MX7_winners 38 (.ireturn) 1 39 := ⟨by decide +kernel, rfl⟩
theorem iX7_fair_0 : LdA MX7_fair 0 0 1 := Or.inr ⟨0, rfl, by decide +kernel, rfl⟩
theorem iX7_fair_1 : Ins MX7_fair 1 (.invokevirtual 128) 3 4 := ⟨by decide +kernel, rfl⟩
theorem iX7_fair_4 : LdA MX7_fair 4 0 5 := Or.inr ⟨0, rfl, by decide +kernel, rfl⟩
theorem iX7_fair_5 : Ins MX7_fair 5 (.getfield 19) 3 8 := ⟨by decide +kernel, rfl⟩
theorem iX7_fair_8 : Ins MX7_fair 8 (.bipush 31) 2 10 := ⟨by decide +kernel, rfl⟩
theorem iX7_fair_10 : Ins MX7_fair 10 (.iaload) 1 11 := ⟨by decide +kernel, rfl⟩
theorem iX7_fair_11 : Ins MX7_fair 11 (.bipush (-9)) 2 13 := ⟨by decide +kernel, rfl⟩
theorem iX7_fair_13 : Jmp MX7_fair 13 (.if_icmp .eq) 88 16 := ⟨75, ⟨by decide +kernel, rfl⟩, by decide⟩
theorem iX7_fair_16 : LdA MX7_fair 16 0 17 := Or.inr ⟨0, rfl, by decide +kernel, rfl⟩
theorem iX7_fair_17 : LdA MX7_fair 17 0 18 := Or.inr ⟨0, rfl, by decide +kernel, rfl⟩
theorem iX7_fair_18 : Ins MX7_fair 18 (.getfield 176) 3 21 := ⟨by decide +kernel, rfl⟩
theorem iX7_fair_21 : Ins MX7_fair 21 (.ldc2_w 179) 3 24 := ⟨by decide +kernel, rfl⟩
theorem iX7_fair_24 : Ins MX7_fair 24 (.lmul) 1 25 := ⟨by decide +kernel, rfl⟩
theorem iX7_fair_25 : Ins MX7_fair 25 (.ldc2_w 181) 3 28 := ⟨by decide +kernel, rfl⟩
theorem iX7_fair_28 : Ins MX7_fair 28 (.ladd) 1 29 := ⟨by decide +kernel, rfl⟩
theorem iX7_fair_29 : Ins MX7_fair 29 (.putfield 176) 3 32 := ⟨by decide +kernel, rfl⟩
theorem iX7_fair_32 : LdA MX7_fair 32 0 33 := Or.inr ⟨0, rfl, by decide +kernel, rfl⟩
theorem iX7_fair_33 : Ins MX7_fair 33 (.getfield 19) 3 36 := ⟨by decide +kernel, rfl⟩
theorem iX7_fair_36 : Ins MX7_fair 36 (.bipush 31) 2 38 := ⟨by decide +kernel, rfl⟩
theorem iX7_fair_38 : Ins MX7_fair 38 (.iaload) 1 39 := ⟨by decide +kernel, rfl⟩
theorem iX7_fair_39 : StI MX7_fair 39 1 40 := ⟨Or.inr ⟨1, rfl, by decide +kernel, rfl⟩, Nat.le_of_ble_eq_true rfl⟩
theorem iX7_fair_40 : LdA MX7_fair 40 0 41 := Or.inr ⟨0, rfl, by decide +kernel, rfl⟩
theorem iX7_fair_41 : Ins MX7_fair 41 (.iconst 1) 1 42 := ⟨by decide +kernel, rfl⟩
theorem iX7_fair_42 : LdA MX7_fair 42 0 43 := Or.inr ⟨0, rfl, by decide +kernel, rfl⟩
theorem iX7_fair_43 : Ins MX7_fair 43 (.getfield 176) 3 46 := ⟨by decide +kernel, rfl⟩
theorem iX7_fair_46 : Ins MX7_fair 46 (.bipush 33) 2 48 := ⟨by decide +kernel, rfl⟩
theorem iX7_fair_48 : Ins MX7_fair 48 (.lushr) 1 49 := ⟨by decide +kernel, rfl⟩
theorem iX7_fair_49 : Ins MX7_fair 49 (.ldc2_w 122) 3 52 := ⟨by decide +kernel, rfl⟩
theorem iX7_fair_52 : Ins MX7_fair 52 (.lrem) 1 53 := ⟨by decide +kernel, rfl⟩
theorem iX7_fair_53 : LdA MX7_fair 53 0 54 := Or.inr ⟨0, rfl, by decide +kernel, rfl⟩
theorem iX7_fair_54 : LdI MX7_fair 54 1 55 := Or.inr ⟨1, rfl, by decide +kernel, rfl⟩
theorem iX7_fair_55 : LdA MX7_fair 55 0 56 := Or.inr ⟨0, rfl, by decide +kernel, rfl⟩
theorem iX7_fair_56 : Ins MX7_fair 56 (.getfield 19) 3 59 := ⟨by decide +kernel, rfl⟩
theorem iX7_fair_59 : Ins MX7_fair 59 (.bipush 30) 2 61 := ⟨by decide +kernel, rfl⟩
theorem iX7_fair_61 : Ins MX7_fair 61 (.iaload) 1 62 := ⟨by decide +kernel, rfl⟩
theorem iX7_fair_62 : LdA MX7_fair 62 0 63 := Or.inr ⟨0, rfl, by decide +kernel, rfl⟩
theorem iX7_fair_63 : Ins MX7_fair 63 (.iconst 1) 1 64 := ⟨by decide +kernel, rfl⟩
theorem iX7_fair_64 : LdI MX7_fair 64 1 65 := Or.inr ⟨1, rfl, by decide +kernel, rfl⟩
theorem iX7_fair_65 : Ins MX7_fair 65 (.iconst 0) 1 66 := ⟨by decide +kernel, rfl⟩
theorem iX7_fair_66 : Ins MX7_fair 66 (.invokevirtual 77) 3 69 := ⟨by decide +kernel, rfl⟩
theorem iX7_fair_69 : Ins MX7_fair 69 (.invokevirtual 94) 3 72 := ⟨by decide +kernel, rfl⟩
theorem iX7_fair_72 : Ins MX7_fair 72 (.i2l) 1 73 := ⟨by decide +kernel, rfl⟩
theorem iX7_fair_73 : Ins MX7_fair 73 (.lcmp) 1 74 := ⟨by decide +kernel, rfl⟩
theorem iX7_fair_74 : Jmp MX7_fair 74 (.ifCond .ge) 81 77 := ⟨7, ⟨by decide +kernel, rfl⟩, by decide⟩
theorem iX7_fair_77 : Ins MX7_fair 77 (.iconst 1) 1 78 := ⟨by decide +kernel, rfl⟩
theorem iX7_fair_78 : Jmp MX7_fair 78 .goto 82 81 := ⟨4, ⟨by decide +kernel, rfl⟩, by decide⟩
theorem iX7_fair_81 : Ins MX7_fair 81 (.iconst 0) 1 82 := ⟨by decide +kernel, rfl⟩
theorem iX7_fair_82 : Ins MX7_fair 82 (.invokevirtual 114) 3 85 := ⟨by decide +kernel, rfl⟩
theorem iX7_fair_85 : Jmp MX7_fair 85 .goto 4 88 := ⟨-81, ⟨by decide +kernel, rfl⟩, by decide⟩
theorem iX7_fair_88 : LdA MX7_fair 88 0 89 := Or.inr ⟨0, rfl, by decide +kernel, rfl⟩
theorem iX7_fair_89 : Ins MX7_fair 89 (.iconst 1) 1 90 := ⟨by decide +kernel, rfl⟩
theorem iX7_fair_90 : Ins MX7_fair 90 (.invokevirtual 183) 3 93 := ⟨by decide +kernel, rfl⟩
theorem iX7_fair_93 : Ins MX7_fair 93 (.ireturn) 1 94 := ⟨by decide +kernel, rfl⟩
theorem iX7_keep_0 : LdI MX7_keep 0 1 1 := Or.inr ⟨1, rfl, by decide +kernel, rfl⟩
theorem iX7_keep_1 : Ins MX7_keep 1 (.i2l) 1 2 := ⟨by decide +kernel, rfl⟩
theorem iX7_keep_2 : Ins MX7_keep 2 (.lconst 0) 1 3 := ⟨by decide +kernel, rfl⟩
theorem iX7_keep_3 : Ins MX7_keep 3 (.lconst 1) 1 4 := ⟨by decide +kernel, rfl⟩
theorem iX7_keep_4 : Ins MX7_keep 4 (.invokestatic 44) 3 7 := ⟨by decide +kernel, rfl⟩
theorem iX7_keep_7 : Jmp MX7_keep 7 (.ifCond .ne) 12 10 := ⟨5, ⟨by decide +kernel, rfl⟩, by decide⟩
theorem iX7_keep_10 : Ins MX7_keep 10 (.iconst (-1)) 1 11 := ⟨by decide +kernel, rfl⟩
theorem iX7_keep_11 : Ins MX7_keep 11 (.ireturn) 1 12 := ⟨by decide +kernel, rfl⟩
theorem iX7_keep_12 : LdA MX7_keep 12 0 13 := Or.inr ⟨0, rfl, by decide +kernel, rfl⟩
theorem iX7_keep_13 : Ins MX7_keep 13 (.getfield 35) 3 16 := ⟨by decide +kernel, rfl⟩
theorem iX7_keep_16 : LdI MX7_keep 16 1 17 := Or.inr ⟨1, rfl, by decide +kernel, rfl⟩
theorem iX7_keep_17 : Ins MX7_keep 17 (.iconst 1) 1 18 := ⟨by decide +kernel, rfl⟩
theorem iX7_keep_18 : Ins MX7_keep 18 (.bastore) 1 19 := ⟨by decide +kernel, rfl⟩
theorem iX7_keep_19 : Ins MX7_keep 19 (.iconst 0) 1 20 := ⟨by decide +kernel, rfl⟩
theorem iX7_keep_20 : StI MX7_keep 20 2 21 := ⟨Or.inr ⟨2, rfl, by decide +kernel, rfl⟩, Nat.le_of_ble_eq_true rfl⟩
theorem iX7_keep_21 : LdI MX7_keep 21 2 22 := Or.inr ⟨2, rfl, by decide +kernel, rfl⟩
theorem iX7_keep_22 : Ins MX7_keep 22 (.bipush 30) 2 24 := ⟨by decide +kernel, rfl⟩
theorem iX7_keep_24 : Jmp MX7_keep 24 (.if_icmp .ge) 50 27 := ⟨26, ⟨by decide +kernel, rfl⟩, by decide⟩
theorem iX7_keep_27 : LdA MX7_keep 27 0 28 := Or.inr ⟨0, rfl, by decide +kernel, rfl⟩
theorem iX7_keep_28 : Ins MX7_keep 28 (.getfield 39) 3 31 := ⟨by decide +kernel, rfl⟩
theorem iX7_keep_31 : Ins MX7_keep 31 (.bipush 30) 2 33 := ⟨by decide +kernel, rfl⟩
theorem iX7_keep_33 : LdI MX7_keep 33 1 34 := Or.inr ⟨1, rfl, by decide +kernel, rfl⟩
theorem iX7_keep_34 : Ins MX7_keep 34 (.imul) 1 35 := ⟨by decide +kernel, rfl⟩
theorem iX7_keep_35 : LdI MX7_keep 35 2 36 := Or.inr ⟨2, rfl, by decide +kernel, rfl⟩
theorem iX7_keep_36 : Ins MX7_keep 36 (.iadd) 1 37 := ⟨by decide +kernel, rfl⟩
theorem iX7_keep_37 : LdA MX7_keep 37 0 38 := Or.inr ⟨0, rfl, by decide +kernel, rfl⟩
theorem iX7_keep_38 : Ins MX7_keep 38 (.getfield 19) 3 41 := ⟨by decide +kernel, rfl⟩
theorem iX7_keep_41 : LdI MX7_keep 41 2 42 := Or.inr ⟨2, rfl, by decide +kernel, rfl⟩
theorem iX7_keep_42 : Ins MX7_keep 42 (.iaload) 1 43 := ⟨by decide +kernel, rfl⟩
theorem iX7_keep_43 : Ins MX7_keep 43 (.iastore) 1 44 := ⟨by decide +kernel, rfl⟩
theorem iX7_keep_44 : Inc MX7_keep 44 2 (1) 47 := ⟨⟨by decide +kernel, rfl⟩, Nat.le_of_ble_eq_true rfl⟩
theorem iX7_keep_47 : Jmp MX7_keep 47 .goto 21 50 := ⟨-26, ⟨by decide +kernel, rfl⟩, by decide⟩
theorem iX7_keep_50 : LdA MX7_keep 50 0 51 := Or.inr ⟨0, rfl, by decide +kernel, rfl⟩
theorem iX7_keep_51 : Ins MX7_keep 51 (.getfield 19) 3 54 := ⟨by decide +kernel, rfl⟩
theorem iX7_keep_54 : Ins MX7_keep 54 (.iconst 0) 1 55 := ⟨by decide +kernel, rfl⟩
theorem iX7_keep_55 : Ins MX7_keep 55 (.iaload) 1 56 := ⟨by decide +kernel, rfl⟩
theorem iX7_keep_56 : Ins MX7_keep 56 (.ireturn) 1 57 := ⟨by decide +kernel, rfl⟩
theorem iX7_again_0 : LdI MX7_again 0 1 1 := Or.inr ⟨1, rfl, by decide +kernel, rfl⟩
theorem iX7_again_1 : Ins MX7_again 1 (.i2l) 1 2 := ⟨by decide +kernel, rfl⟩
theorem iX7_again_2 : Ins MX7_again 2 (.lconst 0) 1 3 := ⟨by decide +kernel, rfl⟩
theorem iX7_again_3 : Ins MX7_again 3 (.lconst 1) 1 4 := ⟨by decide +kernel, rfl⟩
theorem iX7_again_4 : Ins MX7_again 4 (.invokestatic 44) 3 7 := ⟨by decide +kernel, rfl⟩
theorem iX7_again_7 : Jmp MX7_again 7 (.ifCond .ne) 12 10 := ⟨5, ⟨by decide +kernel, rfl⟩, by decide⟩
theorem iX7_again_10 : Ins MX7_again 10 (.iconst (-1)) 1 11 := ⟨by decide +kernel, rfl⟩
theorem iX7_again_11 : Ins MX7_again 11 (.ireturn) 1 12 := ⟨by decide +kernel, rfl⟩
theorem iX7_again_12 : LdA MX7_again 12 0 13 := Or.inr ⟨0, rfl, by decide +kernel, rfl⟩
theorem iX7_again_13 : Ins MX7_again 13 (.getfield 35) 3 16 := ⟨by decide +kernel, rfl⟩
theorem iX7_again_16 : LdI MX7_again 16 1 17 := Or.inr ⟨1, rfl, by decide +kernel, rfl⟩
theorem iX7_again_17 : Ins MX7_again 17 (.baload) 1 18 := ⟨by decide +kernel, rfl⟩
theorem iX7_again_18 : Jmp MX7_again 18 (.ifCond .ne) 24 21 := ⟨6, ⟨by decide +kernel, rfl⟩, by decide⟩
theorem iX7_again_21 : Ins MX7_again 21 (.bipush (-3)) 2 23 := ⟨by decide +kernel, rfl⟩
theorem iX7_again_23 : Ins MX7_again 23 (.ireturn) 1 24 := ⟨by decide +kernel, rfl⟩
theorem iX7_again_24 : Ins MX7_again 24 (.iconst 0) 1 25 := ⟨by decide +kernel, rfl⟩
theorem iX7_again_25 : StI MX7_again 25 2 26 := ⟨Or.inr ⟨2, rfl, by decide +kernel, rfl⟩, Nat.le_of_ble_eq_true rfl⟩
theorem iX7_again_26 : LdI MX7_again 26 2 27 := Or.inr ⟨2, rfl, by decide +kernel, rfl⟩
theorem iX7_again_27 : Ins MX7_again 27 (.bipush 30) 2 29 := ⟨by decide +kernel, rfl⟩
theorem iX7_again_29 : Jmp MX7_again 29 (.if_icmp .ge) 55 32 := ⟨26, ⟨by decide +kernel, rfl⟩, by decide⟩
theorem iX7_again_32 : LdA MX7_again 32 0 33 := Or.inr ⟨0, rfl, by decide +kernel, rfl⟩
theorem iX7_again_33 : Ins MX7_again 33 (.getfield 19) 3 36 := ⟨by decide +kernel, rfl⟩
theorem iX7_again_36 : LdI MX7_again 36 2 37 := Or.inr ⟨2, rfl, by decide +kernel, rfl⟩
theorem iX7_again_37 : LdA MX7_again 37 0 38 := Or.inr ⟨0, rfl, by decide +kernel, rfl⟩
theorem iX7_again_38 : Ins MX7_again 38 (.getfield 39) 3 41 := ⟨by decide +kernel, rfl⟩
theorem iX7_again_41 : Ins MX7_again 41 (.bipush 30) 2 43 := ⟨by decide +kernel, rfl⟩
theorem iX7_again_43 : LdI MX7_again 43 1 44 := Or.inr ⟨1, rfl, by decide +kernel, rfl⟩
theorem iX7_again_44 : Ins MX7_again 44 (.imul) 1 45 := ⟨by decide +kernel, rfl⟩
theorem iX7_again_45 : LdI MX7_again 45 2 46 := Or.inr ⟨2, rfl, by decide +kernel, rfl⟩
theorem iX7_again_46 : Ins MX7_again 46 (.iadd) 1 47 := ⟨by decide +kernel, rfl⟩
theorem iX7_again_47 : Ins MX7_again 47 (.iaload) 1 48 := ⟨by decide +kernel, rfl⟩
theorem iX7_again_48 : Ins MX7_again 48 (.iastore) 1 49 := ⟨by decide +kernel, rfl⟩
theorem iX7_again_49 : Inc MX7_again 49 2 (1) 52 := ⟨⟨by decide +kernel, rfl⟩, Nat.le_of_ble_eq_true rfl⟩
theorem iX7_again_52 : Jmp MX7_again 52 .goto 26 55 := ⟨-26, ⟨by decide +kernel, rfl⟩, by decide⟩
theorem iX7_again_55 : LdA MX7_again 55 0 56 := Or.inr ⟨0, rfl, by decide +kernel, rfl⟩
theorem iX7_again_56 : Ins MX7_again 56 (.iconst 0) 1 57 := ⟨by decide +kernel, rfl⟩
theorem iX7_again_57 : Ins MX7_again 57 (.putfield 71) 3 60 := ⟨by decide +kernel, rfl⟩
theorem iX7_again_60 : LdA MX7_again 60 0 61 := Or.inr ⟨0, rfl, by decide +kernel, rfl⟩
theorem iX7_again_61 : Ins MX7_again 61 (.getfield 19) 3 64 := ⟨by decide +kernel, rfl⟩
theorem iX7_again_64 : Ins MX7_again 64 (.iconst 0) 1 65 := ⟨by decide +kernel, rfl⟩
theorem iX7_again_65 : Ins MX7_again 65 (.iaload) 1 66 := ⟨by decide +kernel, rfl⟩
theorem iX7_again_66 : Ins MX7_again 66 (.ireturn) 1 67 := ⟨by decide +kernel, rfl⟩
theorem iX7_those_0 : Ins MX7_those 0 (.iconst 0) 1 1 := ⟨by decide +kernel, rfl⟩
theorem iX7_those_1 : StI MX7_those 1 2 2 := ⟨Or.inr ⟨2, rfl, by decide +kernel, rfl⟩, Nat.le_of_ble_eq_true rfl⟩
theorem iX7_those_2 : Ins MX7_those 2 (.iconst 0) 1 3 := ⟨by decide +kernel, rfl⟩
theorem iX7_those_3 : StI MX7_those 3 3 4 := ⟨Or.inr ⟨3, rfl, by decide +kernel, rfl⟩, Nat.le_of_ble_eq_true rfl⟩
theorem iX7_those_4 : LdI MX7_those 4 3 5 := Or.inr ⟨3, rfl, by decide +kernel, rfl⟩
theorem iX7_those_5 : LdA MX7_those 5 0 6 := Or.inr ⟨0, rfl, by decide +kernel, rfl⟩
theorem iX7_those_6 : Ins MX7_those 6 (.getfield 68) 3 9 := ⟨by decide +kernel, rfl⟩
theorem iX7_those_9 : Jmp MX7_those 9 (.if_icmp .ge) 39 12 := ⟨30, ⟨by decide +kernel, rfl⟩, by decide⟩
theorem iX7_those_12 : LdI MX7_those 12 2 13 := Or.inr ⟨2, rfl, by decide +kernel, rfl⟩
theorem iX7_those_13 : LdA MX7_those 13 0 14 := Or.inr ⟨0, rfl, by decide +kernel, rfl⟩
theorem iX7_those_14 : Ins MX7_those 14 (.iconst 0) 1 15 := ⟨by decide +kernel, rfl⟩
theorem iX7_those_15 : LdI MX7_those 15 3 16 := Or.inr ⟨3, rfl, by decide +kernel, rfl⟩
theorem iX7_those_16 : Ins MX7_those 16 (.iconst 5) 1 17 := ⟨by decide +kernel, rfl⟩
theorem iX7_those_17 : Ins MX7_those 17 (.invokevirtual 77) 3 20 := ⟨by decide +kernel, rfl⟩
theorem iX7_those_20 : LdI MX7_those 20 1 21 := Or.inr ⟨1, rfl, by decide +kernel, rfl⟩
theorem iX7_those_21 : Jmp MX7_those 21 (.if_icmp .ne) 30 24 := ⟨9, ⟨by decide +kernel, rfl⟩, by decide⟩
theorem iX7_those_24 : Ins MX7_those 24 (.iconst 1) 1 25 := ⟨by decide +kernel, rfl⟩
theorem iX7_those_25 : LdI MX7_those 25 3 26 := Or.inr ⟨3, rfl, by decide +kernel, rfl⟩
theorem iX7_those_26 : Ins MX7_those 26 (.ishl) 1 27 := ⟨by decide +kernel, rfl⟩
theorem iX7_those_27 : Jmp MX7_those 27 .goto 31 30 := ⟨4, ⟨by decide +kernel, rfl⟩, by decide⟩
theorem iX7_those_30 : Ins MX7_those 30 (.iconst 0) 1 31 := ⟨by decide +kernel, rfl⟩
theorem iX7_those_31 : Ins MX7_those 31 (.ior) 1 32 := ⟨by decide +kernel, rfl⟩
theorem iX7_those_32 : StI MX7_those 32 2 33 := ⟨Or.inr ⟨2, rfl, by decide +kernel, rfl⟩, Nat.le_of_ble_eq_true rfl⟩
theorem iX7_those_33 : Inc MX7_those 33 3 (1) 36 := ⟨⟨by decide +kernel, rfl⟩, Nat.le_of_ble_eq_true rfl⟩
theorem iX7_those_36 : Jmp MX7_those 36 .goto 4 39 := ⟨-32, ⟨by decide +kernel, rfl⟩, by decide⟩
theorem iX7_those_39 : LdI MX7_those 39 2 40 := Or.inr ⟨2, rfl, by decide +kernel, rfl⟩
theorem iX7_those_40 : Ins MX7_those 40 (.ireturn) 1 41 := ⟨by decide +kernel, rfl⟩
theorem iX7_count_0 : LdI MX7_count 0 1 1 := Or.inr ⟨1, rfl, by decide +kernel, rfl⟩
theorem iX7_count_1 : Ins MX7_count 1 (.tableswitch 126 0 8 #[51, 56, 61, 68, 86, 92, 98, 103, 120]) 51 52 := ⟨by decide +kernel, rfl⟩
theorem iX7_count_52 : LdA MX7_count 52 0 53 := Or.inr ⟨0, rfl, by decide +kernel, rfl⟩
theorem iX7_count_53 : Ins MX7_count 53 (.getfield 48) 3 56 := ⟨by decide +kernel, rfl⟩
theorem iX7_count_56 : Ins MX7_count 56 (.ireturn) 1 57 := ⟨by decide +kernel, rfl⟩
theorem iX7_count_57 : LdA MX7_count 57 0 58 := Or.inr ⟨0, rfl, by decide +kernel, rfl⟩
theorem iX7_count_58 : Ins MX7_count 58 (.getfield 68) 3 61 := ⟨by decide +kernel, rfl⟩
theorem iX7_count_61 : Ins MX7_count 61 (.ireturn) 1 62 := ⟨by decide +kernel, rfl⟩
theorem iX7_count_62 : LdA MX7_count 62 0 63 := Or.inr ⟨0, rfl, by decide +kernel, rfl⟩
theorem iX7_count_63 : Ins MX7_count 63 (.getfield 19) 3 66 := ⟨by decide +kernel, rfl⟩
theorem iX7_count_66 : Ins MX7_count 66 (.iconst 0) 1 67 := ⟨by decide +kernel, rfl⟩
theorem iX7_count_67 : Ins MX7_count 67 (.iaload) 1 68 := ⟨by decide +kernel, rfl⟩
theorem iX7_count_68 : Ins MX7_count 68 (.ireturn) 1 69 := ⟨by decide +kernel, rfl⟩
theorem iX7_count_69 : LdA MX7_count 69 0 70 := Or.inr ⟨0, rfl, by decide +kernel, rfl⟩
theorem iX7_count_70 : Ins MX7_count 70 (.iconst 0) 1 71 := ⟨by decide +kernel, rfl⟩
theorem iX7_count_71 : Ins MX7_count 71 (.invokevirtual 186) 3 74 := ⟨by decide +kernel, rfl⟩
theorem iX7_count_74 : LdA MX7_count 74 0 75 := Or.inr ⟨0, rfl, by decide +kernel, rfl⟩
theorem iX7_count_75 : Ins MX7_count 75 (.iconst 1) 1 76 := ⟨by decide +kernel, rfl⟩
theorem iX7_count_76 : Ins MX7_count 76 (.invokevirtual 186) 3 79 := ⟨by decide +kernel, rfl⟩
theorem iX7_count_79 : Ins MX7_count 79 (.ior) 1 80 := ⟨by decide +kernel, rfl⟩
theorem iX7_count_80 : LdA MX7_count 80 0 81 := Or.inr ⟨0, rfl, by decide +kernel, rfl⟩
theorem iX7_count_81 : Ins MX7_count 81 (.iconst 2) 1 82 := ⟨by decide +kernel, rfl⟩
theorem iX7_count_82 : Ins MX7_count 82 (.invokevirtual 186) 3 85 := ⟨by decide +kernel, rfl⟩
theorem iX7_count_85 : Ins MX7_count 85 (.ior) 1 86 := ⟨by decide +kernel, rfl⟩
theorem iX7_count_86 : Ins MX7_count 86 (.ireturn) 1 87 := ⟨by decide +kernel, rfl⟩
theorem iX7_count_87 : LdA MX7_count 87 0 88 := Or.inr ⟨0, rfl, by decide +kernel, rfl⟩
theorem iX7_count_88 : Ins MX7_count 88 (.iconst 1) 1 89 := ⟨by decide +kernel, rfl⟩
theorem iX7_count_89 : Ins MX7_count 89 (.invokevirtual 186) 3 92 := ⟨by decide +kernel, rfl⟩
theorem iX7_count_92 : Ins MX7_count 92 (.ireturn) 1 93 := ⟨by decide +kernel, rfl⟩
theorem iX7_count_93 : LdA MX7_count 93 0 94 := Or.inr ⟨0, rfl, by decide +kernel, rfl⟩
theorem iX7_count_94 : Ins MX7_count 94 (.iconst 2) 1 95 := ⟨by decide +kernel, rfl⟩
theorem iX7_count_95 : Ins MX7_count 95 (.invokevirtual 186) 3 98 := ⟨by decide +kernel, rfl⟩
theorem iX7_count_98 : Ins MX7_count 98 (.ireturn) 1 99 := ⟨by decide +kernel, rfl⟩
theorem iX7_count_99 : LdA MX7_count 99 0 100 := Or.inr ⟨0, rfl, by decide +kernel, rfl⟩
theorem iX7_count_100 : Ins MX7_count 100 (.getfield 71) 3 103 := ⟨by decide +kernel, rfl⟩
theorem iX7_count_103 : Ins MX7_count 103 (.ireturn) 1 104 := ⟨by decide +kernel, rfl⟩
theorem iX7_count_104 : LdA MX7_count 104 0 105 := Or.inr ⟨0, rfl, by decide +kernel, rfl⟩
theorem iX7_count_105 : Ins MX7_count 105 (.getfield 19) 3 108 := ⟨by decide +kernel, rfl⟩
theorem iX7_count_108 : Ins MX7_count 108 (.iconst 1) 1 109 := ⟨by decide +kernel, rfl⟩
theorem iX7_count_109 : Ins MX7_count 109 (.iaload) 1 110 := ⟨by decide +kernel, rfl⟩
theorem iX7_count_110 : Ins MX7_count 110 (.bipush (-9)) 2 112 := ⟨by decide +kernel, rfl⟩
theorem iX7_count_112 : Jmp MX7_count 112 (.if_icmp .ne) 119 115 := ⟨7, ⟨by decide +kernel, rfl⟩, by decide⟩
theorem iX7_count_115 : Ins MX7_count 115 (.iconst 1) 1 116 := ⟨by decide +kernel, rfl⟩
theorem iX7_count_116 : Jmp MX7_count 116 .goto 120 119 := ⟨4, ⟨by decide +kernel, rfl⟩, by decide⟩
theorem iX7_count_119 : Ins MX7_count 119 (.iconst 0) 1 120 := ⟨by decide +kernel, rfl⟩
theorem iX7_count_120 : Ins MX7_count 120 (.ireturn) 1 121 := ⟨by decide +kernel, rfl⟩
theorem iX7_count_121 : LdA MX7_count 121 0 122 := Or.inr ⟨0, rfl, by decide +kernel, rfl⟩
theorem iX7_count_122 : Ins MX7_count 122 (.iconst 0) 1 123 := ⟨by decide +kernel, rfl⟩
theorem iX7_count_123 : Ins MX7_count 123 (.invokevirtual 183) 3 126 := ⟨by decide +kernel, rfl⟩
theorem iX7_count_126 : Ins MX7_count 126 (.ireturn) 1 127 := ⟨by decide +kernel, rfl⟩
theorem iX7_count_127 : Ins MX7_count 127 (.bipush (-2)) 2 129 := ⟨by decide +kernel, rfl⟩
theorem iX7_count_129 : Ins MX7_count 129 (.ireturn) 1 130 := ⟨by decide +kernel, rfl⟩
end
section
theorem iL_law_0 : Ins ML_law 0 (.new 7) 3 3 := ⟨by decide +kernel, rfl⟩
theorem iL_law_3 : Ins ML_law 3 (.dup) 1 4 := ⟨by decide +kernel, rfl⟩
theorem iL_law_4 : Ins ML_law 4 (.invokespecial 9) 3 7 := ⟨by decide +kernel, rfl⟩
theorem iL_law_7 : StA ML_law 7 1 8 := ⟨Or.inr ⟨1, rfl, by decide +kernel, rfl⟩, Nat.le_of_ble_eq_true rfl⟩
theorem iL_law_8 : Ins ML_law 8 (.new 10) 3 11 := ⟨by decide +kernel, rfl⟩
theorem iL_law_11 : Ins ML_law 11 (.dup) 1 12 := ⟨by decide +kernel, rfl⟩
theorem iL_law_12 : Ins ML_law 12 (.invokespecial 12) 3 15 := ⟨by decide +kernel, rfl⟩
theorem iL_law_15 : StA ML_law 15 2 16 := ⟨Or.inr ⟨2, rfl, by decide +kernel, rfl⟩, Nat.le_of_ble_eq_true rfl⟩
theorem iL_law_16 : Ins ML_law 16 (.iconst 0) 1 17 := ⟨by decide +kernel, rfl⟩
theorem iL_law_17 : StI ML_law 17 3 18 := ⟨Or.inr ⟨3, rfl, by decide +kernel, rfl⟩, Nat.le_of_ble_eq_true rfl⟩
theorem iL_law_18 : LdI ML_law 18 3 19 := Or.inr ⟨3, rfl, by decide +kernel, rfl⟩
theorem iL_law_19 : LdA ML_law 19 0 20 := Or.inr ⟨0, rfl, by decide +kernel, rfl⟩
theorem iL_law_20 : Ins ML_law 20 (.arraylength) 1 21 := ⟨by decide +kernel, rfl⟩
theorem iL_law_21 : Ins ML_law 21 (.iconst 4) 1 22 := ⟨by decide +kernel, rfl⟩
theorem iL_law_22 : Ins ML_law 22 (.isub) 1 23 := ⟨by decide +kernel, rfl⟩
theorem iL_law_23 : Jmp ML_law 23 (.if_icmp .gt) 888 26 := ⟨865, ⟨by decide +kernel, rfl⟩, by decide⟩
theorem iL_law_26 : LdA ML_law 26 0 27 := Or.inr ⟨0, rfl, by decide +kernel, rfl⟩
theorem iL_law_27 : LdI ML_law 27 3 28 := Or.inr ⟨3, rfl, by decide +kernel, rfl⟩
theorem iL_law_28 : Ins ML_law 28 (.iaload) 1 29 := ⟨by decide +kernel, rfl⟩
theorem iL_law_29 : Ins ML_law 29 (.bipush 31) 2 31 := ⟨by decide +kernel, rfl⟩
theorem iL_law_31 : Ins ML_law 31 (.iand) 1 32 := ⟨by decide +kernel, rfl⟩
theorem iL_law_32 : Ins ML_law 32 (.tableswitch 850 0 22 #[108, 171, 184, 197, 210, 243, 256, 279, 312, 351, 364, 377, 410, 459, 519, 552, 612, 671, 714, 768, 781, 804, 827]) 108 140 := ⟨by decide +kernel, rfl⟩
theorem iL_law_140 : LdA ML_law 140 1 141 := Or.inr ⟨1, rfl, by decide +kernel, rfl⟩
theorem iL_law_141 : LdA ML_law 141 0 142 := Or.inr ⟨0, rfl, by decide +kernel, rfl⟩
theorem iL_law_142 : LdI ML_law 142 3 143 := Or.inr ⟨3, rfl, by decide +kernel, rfl⟩
theorem iL_law_143 : Ins ML_law 143 (.iconst 1) 1 144 := ⟨by decide +kernel, rfl⟩
theorem iL_law_144 : Ins ML_law 144 (.iadd) 1 145 := ⟨by decide +kernel, rfl⟩
theorem iL_law_145 : Ins ML_law 145 (.iaload) 1 146 := ⟨by decide +kernel, rfl⟩
theorem iL_law_146 : LdA ML_law 146 0 147 := Or.inr ⟨0, rfl, by decide +kernel, rfl⟩
theorem iL_law_147 : LdI ML_law 147 3 148 := Or.inr ⟨3, rfl, by decide +kernel, rfl⟩
theorem iL_law_148 : Ins ML_law 148 (.iconst 2) 1 149 := ⟨by decide +kernel, rfl⟩
theorem iL_law_149 : Ins ML_law 149 (.iadd) 1 150 := ⟨by decide +kernel, rfl⟩
theorem iL_law_150 : Ins ML_law 150 (.iaload) 1 151 := ⟨by decide +kernel, rfl⟩
theorem iL_law_151 : Ins ML_law 151 (.i2l) 1 152 := ⟨by decide +kernel, rfl⟩
theorem iL_law_152 : Ins ML_law 152 (.bipush 32) 2 154 := ⟨by decide +kernel, rfl⟩
theorem iL_law_154 : Ins ML_law 154 (.lshl) 1 155 := ⟨by decide +kernel, rfl⟩
theorem iL_law_155 : LdA ML_law 155 0 156 := Or.inr ⟨0, rfl, by decide +kernel, rfl⟩
theorem iL_law_156 : LdI ML_law 156 3 157 := Or.inr ⟨3, rfl, by decide +kernel, rfl⟩
theorem iL_law_157 : Ins ML_law 157 (.iconst 3) 1 158 := ⟨by decide +kernel, rfl⟩
theorem iL_law_158 : Ins ML_law 158 (.iadd) 1 159 := ⟨by decide +kernel, rfl⟩
theorem iL_law_159 : Ins ML_law 159 (.iaload) 1 160 := ⟨by decide +kernel, rfl⟩
theorem iL_law_160 : Ins ML_law 160 (.i2l) 1 161 := ⟨by decide +kernel, rfl⟩
theorem iL_law_161 : Ins ML_law 161 (.ldc2_w 13) 3 164 := ⟨by decide +kernel, rfl⟩
theorem iL_law_164 : Ins ML_law 164 (.land) 1 165 := ⟨by decide +kernel, rfl⟩
theorem iL_law_165 : Ins ML_law 165 (.lor) 1 166 := ⟨by decide +kernel, rfl⟩
theorem iL_law_166 : Ins ML_law 166 (.invokevirtual 15) 3 169 := ⟨by decide +kernel, rfl⟩
theorem iL_law_169 : LdA ML_law 169 2 170 := Or.inr ⟨2, rfl, by decide +kernel, rfl⟩
theorem iL_law_170 : LdA ML_law 170 0 171 := Or.inr ⟨0, rfl, by decide +kernel, rfl⟩
theorem iL_law_171 : LdI ML_law 171 3 172 := Or.inr ⟨3, rfl, by decide +kernel, rfl⟩
theorem iL_law_172 : Ins ML_law 172 (.iconst 1) 1 173 := ⟨by decide +kernel, rfl⟩
theorem iL_law_173 : Ins ML_law 173 (.iadd) 1 174 := ⟨by decide +kernel, rfl⟩
theorem iL_law_174 : Ins ML_law 174 (.iaload) 1 175 := ⟨by decide +kernel, rfl⟩
theorem iL_law_175 : LdA ML_law 175 0 176 := Or.inr ⟨0, rfl, by decide +kernel, rfl⟩
theorem iL_law_176 : LdI ML_law 176 3 177 := Or.inr ⟨3, rfl, by decide +kernel, rfl⟩
theorem iL_law_177 : Ins ML_law 177 (.iconst 2) 1 178 := ⟨by decide +kernel, rfl⟩
theorem iL_law_178 : Ins ML_law 178 (.iadd) 1 179 := ⟨by decide +kernel, rfl⟩
theorem iL_law_179 : Ins ML_law 179 (.iaload) 1 180 := ⟨by decide +kernel, rfl⟩
theorem iL_law_180 : Ins ML_law 180 (.i2l) 1 181 := ⟨by decide +kernel, rfl⟩
theorem iL_law_181 : Ins ML_law 181 (.bipush 32) 2 183 := ⟨by decide +kernel, rfl⟩
theorem iL_law_183 : Ins ML_law 183 (.lshl) 1 184 := ⟨by decide +kernel, rfl⟩
theorem iL_law_184 : LdA ML_law 184 0 185 := Or.inr ⟨0, rfl, by decide +kernel, rfl⟩
theorem iL_law_185 : LdI ML_law 185 3 186 := Or.inr ⟨3, rfl, by decide +kernel, rfl⟩
theorem iL_law_186 : Ins ML_law 186 (.iconst 3) 1 187 := ⟨by decide +kernel, rfl⟩
theorem iL_law_187 : Ins ML_law 187 (.iadd) 1 188 := ⟨by decide +kernel, rfl⟩
theorem iL_law_188 : Ins ML_law 188 (.iaload) 1 189 := ⟨by decide +kernel, rfl⟩
theorem iL_law_189 : Ins ML_law 189 (.i2l) 1 190 := ⟨by decide +kernel, rfl⟩
theorem iL_law_190 : Ins ML_law 190 (.ldc2_w 13) 3 193 := ⟨by decide +kernel, rfl⟩
theorem iL_law_193 : Ins ML_law 193 (.land) 1 194 := ⟨by decide +kernel, rfl⟩
theorem iL_law_194 : Ins ML_law 194 (.lor) 1 195 := ⟨by decide +kernel, rfl⟩
theorem iL_law_195 : Ins ML_law 195 (.invokevirtual 19) 3 198 := ⟨by decide +kernel, rfl⟩
theorem iL_law_198 : Jmp ML_law 198 (.if_icmp .eq) 882 201 := ⟨684, ⟨by decide +kernel, rfl⟩, by decide⟩
theorem iL_law_201 : Ins ML_law 201 (.iconst 0) 1 202 := ⟨by decide +kernel, rfl⟩
theorem iL_law_202 : Ins ML_law 202 (.ireturn) 1 203 := ⟨by decide +kernel, rfl⟩
theorem iL_law_203 : LdA ML_law 203 1 204 := Or.inr ⟨1, rfl, by decide +kernel, rfl⟩
theorem iL_law_204 : Ins ML_law 204 (.invokevirtual 20) 3 207 := ⟨by decide +kernel, rfl⟩
theorem iL_law_207 : LdA ML_law 207 2 208 := Or.inr ⟨2, rfl, by decide +kernel, rfl⟩
theorem iL_law_208 : Ins ML_law 208 (.invokevirtual 24) 3 211 := ⟨by decide +kernel, rfl⟩
theorem iL_law_211 : Jmp ML_law 211 (.if_icmp .eq) 882 214 := ⟨671, ⟨by decide +kernel, rfl⟩, by decide⟩
theorem iL_law_214 : Ins ML_law 214 (.iconst 0) 1 215 := ⟨by decide +kernel, rfl⟩
theorem iL_law_215 : Ins ML_law 215 (.ireturn) 1 216 := ⟨by decide +kernel, rfl⟩
theorem iL_law_216 : LdA ML_law 216 1 217 := Or.inr ⟨1, rfl, by decide +kernel, rfl⟩
theorem iL_law_217 : Ins ML_law 217 (.invokevirtual 25) 3 220 := ⟨by decide +kernel, rfl⟩
theorem iL_law_220 : LdA ML_law 220 2 221 := Or.inr ⟨2, rfl, by decide +kernel, rfl⟩
theorem iL_law_221 : Ins ML_law 221 (.invokevirtual 28) 3 224 := ⟨by decide +kernel, rfl⟩
theorem iL_law_224 : Jmp ML_law 224 (.if_icmp .eq) 882 227 := ⟨658, ⟨by decide +kernel, rfl⟩, by decide⟩
theorem iL_law_227 : Ins ML_law 227 (.iconst 0) 1 228 := ⟨by decide +kernel, rfl⟩
theorem iL_law_228 : Ins ML_law 228 (.ireturn) 1 229 := ⟨by decide +kernel, rfl⟩
theorem iL_law_229 : LdA ML_law 229 1 230 := Or.inr ⟨1, rfl, by decide +kernel, rfl⟩
theorem iL_law_230 : Ins ML_law 230 (.invokevirtual 29) 3 233 := ⟨by decide +kernel, rfl⟩
theorem iL_law_233 : LdA ML_law 233 2 234 := Or.inr ⟨2, rfl, by decide +kernel, rfl⟩
theorem iL_law_234 : Ins ML_law 234 (.invokevirtual 32) 3 237 := ⟨by decide +kernel, rfl⟩
theorem iL_law_237 : Jmp ML_law 237 (.if_icmp .eq) 882 240 := ⟨645, ⟨by decide +kernel, rfl⟩, by decide⟩
theorem iL_law_240 : Ins ML_law 240 (.iconst 0) 1 241 := ⟨by decide +kernel, rfl⟩
theorem iL_law_241 : Ins ML_law 241 (.ireturn) 1 242 := ⟨by decide +kernel, rfl⟩
theorem iL_law_242 : LdA ML_law 242 1 243 := Or.inr ⟨1, rfl, by decide +kernel, rfl⟩
theorem iL_law_243 : LdA ML_law 243 0 244 := Or.inr ⟨0, rfl, by decide +kernel, rfl⟩
theorem iL_law_244 : LdI ML_law 244 3 245 := Or.inr ⟨3, rfl, by decide +kernel, rfl⟩
theorem iL_law_245 : Ins ML_law 245 (.iconst 1) 1 246 := ⟨by decide +kernel, rfl⟩
theorem iL_law_246 : Ins ML_law 246 (.iadd) 1 247 := ⟨by decide +kernel, rfl⟩
theorem iL_law_247 : Ins ML_law 247 (.iaload) 1 248 := ⟨by decide +kernel, rfl⟩
theorem iL_law_248 : LdA ML_law 248 0 249 := Or.inr ⟨0, rfl, by decide +kernel, rfl⟩
theorem iL_law_249 : LdI ML_law 249 3 250 := Or.inr ⟨3, rfl, by decide +kernel, rfl⟩
theorem iL_law_250 : Ins ML_law 250 (.iconst 2) 1 251 := ⟨by decide +kernel, rfl⟩
theorem iL_law_251 : Ins ML_law 251 (.iadd) 1 252 := ⟨by decide +kernel, rfl⟩
theorem iL_law_252 : Ins ML_law 252 (.iaload) 1 253 := ⟨by decide +kernel, rfl⟩
theorem iL_law_253 : Ins ML_law 253 (.invokevirtual 33) 3 256 := ⟨by decide +kernel, rfl⟩
theorem iL_law_256 : LdA ML_law 256 2 257 := Or.inr ⟨2, rfl, by decide +kernel, rfl⟩
theorem iL_law_257 : LdA ML_law 257 0 258 := Or.inr ⟨0, rfl, by decide +kernel, rfl⟩
theorem iL_law_258 : LdI ML_law 258 3 259 := Or.inr ⟨3, rfl, by decide +kernel, rfl⟩
theorem iL_law_259 : Ins ML_law 259 (.iconst 1) 1 260 := ⟨by decide +kernel, rfl⟩
theorem iL_law_260 : Ins ML_law 260 (.iadd) 1 261 := ⟨by decide +kernel, rfl⟩
theorem iL_law_261 : Ins ML_law 261 (.iaload) 1 262 := ⟨by decide +kernel, rfl⟩
theorem iL_law_262 : LdA ML_law 262 0 263 := Or.inr ⟨0, rfl, by decide +kernel, rfl⟩
theorem iL_law_263 : LdI ML_law 263 3 264 := Or.inr ⟨3, rfl, by decide +kernel, rfl⟩
theorem iL_law_264 : Ins ML_law 264 (.iconst 2) 1 265 := ⟨by decide +kernel, rfl⟩
theorem iL_law_265 : Ins ML_law 265 (.iadd) 1 266 := ⟨by decide +kernel, rfl⟩
theorem iL_law_266 : Ins ML_law 266 (.iaload) 1 267 := ⟨by decide +kernel, rfl⟩
theorem iL_law_267 : Ins ML_law 267 (.invokevirtual 37) 3 270 := ⟨by decide +kernel, rfl⟩
theorem iL_law_270 : Jmp ML_law 270 (.if_icmp .eq) 882 273 := ⟨612, ⟨by decide +kernel, rfl⟩, by decide⟩
theorem iL_law_273 : Ins ML_law 273 (.iconst 0) 1 274 := ⟨by decide +kernel, rfl⟩
theorem iL_law_274 : Ins ML_law 274 (.ireturn) 1 275 := ⟨by decide +kernel, rfl⟩
theorem iL_law_275 : LdA ML_law 275 1 276 := Or.inr ⟨1, rfl, by decide +kernel, rfl⟩
theorem iL_law_276 : Ins ML_law 276 (.invokevirtual 38) 3 279 := ⟨by decide +kernel, rfl⟩
theorem iL_law_279 : LdA ML_law 279 2 280 := Or.inr ⟨2, rfl, by decide +kernel, rfl⟩
theorem iL_law_280 : Ins ML_law 280 (.invokevirtual 41) 3 283 := ⟨by decide +kernel, rfl⟩
theorem iL_law_283 : Jmp ML_law 283 (.if_icmp .eq) 882 286 := ⟨599, ⟨by decide +kernel, rfl⟩, by decide⟩
theorem iL_law_286 : Ins ML_law 286 (.iconst 0) 1 287 := ⟨by decide +kernel, rfl⟩
theorem iL_law_287 : Ins ML_law 287 (.ireturn) 1 288 := ⟨by decide +kernel, rfl⟩
theorem iL_law_288 : LdA ML_law 288 1 289 := Or.inr ⟨1, rfl, by decide +kernel, rfl⟩
theorem iL_law_289 : LdA ML_law 289 0 290 := Or.inr ⟨0, rfl, by decide +kernel, rfl⟩
theorem iL_law_290 : LdI ML_law 290 3 291 := Or.inr ⟨3, rfl, by decide +kernel, rfl⟩
theorem iL_law_291 : Ins ML_law 291 (.iconst 1) 1 292 := ⟨by decide +kernel, rfl⟩
theorem iL_law_292 : Ins ML_law 292 (.iadd) 1 293 := ⟨by decide +kernel, rfl⟩
theorem iL_law_293 : Ins ML_law 293 (.iaload) 1 294 := ⟨by decide +kernel, rfl⟩
theorem iL_law_294 : Ins ML_law 294 (.invokevirtual 42) 3 297 := ⟨by decide +kernel, rfl⟩
theorem iL_law_297 : LdA ML_law 297 2 298 := Or.inr ⟨2, rfl, by decide +kernel, rfl⟩
theorem iL_law_298 : LdA ML_law 298 0 299 := Or.inr ⟨0, rfl, by decide +kernel, rfl⟩
theorem iL_law_299 : LdI ML_law 299 3 300 := Or.inr ⟨3, rfl, by decide +kernel, rfl⟩
theorem iL_law_300 : Ins ML_law 300 (.iconst 1) 1 301 := ⟨by decide +kernel, rfl⟩
theorem iL_law_301 : Ins ML_law 301 (.iadd) 1 302 := ⟨by decide +kernel, rfl⟩
theorem iL_law_302 : Ins ML_law 302 (.iaload) 1 303 := ⟨by decide +kernel, rfl⟩
theorem iL_law_303 : Ins ML_law 303 (.invokevirtual 46) 3 306 := ⟨by decide +kernel, rfl⟩
theorem iL_law_306 : Jmp ML_law 306 (.if_icmp .eq) 882 309 := ⟨576, ⟨by decide +kernel, rfl⟩, by decide⟩
theorem iL_law_309 : Ins ML_law 309 (.iconst 0) 1 310 := ⟨by decide +kernel, rfl⟩
theorem iL_law_310 : Ins ML_law 310 (.ireturn) 1 311 := ⟨by decide +kernel, rfl⟩
theorem iL_law_311 : LdA ML_law 311 1 312 := Or.inr ⟨1, rfl, by decide +kernel, rfl⟩
theorem iL_law_312 : LdA ML_law 312 0 313 := Or.inr ⟨0, rfl, by decide +kernel, rfl⟩
theorem iL_law_313 : LdI ML_law 313 3 314 := Or.inr ⟨3, rfl, by decide +kernel, rfl⟩
theorem iL_law_314 : Ins ML_law 314 (.iconst 1) 1 315 := ⟨by decide +kernel, rfl⟩
theorem iL_law_315 : Ins ML_law 315 (.iadd) 1 316 := ⟨by decide +kernel, rfl⟩
theorem iL_law_316 : Ins ML_law 316 (.iaload) 1 317 := ⟨by decide +kernel, rfl⟩
theorem iL_law_317 : LdA ML_law 317 0 318 := Or.inr ⟨0, rfl, by decide +kernel, rfl⟩
theorem iL_law_318 : LdI ML_law 318 3 319 := Or.inr ⟨3, rfl, by decide +kernel, rfl⟩
theorem iL_law_319 : Ins ML_law 319 (.iconst 2) 1 320 := ⟨by decide +kernel, rfl⟩
theorem iL_law_320 : Ins ML_law 320 (.iadd) 1 321 := ⟨by decide +kernel, rfl⟩
theorem iL_law_321 : Ins ML_law 321 (.iaload) 1 322 := ⟨by decide +kernel, rfl⟩
theorem iL_law_322 : Ins ML_law 322 (.invokevirtual 47) 3 325 := ⟨by decide +kernel, rfl⟩
theorem iL_law_325 : LdA ML_law 325 2 326 := Or.inr ⟨2, rfl, by decide +kernel, rfl⟩
theorem iL_law_326 : LdA ML_law 326 0 327 := Or.inr ⟨0, rfl, by decide +kernel, rfl⟩
theorem iL_law_327 : LdI ML_law 327 3 328 := Or.inr ⟨3, rfl, by decide +kernel, rfl⟩
theorem iL_law_328 : Ins ML_law 328 (.iconst 1) 1 329 := ⟨by decide +kernel, rfl⟩
theorem iL_law_329 : Ins ML_law 329 (.iadd) 1 330 := ⟨by decide +kernel, rfl⟩
theorem iL_law_330 : Ins ML_law 330 (.iaload) 1 331 := ⟨by decide +kernel, rfl⟩
theorem iL_law_331 : LdA ML_law 331 0 332 := Or.inr ⟨0, rfl, by decide +kernel, rfl⟩
theorem iL_law_332 : LdI ML_law 332 3 333 := Or.inr ⟨3, rfl, by decide +kernel, rfl⟩
theorem iL_law_333 : Ins ML_law 333 (.iconst 2) 1 334 := ⟨by decide +kernel, rfl⟩
theorem iL_law_334 : Ins ML_law 334 (.iadd) 1 335 := ⟨by decide +kernel, rfl⟩
theorem iL_law_335 : Ins ML_law 335 (.iaload) 1 336 := ⟨by decide +kernel, rfl⟩
theorem iL_law_336 : Ins ML_law 336 (.invokevirtual 50) 3 339 := ⟨by decide +kernel, rfl⟩
theorem iL_law_339 : Jmp ML_law 339 (.if_icmp .eq) 882 342 := ⟨543, ⟨by decide +kernel, rfl⟩, by decide⟩
theorem iL_law_342 : Ins ML_law 342 (.iconst 0) 1 343 := ⟨by decide +kernel, rfl⟩
theorem iL_law_343 : Ins ML_law 343 (.ireturn) 1 344 := ⟨by decide +kernel, rfl⟩
theorem iL_law_344 : LdA ML_law 344 1 345 := Or.inr ⟨1, rfl, by decide +kernel, rfl⟩
theorem iL_law_345 : LdA ML_law 345 0 346 := Or.inr ⟨0, rfl, by decide +kernel, rfl⟩
theorem iL_law_346 : LdI ML_law 346 3 347 := Or.inr ⟨3, rfl, by decide +kernel, rfl⟩
theorem iL_law_347 : Ins ML_law 347 (.iconst 1) 1 348 := ⟨by decide +kernel, rfl⟩
theorem iL_law_348 : Ins ML_law 348 (.iadd) 1 349 := ⟨by decide +kernel, rfl⟩
theorem iL_law_349 : Ins ML_law 349 (.iaload) 1 350 := ⟨by decide +kernel, rfl⟩
theorem iL_law_350 : Jmp ML_law 350 (.ifCond .eq) 357 353 := ⟨7, ⟨by decide +kernel, rfl⟩, by decide⟩
theorem iL_law_353 : Ins ML_law 353 (.iconst 1) 1 354 := ⟨by decide +kernel, rfl⟩
theorem iL_law_354 : Jmp ML_law 354 .goto 358 357 := ⟨4, ⟨by decide +kernel, rfl⟩, by decide⟩
theorem iL_law_357 : Ins ML_law 357 (.iconst 0) 1 358 := ⟨by decide +kernel, rfl⟩
theorem iL_law_358 : Ins ML_law 358 (.invokevirtual 51) 3 361 := ⟨by decide +kernel, rfl⟩
theorem iL_law_361 : LdA ML_law 361 2 362 := Or.inr ⟨2, rfl, by decide +kernel, rfl⟩
theorem iL_law_362 : LdA ML_law 362 0 363 := Or.inr ⟨0, rfl, by decide +kernel, rfl⟩
theorem iL_law_363 : LdI ML_law 363 3 364 := Or.inr ⟨3, rfl, by decide +kernel, rfl⟩
theorem iL_law_364 : Ins ML_law 364 (.iconst 1) 1 365 := ⟨by decide +kernel, rfl⟩
theorem iL_law_365 : Ins ML_law 365 (.iadd) 1 366 := ⟨by decide +kernel, rfl⟩
theorem iL_law_366 : Ins ML_law 366 (.iaload) 1 367 := ⟨by decide +kernel, rfl⟩
theorem iL_law_367 : Jmp ML_law 367 (.ifCond .eq) 374 370 := ⟨7, ⟨by decide +kernel, rfl⟩, by decide⟩
theorem iL_law_370 : Ins ML_law 370 (.iconst 1) 1 371 := ⟨by decide +kernel, rfl⟩
theorem iL_law_371 : Jmp ML_law 371 .goto 375 374 := ⟨4, ⟨by decide +kernel, rfl⟩, by decide⟩
theorem iL_law_374 : Ins ML_law 374 (.iconst 0) 1 375 := ⟨by decide +kernel, rfl⟩
theorem iL_law_375 : Ins ML_law 375 (.invokevirtual 55) 3 378 := ⟨by decide +kernel, rfl⟩
theorem iL_law_378 : Jmp ML_law 378 (.if_icmp .eq) 882 381 := ⟨504, ⟨by decide +kernel, rfl⟩, by decide⟩
theorem iL_law_381 : Ins ML_law 381 (.iconst 0) 1 382 := ⟨by decide +kernel, rfl⟩
theorem iL_law_382 : Ins ML_law 382 (.ireturn) 1 383 := ⟨by decide +kernel, rfl⟩
theorem iL_law_383 : LdA ML_law 383 1 384 := Or.inr ⟨1, rfl, by decide +kernel, rfl⟩
theorem iL_law_384 : Ins ML_law 384 (.invokevirtual 56) 3 387 := ⟨by decide +kernel, rfl⟩
theorem iL_law_387 : LdA ML_law 387 2 388 := Or.inr ⟨2, rfl, by decide +kernel, rfl⟩
theorem iL_law_388 : Ins ML_law 388 (.invokevirtual 59) 3 391 := ⟨by decide +kernel, rfl⟩
theorem iL_law_391 : Jmp ML_law 391 (.if_icmp .eq) 882 394 := ⟨491, ⟨by decide +kernel, rfl⟩, by decide⟩
theorem iL_law_394 : Ins ML_law 394 (.iconst 0) 1 395 := ⟨by decide +kernel, rfl⟩
theorem iL_law_395 : Ins ML_law 395 (.ireturn) 1 396 := ⟨by decide +kernel, rfl⟩
theorem iL_law_396 : LdA ML_law 396 1 397 := Or.inr ⟨1, rfl, by decide +kernel, rfl⟩
theorem iL_law_397 : Ins ML_law 397 (.invokevirtual 60) 3 400 := ⟨by decide +kernel, rfl⟩
theorem iL_law_400 : LdA ML_law 400 2 401 := Or.inr ⟨2, rfl, by decide +kernel, rfl⟩
theorem iL_law_401 : Ins ML_law 401 (.invokevirtual 63) 3 404 := ⟨by decide +kernel, rfl⟩
theorem iL_law_404 : Jmp ML_law 404 (.if_icmp .eq) 882 407 := ⟨478, ⟨by decide +kernel, rfl⟩, by decide⟩
theorem iL_law_407 : Ins ML_law 407 (.iconst 0) 1 408 := ⟨by decide +kernel, rfl⟩
theorem iL_law_408 : Ins ML_law 408 (.ireturn) 1 409 := ⟨by decide +kernel, rfl⟩
theorem iL_law_409 : LdA ML_law 409 1 410 := Or.inr ⟨1, rfl, by decide +kernel, rfl⟩
theorem iL_law_410 : LdA ML_law 410 0 411 := Or.inr ⟨0, rfl, by decide +kernel, rfl⟩
theorem iL_law_411 : LdI ML_law 411 3 412 := Or.inr ⟨3, rfl, by decide +kernel, rfl⟩
theorem iL_law_412 : Ins ML_law 412 (.iconst 1) 1 413 := ⟨by decide +kernel, rfl⟩
theorem iL_law_413 : Ins ML_law 413 (.iadd) 1 414 := ⟨by decide +kernel, rfl⟩
theorem iL_law_414 : Ins ML_law 414 (.iaload) 1 415 := ⟨by decide +kernel, rfl⟩
theorem iL_law_415 : LdA ML_law 415 0 416 := Or.inr ⟨0, rfl, by decide +kernel, rfl⟩
theorem iL_law_416 : LdI ML_law 416 3 417 := Or.inr ⟨3, rfl, by decide +kernel, rfl⟩
theorem iL_law_417 : Ins ML_law 417 (.iconst 2) 1 418 := ⟨by decide +kernel, rfl⟩
theorem iL_law_418 : Ins ML_law 418 (.iadd) 1 419 := ⟨by decide +kernel, rfl⟩
theorem iL_law_419 : Ins ML_law 419 (.iaload) 1 420 := ⟨by decide +kernel, rfl⟩
theorem iL_law_420 : Ins ML_law 420 (.invokevirtual 64) 3 423 := ⟨by decide +kernel, rfl⟩
theorem iL_law_423 : LdA ML_law 423 2 424 := Or.inr ⟨2, rfl, by decide +kernel, rfl⟩
theorem iL_law_424 : LdA ML_law 424 0 425 := Or.inr ⟨0, rfl, by decide +kernel, rfl⟩
theorem iL_law_425 : LdI ML_law 425 3 426 := Or.inr ⟨3, rfl, by decide +kernel, rfl⟩
theorem iL_law_426 : Ins ML_law 426 (.iconst 1) 1 427 := ⟨by decide +kernel, rfl⟩
theorem iL_law_427 : Ins ML_law 427 (.iadd) 1 428 := ⟨by decide +kernel, rfl⟩
theorem iL_law_428 : Ins ML_law 428 (.iaload) 1 429 := ⟨by decide +kernel, rfl⟩
theorem iL_law_429 : LdA ML_law 429 0 430 := Or.inr ⟨0, rfl, by decide +kernel, rfl⟩
theorem iL_law_430 : LdI ML_law 430 3 431 := Or.inr ⟨3, rfl, by decide +kernel, rfl⟩
theorem iL_law_431 : Ins ML_law 431 (.iconst 2) 1 432 := ⟨by decide +kernel, rfl⟩
theorem iL_law_432 : Ins ML_law 432 (.iadd) 1 433 := ⟨by decide +kernel, rfl⟩
theorem iL_law_433 : Ins ML_law 433 (.iaload) 1 434 := ⟨by decide +kernel, rfl⟩
theorem iL_law_434 : Ins ML_law 434 (.invokevirtual 67) 3 437 := ⟨by decide +kernel, rfl⟩
theorem iL_law_437 : Jmp ML_law 437 (.if_icmp .eq) 882 440 := ⟨445, ⟨by decide +kernel, rfl⟩, by decide⟩
theorem iL_law_440 : Ins ML_law 440 (.iconst 0) 1 441 := ⟨by decide +kernel, rfl⟩
theorem iL_law_441 : Ins ML_law 441 (.ireturn) 1 442 := ⟨by decide +kernel, rfl⟩
theorem iL_law_442 : LdA ML_law 442 1 443 := Or.inr ⟨1, rfl, by decide +kernel, rfl⟩
theorem iL_law_443 : LdA ML_law 443 0 444 := Or.inr ⟨0, rfl, by decide +kernel, rfl⟩
theorem iL_law_444 : LdI ML_law 444 3 445 := Or.inr ⟨3, rfl, by decide +kernel, rfl⟩
theorem iL_law_445 : Ins ML_law 445 (.iconst 1) 1 446 := ⟨by decide +kernel, rfl⟩
theorem iL_law_446 : Ins ML_law 446 (.iadd) 1 447 := ⟨by decide +kernel, rfl⟩
theorem iL_law_447 : Ins ML_law 447 (.iaload) 1 448 := ⟨by decide +kernel, rfl⟩
theorem iL_law_448 : LdA ML_law 448 0 449 := Or.inr ⟨0, rfl, by decide +kernel, rfl⟩
theorem iL_law_449 : LdI ML_law 449 3 450 := Or.inr ⟨3, rfl, by decide +kernel, rfl⟩
theorem iL_law_450 : Ins ML_law 450 (.iconst 2) 1 451 := ⟨by decide +kernel, rfl⟩
theorem iL_law_451 : Ins ML_law 451 (.iadd) 1 452 := ⟨by decide +kernel, rfl⟩
theorem iL_law_452 : Ins ML_law 452 (.iaload) 1 453 := ⟨by decide +kernel, rfl⟩
theorem iL_law_453 : Jmp ML_law 453 (.ifCond .eq) 460 456 := ⟨7, ⟨by decide +kernel, rfl⟩, by decide⟩
theorem iL_law_456 : Ins ML_law 456 (.iconst 1) 1 457 := ⟨by decide +kernel, rfl⟩
theorem iL_law_457 : Jmp ML_law 457 .goto 461 460 := ⟨4, ⟨by decide +kernel, rfl⟩, by decide⟩
theorem iL_law_460 : Ins ML_law 460 (.iconst 0) 1 461 := ⟨by decide +kernel, rfl⟩
theorem iL_law_461 : Ins ML_law 461 (.invokevirtual 68) 3 464 := ⟨by decide +kernel, rfl⟩
theorem iL_law_464 : LdA ML_law 464 2 465 := Or.inr ⟨2, rfl, by decide +kernel, rfl⟩
theorem iL_law_465 : LdA ML_law 465 0 466 := Or.inr ⟨0, rfl, by decide +kernel, rfl⟩
theorem iL_law_466 : LdI ML_law 466 3 467 := Or.inr ⟨3, rfl, by decide +kernel, rfl⟩
theorem iL_law_467 : Ins ML_law 467 (.iconst 1) 1 468 := ⟨by decide +kernel, rfl⟩
theorem iL_law_468 : Ins ML_law 468 (.iadd) 1 469 := ⟨by decide +kernel, rfl⟩
theorem iL_law_469 : Ins ML_law 469 (.iaload) 1 470 := ⟨by decide +kernel, rfl⟩
theorem iL_law_470 : LdA ML_law 470 0 471 := Or.inr ⟨0, rfl, by decide +kernel, rfl⟩
theorem iL_law_471 : LdI ML_law 471 3 472 := Or.inr ⟨3, rfl, by decide +kernel, rfl⟩
theorem iL_law_472 : Ins ML_law 472 (.iconst 2) 1 473 := ⟨by decide +kernel, rfl⟩
theorem iL_law_473 : Ins ML_law 473 (.iadd) 1 474 := ⟨by decide +kernel, rfl⟩
theorem iL_law_474 : Ins ML_law 474 (.iaload) 1 475 := ⟨by decide +kernel, rfl⟩
theorem iL_law_475 : Jmp ML_law 475 (.ifCond .eq) 482 478 := ⟨7, ⟨by decide +kernel, rfl⟩, by decide⟩
theorem iL_law_478 : Ins ML_law 478 (.iconst 1) 1 479 := ⟨by decide +kernel, rfl⟩
theorem iL_law_479 : Jmp ML_law 479 .goto 483 482 := ⟨4, ⟨by decide +kernel, rfl⟩, by decide⟩
theorem iL_law_482 : Ins ML_law 482 (.iconst 0) 1 483 := ⟨by decide +kernel, rfl⟩
theorem iL_law_483 : Ins ML_law 483 (.invokevirtual 72) 3 486 := ⟨by decide +kernel, rfl⟩
theorem iL_law_486 : Jmp ML_law 486 (.if_icmp .eq) 882 489 := ⟨396, ⟨by decide +kernel, rfl⟩, by decide⟩
theorem iL_law_489 : Ins ML_law 489 (.iconst 0) 1 490 := ⟨by decide +kernel, rfl⟩
theorem iL_law_490 : Ins ML_law 490 (.ireturn) 1 491 := ⟨by decide +kernel, rfl⟩
theorem iL_law_491 : LdA ML_law 491 1 492 := Or.inr ⟨1, rfl, by decide +kernel, rfl⟩
theorem iL_law_492 : LdA ML_law 492 0 493 := Or.inr ⟨0, rfl, by decide +kernel, rfl⟩
theorem iL_law_493 : LdI ML_law 493 3 494 := Or.inr ⟨3, rfl, by decide +kernel, rfl⟩
theorem iL_law_494 : Ins ML_law 494 (.iconst 1) 1 495 := ⟨by decide +kernel, rfl⟩
theorem iL_law_495 : Ins ML_law 495 (.iadd) 1 496 := ⟨by decide +kernel, rfl⟩
theorem iL_law_496 : Ins ML_law 496 (.iaload) 1 497 := ⟨by decide +kernel, rfl⟩
theorem iL_law_497 : LdA ML_law 497 0 498 := Or.inr ⟨0, rfl, by decide +kernel, rfl⟩
theorem iL_law_498 : LdI ML_law 498 3 499 := Or.inr ⟨3, rfl, by decide +kernel, rfl⟩
theorem iL_law_499 : Ins ML_law 499 (.iconst 2) 1 500 := ⟨by decide +kernel, rfl⟩
theorem iL_law_500 : Ins ML_law 500 (.iadd) 1 501 := ⟨by decide +kernel, rfl⟩
theorem iL_law_501 : Ins ML_law 501 (.iaload) 1 502 := ⟨by decide +kernel, rfl⟩
theorem iL_law_502 : LdA ML_law 502 0 503 := Or.inr ⟨0, rfl, by decide +kernel, rfl⟩
theorem iL_law_503 : LdI ML_law 503 3 504 := Or.inr ⟨3, rfl, by decide +kernel, rfl⟩
theorem iL_law_504 : Ins ML_law 504 (.iconst 3) 1 505 := ⟨by decide +kernel, rfl⟩
theorem iL_law_505 : Ins ML_law 505 (.iadd) 1 506 := ⟨by decide +kernel, rfl⟩
theorem iL_law_506 : Ins ML_law 506 (.iaload) 1 507 := ⟨by decide +kernel, rfl⟩
theorem iL_law_507 : Jmp ML_law 507 (.ifCond .eq) 514 510 := ⟨7, ⟨by decide +kernel, rfl⟩, by decide⟩
theorem iL_law_510 : Ins ML_law 510 (.iconst 1) 1 511 := ⟨by decide +kernel, rfl⟩
theorem iL_law_511 : Jmp ML_law 511 .goto 515 514 := ⟨4, ⟨by decide +kernel, rfl⟩, by decide⟩
theorem iL_law_514 : Ins ML_law 514 (.iconst 0) 1 515 := ⟨by decide +kernel, rfl⟩
theorem iL_law_515 : Ins ML_law 515 (.invokevirtual 73) 3 518 := ⟨by decide +kernel, rfl⟩
theorem iL_law_518 : LdA ML_law 518 2 519 := Or.inr ⟨2, rfl, by decide +kernel, rfl⟩
theorem iL_law_519 : LdA ML_law 519 0 520 := Or.inr ⟨0, rfl, by decide +kernel, rfl⟩
theorem iL_law_520 : LdI ML_law 520 3 521 := Or.inr ⟨3, rfl, by decide +kernel, rfl⟩
theorem iL_law_521 : Ins ML_law 521 (.iconst 1) 1 522 := ⟨by decide +kernel, rfl⟩
theorem iL_law_522 : Ins ML_law 522 (.iadd) 1 523 := ⟨by decide +kernel, rfl⟩
theorem iL_law_523 : Ins ML_law 523 (.iaload) 1 524 := ⟨by decide +kernel, rfl⟩
theorem iL_law_524 : LdA ML_law 524 0 525 := Or.inr ⟨0, rfl, by decide +kernel, rfl⟩
theorem iL_law_525 : LdI ML_law 525 3 526 := Or.inr ⟨3, rfl, by decide +kernel, rfl⟩
theorem iL_law_526 : Ins ML_law 526 (.iconst 2) 1 527 := ⟨by decide +kernel, rfl⟩
theorem iL_law_527 : Ins ML_law 527 (.iadd) 1 528 := ⟨by decide +kernel, rfl⟩
theorem iL_law_528 : Ins ML_law 528 (.iaload) 1 529 := ⟨by decide +kernel, rfl⟩
theorem iL_law_529 : LdA ML_law 529 0 530 := Or.inr ⟨0, rfl, by decide +kernel, rfl⟩
theorem iL_law_530 : LdI ML_law 530 3 531 := Or.inr ⟨3, rfl, by decide +kernel, rfl⟩
theorem iL_law_531 : Ins ML_law 531 (.iconst 3) 1 532 := ⟨by decide +kernel, rfl⟩
theorem iL_law_532 : Ins ML_law 532 (.iadd) 1 533 := ⟨by decide +kernel, rfl⟩
theorem iL_law_533 : Ins ML_law 533 (.iaload) 1 534 := ⟨by decide +kernel, rfl⟩
theorem iL_law_534 : Jmp ML_law 534 (.ifCond .eq) 541 537 := ⟨7, ⟨by decide +kernel, rfl⟩, by decide⟩
theorem iL_law_537 : Ins ML_law 537 (.iconst 1) 1 538 := ⟨by decide +kernel, rfl⟩
theorem iL_law_538 : Jmp ML_law 538 .goto 542 541 := ⟨4, ⟨by decide +kernel, rfl⟩, by decide⟩
theorem iL_law_541 : Ins ML_law 541 (.iconst 0) 1 542 := ⟨by decide +kernel, rfl⟩
theorem iL_law_542 : Ins ML_law 542 (.invokevirtual 77) 3 545 := ⟨by decide +kernel, rfl⟩
theorem iL_law_545 : Ins ML_law 545 (.lcmp) 1 546 := ⟨by decide +kernel, rfl⟩
theorem iL_law_546 : Jmp ML_law 546 (.ifCond .eq) 882 549 := ⟨336, ⟨by decide +kernel, rfl⟩, by decide⟩
theorem iL_law_549 : Ins ML_law 549 (.iconst 0) 1 550 := ⟨by decide +kernel, rfl⟩
theorem iL_law_550 : Ins ML_law 550 (.ireturn) 1 551 := ⟨by decide +kernel, rfl⟩
theorem iL_law_551 : LdA ML_law 551 1 552 := Or.inr ⟨1, rfl, by decide +kernel, rfl⟩
theorem iL_law_552 : LdA ML_law 552 0 553 := Or.inr ⟨0, rfl, by decide +kernel, rfl⟩
theorem iL_law_553 : LdI ML_law 553 3 554 := Or.inr ⟨3, rfl, by decide +kernel, rfl⟩
theorem iL_law_554 : Ins ML_law 554 (.iconst 1) 1 555 := ⟨by decide +kernel, rfl⟩
theorem iL_law_555 : Ins ML_law 555 (.iadd) 1 556 := ⟨by decide +kernel, rfl⟩
theorem iL_law_556 : Ins ML_law 556 (.iaload) 1 557 := ⟨by decide +kernel, rfl⟩
theorem iL_law_557 : LdA ML_law 557 0 558 := Or.inr ⟨0, rfl, by decide +kernel, rfl⟩
theorem iL_law_558 : LdI ML_law 558 3 559 := Or.inr ⟨3, rfl, by decide +kernel, rfl⟩
theorem iL_law_559 : Ins ML_law 559 (.iconst 2) 1 560 := ⟨by decide +kernel, rfl⟩
theorem iL_law_560 : Ins ML_law 560 (.iadd) 1 561 := ⟨by decide +kernel, rfl⟩
theorem iL_law_561 : Ins ML_law 561 (.iaload) 1 562 := ⟨by decide +kernel, rfl⟩
theorem iL_law_562 : Ins ML_law 562 (.invokevirtual 78) 3 565 := ⟨by decide +kernel, rfl⟩
theorem iL_law_565 : LdA ML_law 565 2 566 := Or.inr ⟨2, rfl, by decide +kernel, rfl⟩
theorem iL_law_566 : LdA ML_law 566 0 567 := Or.inr ⟨0, rfl, by decide +kernel, rfl⟩
theorem iL_law_567 : LdI ML_law 567 3 568 := Or.inr ⟨3, rfl, by decide +kernel, rfl⟩
theorem iL_law_568 : Ins ML_law 568 (.iconst 1) 1 569 := ⟨by decide +kernel, rfl⟩
theorem iL_law_569 : Ins ML_law 569 (.iadd) 1 570 := ⟨by decide +kernel, rfl⟩
theorem iL_law_570 : Ins ML_law 570 (.iaload) 1 571 := ⟨by decide +kernel, rfl⟩
theorem iL_law_571 : LdA ML_law 571 0 572 := Or.inr ⟨0, rfl, by decide +kernel, rfl⟩
theorem iL_law_572 : LdI ML_law 572 3 573 := Or.inr ⟨3, rfl, by decide +kernel, rfl⟩
theorem iL_law_573 : Ins ML_law 573 (.iconst 2) 1 574 := ⟨by decide +kernel, rfl⟩
theorem iL_law_574 : Ins ML_law 574 (.iadd) 1 575 := ⟨by decide +kernel, rfl⟩
theorem iL_law_575 : Ins ML_law 575 (.iaload) 1 576 := ⟨by decide +kernel, rfl⟩
theorem iL_law_576 : Ins ML_law 576 (.invokevirtual 81) 3 579 := ⟨by decide +kernel, rfl⟩
theorem iL_law_579 : Jmp ML_law 579 (.if_icmp .eq) 882 582 := ⟨303, ⟨by decide +kernel, rfl⟩, by decide⟩
theorem iL_law_582 : Ins ML_law 582 (.iconst 0) 1 583 := ⟨by decide +kernel, rfl⟩
theorem iL_law_583 : Ins ML_law 583 (.ireturn) 1 584 := ⟨by decide +kernel, rfl⟩
theorem iL_law_584 : LdA ML_law 584 1 585 := Or.inr ⟨1, rfl, by decide +kernel, rfl⟩
theorem iL_law_585 : LdA ML_law 585 0 586 := Or.inr ⟨0, rfl, by decide +kernel, rfl⟩
theorem iL_law_586 : LdI ML_law 586 3 587 := Or.inr ⟨3, rfl, by decide +kernel, rfl⟩
theorem iL_law_587 : Ins ML_law 587 (.iconst 1) 1 588 := ⟨by decide +kernel, rfl⟩
theorem iL_law_588 : Ins ML_law 588 (.iadd) 1 589 := ⟨by decide +kernel, rfl⟩
theorem iL_law_589 : Ins ML_law 589 (.iaload) 1 590 := ⟨by decide +kernel, rfl⟩
theorem iL_law_590 : LdA ML_law 590 0 591 := Or.inr ⟨0, rfl, by decide +kernel, rfl⟩
theorem iL_law_591 : LdI ML_law 591 3 592 := Or.inr ⟨3, rfl, by decide +kernel, rfl⟩
theorem iL_law_592 : Ins ML_law 592 (.iconst 2) 1 593 := ⟨by decide +kernel, rfl⟩
theorem iL_law_593 : Ins ML_law 593 (.iadd) 1 594 := ⟨by decide +kernel, rfl⟩
theorem iL_law_594 : Ins ML_law 594 (.iaload) 1 595 := ⟨by decide +kernel, rfl⟩
theorem iL_law_595 : LdA ML_law 595 0 596 := Or.inr ⟨0, rfl, by decide +kernel, rfl⟩
theorem iL_law_596 : LdI ML_law 596 3 597 := Or.inr ⟨3, rfl, by decide +kernel, rfl⟩
theorem iL_law_597 : Ins ML_law 597 (.iconst 3) 1 598 := ⟨by decide +kernel, rfl⟩
theorem iL_law_598 : Ins ML_law 598 (.iadd) 1 599 := ⟨by decide +kernel, rfl⟩
theorem iL_law_599 : Ins ML_law 599 (.iaload) 1 600 := ⟨by decide +kernel, rfl⟩
theorem iL_law_600 : Jmp ML_law 600 (.ifCond .eq) 607 603 := ⟨7, ⟨by decide +kernel, rfl⟩, by decide⟩
theorem iL_law_603 : Ins ML_law 603 (.iconst 1) 1 604 := ⟨by decide +kernel, rfl⟩
theorem iL_law_604 : Jmp ML_law 604 .goto 608 607 := ⟨4, ⟨by decide +kernel, rfl⟩, by decide⟩
theorem iL_law_607 : Ins ML_law 607 (.iconst 0) 1 608 := ⟨by decide +kernel, rfl⟩
theorem iL_law_608 : Ins ML_law 608 (.invokevirtual 82) 3 611 := ⟨by decide +kernel, rfl⟩
theorem iL_law_611 : LdA ML_law 611 2 612 := Or.inr ⟨2, rfl, by decide +kernel, rfl⟩
theorem iL_law_612 : LdA ML_law 612 0 613 := Or.inr ⟨0, rfl, by decide +kernel, rfl⟩
theorem iL_law_613 : LdI ML_law 613 3 614 := Or.inr ⟨3, rfl, by decide +kernel, rfl⟩
theorem iL_law_614 : Ins ML_law 614 (.iconst 1) 1 615 := ⟨by decide +kernel, rfl⟩
theorem iL_law_615 : Ins ML_law 615 (.iadd) 1 616 := ⟨by decide +kernel, rfl⟩
theorem iL_law_616 : Ins ML_law 616 (.iaload) 1 617 := ⟨by decide +kernel, rfl⟩
theorem iL_law_617 : LdA ML_law 617 0 618 := Or.inr ⟨0, rfl, by decide +kernel, rfl⟩
theorem iL_law_618 : LdI ML_law 618 3 619 := Or.inr ⟨3, rfl, by decide +kernel, rfl⟩
theorem iL_law_619 : Ins ML_law 619 (.iconst 2) 1 620 := ⟨by decide +kernel, rfl⟩
theorem iL_law_620 : Ins ML_law 620 (.iadd) 1 621 := ⟨by decide +kernel, rfl⟩
theorem iL_law_621 : Ins ML_law 621 (.iaload) 1 622 := ⟨by decide +kernel, rfl⟩
theorem iL_law_622 : LdA ML_law 622 0 623 := Or.inr ⟨0, rfl, by decide +kernel, rfl⟩
theorem iL_law_623 : LdI ML_law 623 3 624 := Or.inr ⟨3, rfl, by decide +kernel, rfl⟩
theorem iL_law_624 : Ins ML_law 624 (.iconst 3) 1 625 := ⟨by decide +kernel, rfl⟩
theorem iL_law_625 : Ins ML_law 625 (.iadd) 1 626 := ⟨by decide +kernel, rfl⟩
theorem iL_law_626 : Ins ML_law 626 (.iaload) 1 627 := ⟨by decide +kernel, rfl⟩
theorem iL_law_627 : Jmp ML_law 627 (.ifCond .eq) 634 630 := ⟨7, ⟨by decide +kernel, rfl⟩, by decide⟩
theorem iL_law_630 : Ins ML_law 630 (.iconst 1) 1 631 := ⟨by decide +kernel, rfl⟩
theorem iL_law_631 : Jmp ML_law 631 .goto 635 634 := ⟨4, ⟨by decide +kernel, rfl⟩, by decide⟩
theorem iL_law_634 : Ins ML_law 634 (.iconst 0) 1 635 := ⟨by decide +kernel, rfl⟩
theorem iL_law_635 : Ins ML_law 635 (.invokevirtual 85) 3 638 := ⟨by decide +kernel, rfl⟩
theorem iL_law_638 : Ins ML_law 638 (.lcmp) 1 639 := ⟨by decide +kernel, rfl⟩
theorem iL_law_639 : Jmp ML_law 639 (.ifCond .eq) 882 642 := ⟨243, ⟨by decide +kernel, rfl⟩, by decide⟩
theorem iL_law_642 : Ins ML_law 642 (.iconst 0) 1 643 := ⟨by decide +kernel, rfl⟩
theorem iL_law_643 : Ins ML_law 643 (.ireturn) 1 644 := ⟨by decide +kernel, rfl⟩
theorem iL_law_644 : LdA ML_law 644 1 645 := Or.inr ⟨1, rfl, by decide +kernel, rfl⟩
theorem iL_law_645 : LdA ML_law 645 0 646 := Or.inr ⟨0, rfl, by decide +kernel, rfl⟩
theorem iL_law_646 : LdI ML_law 646 3 647 := Or.inr ⟨3, rfl, by decide +kernel, rfl⟩
theorem iL_law_647 : Ins ML_law 647 (.iconst 1) 1 648 := ⟨by decide +kernel, rfl⟩
theorem iL_law_648 : Ins ML_law 648 (.iadd) 1 649 := ⟨by decide +kernel, rfl⟩
theorem iL_law_649 : Ins ML_law 649 (.iaload) 1 650 := ⟨by decide +kernel, rfl⟩
theorem iL_law_650 : LdA ML_law 650 0 651 := Or.inr ⟨0, rfl, by decide +kernel, rfl⟩
theorem iL_law_651 : LdI ML_law 651 3 652 := Or.inr ⟨3, rfl, by decide +kernel, rfl⟩
theorem iL_law_652 : Ins ML_law 652 (.iconst 2) 1 653 := ⟨by decide +kernel, rfl⟩
theorem iL_law_653 : Ins ML_law 653 (.iadd) 1 654 := ⟨by decide +kernel, rfl⟩
theorem iL_law_654 : Ins ML_law 654 (.iaload) 1 655 := ⟨by decide +kernel, rfl⟩
theorem iL_law_655 : LdA ML_law 655 0 656 := Or.inr ⟨0, rfl, by decide +kernel, rfl⟩
theorem iL_law_656 : LdI ML_law 656 3 657 := Or.inr ⟨3, rfl, by decide +kernel, rfl⟩
theorem iL_law_657 : Ins ML_law 657 (.iconst 3) 1 658 := ⟨by decide +kernel, rfl⟩
theorem iL_law_658 : Ins ML_law 658 (.iadd) 1 659 := ⟨by decide +kernel, rfl⟩
theorem iL_law_659 : Ins ML_law 659 (.iaload) 1 660 := ⟨by decide +kernel, rfl⟩
theorem iL_law_660 : Jmp ML_law 660 (.ifCond .eq) 667 663 := ⟨7, ⟨by decide +kernel, rfl⟩, by decide⟩
theorem iL_law_663 : Ins ML_law 663 (.iconst 1) 1 664 := ⟨by decide +kernel, rfl⟩
theorem iL_law_664 : Jmp ML_law 664 .goto 668 667 := ⟨4, ⟨by decide +kernel, rfl⟩, by decide⟩
theorem iL_law_667 : Ins ML_law 667 (.iconst 0) 1 668 := ⟨by decide +kernel, rfl⟩
theorem iL_law_668 : Ins ML_law 668 (.invokevirtual 86) 3 671 := ⟨by decide +kernel, rfl⟩
theorem iL_law_671 : LdA ML_law 671 2 672 := Or.inr ⟨2, rfl, by decide +kernel, rfl⟩
theorem iL_law_672 : LdA ML_law 672 0 673 := Or.inr ⟨0, rfl, by decide +kernel, rfl⟩
theorem iL_law_673 : LdI ML_law 673 3 674 := Or.inr ⟨3, rfl, by decide +kernel, rfl⟩
theorem iL_law_674 : Ins ML_law 674 (.iconst 1) 1 675 := ⟨by decide +kernel, rfl⟩
theorem iL_law_675 : Ins ML_law 675 (.iadd) 1 676 := ⟨by decide +kernel, rfl⟩
theorem iL_law_676 : Ins ML_law 676 (.iaload) 1 677 := ⟨by decide +kernel, rfl⟩
theorem iL_law_677 : LdA ML_law 677 0 678 := Or.inr ⟨0, rfl, by decide +kernel, rfl⟩
theorem iL_law_678 : LdI ML_law 678 3 679 := Or.inr ⟨3, rfl, by decide +kernel, rfl⟩
theorem iL_law_679 : Ins ML_law 679 (.iconst 2) 1 680 := ⟨by decide +kernel, rfl⟩
theorem iL_law_680 : Ins ML_law 680 (.iadd) 1 681 := ⟨by decide +kernel, rfl⟩
theorem iL_law_681 : Ins ML_law 681 (.iaload) 1 682 := ⟨by decide +kernel, rfl⟩
theorem iL_law_682 : LdA ML_law 682 0 683 := Or.inr ⟨0, rfl, by decide +kernel, rfl⟩
theorem iL_law_683 : LdI ML_law 683 3 684 := Or.inr ⟨3, rfl, by decide +kernel, rfl⟩
theorem iL_law_684 : Ins ML_law 684 (.iconst 3) 1 685 := ⟨by decide +kernel, rfl⟩
theorem iL_law_685 : Ins ML_law 685 (.iadd) 1 686 := ⟨by decide +kernel, rfl⟩
theorem iL_law_686 : Ins ML_law 686 (.iaload) 1 687 := ⟨by decide +kernel, rfl⟩
theorem iL_law_687 : Jmp ML_law 687 (.ifCond .eq) 694 690 := ⟨7, ⟨by decide +kernel, rfl⟩, by decide⟩
theorem iL_law_690 : Ins ML_law 690 (.iconst 1) 1 691 := ⟨by decide +kernel, rfl⟩
theorem iL_law_691 : Jmp ML_law 691 .goto 695 694 := ⟨4, ⟨by decide +kernel, rfl⟩, by decide⟩
theorem iL_law_694 : Ins ML_law 694 (.iconst 0) 1 695 := ⟨by decide +kernel, rfl⟩
theorem iL_law_695 : Ins ML_law 695 (.invokevirtual 90) 3 698 := ⟨by decide +kernel, rfl⟩
theorem iL_law_698 : Jmp ML_law 698 (.if_icmp .eq) 882 701 := ⟨184, ⟨by decide +kernel, rfl⟩, by decide⟩
theorem iL_law_701 : Ins ML_law 701 (.iconst 0) 1 702 := ⟨by decide +kernel, rfl⟩
theorem iL_law_702 : Ins ML_law 702 (.ireturn) 1 703 := ⟨by decide +kernel, rfl⟩
theorem iL_law_703 : LdA ML_law 703 1 704 := Or.inr ⟨1, rfl, by decide +kernel, rfl⟩
theorem iL_law_704 : LdA ML_law 704 0 705 := Or.inr ⟨0, rfl, by decide +kernel, rfl⟩
theorem iL_law_705 : LdI ML_law 705 3 706 := Or.inr ⟨3, rfl, by decide +kernel, rfl⟩
theorem iL_law_706 : Ins ML_law 706 (.iconst 1) 1 707 := ⟨by decide +kernel, rfl⟩
theorem iL_law_707 : Ins ML_law 707 (.iadd) 1 708 := ⟨by decide +kernel, rfl⟩
theorem iL_law_708 : Ins ML_law 708 (.iaload) 1 709 := ⟨by decide +kernel, rfl⟩
theorem iL_law_709 : LdA ML_law 709 0 710 := Or.inr ⟨0, rfl, by decide +kernel, rfl⟩
theorem iL_law_710 : LdI ML_law 710 3 711 := Or.inr ⟨3, rfl, by decide +kernel, rfl⟩
theorem iL_law_711 : Ins ML_law 711 (.iconst 2) 1 712 := ⟨by decide +kernel, rfl⟩
theorem iL_law_712 : Ins ML_law 712 (.iadd) 1 713 := ⟨by decide +kernel, rfl⟩
theorem iL_law_713 : Ins ML_law 713 (.iaload) 1 714 := ⟨by decide +kernel, rfl⟩
theorem iL_law_714 : LdA ML_law 714 0 715 := Or.inr ⟨0, rfl, by decide +kernel, rfl⟩
theorem iL_law_715 : LdI ML_law 715 3 716 := Or.inr ⟨3, rfl, by decide +kernel, rfl⟩
theorem iL_law_716 : Ins ML_law 716 (.iconst 3) 1 717 := ⟨by decide +kernel, rfl⟩
theorem iL_law_717 : Ins ML_law 717 (.iadd) 1 718 := ⟨by decide +kernel, rfl⟩
theorem iL_law_718 : Ins ML_law 718 (.iaload) 1 719 := ⟨by decide +kernel, rfl⟩
theorem iL_law_719 : Ins ML_law 719 (.invokevirtual 91) 3 722 := ⟨by decide +kernel, rfl⟩
theorem iL_law_722 : LdA ML_law 722 2 723 := Or.inr ⟨2, rfl, by decide +kernel, rfl⟩
theorem iL_law_723 : LdA ML_law 723 0 724 := Or.inr ⟨0, rfl, by decide +kernel, rfl⟩
theorem iL_law_724 : LdI ML_law 724 3 725 := Or.inr ⟨3, rfl, by decide +kernel, rfl⟩
theorem iL_law_725 : Ins ML_law 725 (.iconst 1) 1 726 := ⟨by decide +kernel, rfl⟩
theorem iL_law_726 : Ins ML_law 726 (.iadd) 1 727 := ⟨by decide +kernel, rfl⟩
theorem iL_law_727 : Ins ML_law 727 (.iaload) 1 728 := ⟨by decide +kernel, rfl⟩
theorem iL_law_728 : LdA ML_law 728 0 729 := Or.inr ⟨0, rfl, by decide +kernel, rfl⟩
theorem iL_law_729 : LdI ML_law 729 3 730 := Or.inr ⟨3, rfl, by decide +kernel, rfl⟩
theorem iL_law_730 : Ins ML_law 730 (.iconst 2) 1 731 := ⟨by decide +kernel, rfl⟩
theorem iL_law_731 : Ins ML_law 731 (.iadd) 1 732 := ⟨by decide +kernel, rfl⟩
theorem iL_law_732 : Ins ML_law 732 (.iaload) 1 733 := ⟨by decide +kernel, rfl⟩
theorem iL_law_733 : LdA ML_law 733 0 734 := Or.inr ⟨0, rfl, by decide +kernel, rfl⟩
theorem iL_law_734 : LdI ML_law 734 3 735 := Or.inr ⟨3, rfl, by decide +kernel, rfl⟩
theorem iL_law_735 : Ins ML_law 735 (.iconst 3) 1 736 := ⟨by decide +kernel, rfl⟩
theorem iL_law_736 : Ins ML_law 736 (.iadd) 1 737 := ⟨by decide +kernel, rfl⟩
theorem iL_law_737 : Ins ML_law 737 (.iaload) 1 738 := ⟨by decide +kernel, rfl⟩
theorem iL_law_738 : Ins ML_law 738 (.invokevirtual 95) 3 741 := ⟨by decide +kernel, rfl⟩
theorem iL_law_741 : Jmp ML_law 741 (.if_icmp .eq) 882 744 := ⟨141, ⟨by decide +kernel, rfl⟩, by decide⟩
theorem iL_law_744 : Ins ML_law 744 (.iconst 0) 1 745 := ⟨by decide +kernel, rfl⟩
theorem iL_law_745 : Ins ML_law 745 (.ireturn) 1 746 := ⟨by decide +kernel, rfl⟩
theorem iL_law_746 : LdA ML_law 746 1 747 := Or.inr ⟨1, rfl, by decide +kernel, rfl⟩
theorem iL_law_747 : LdA ML_law 747 0 748 := Or.inr ⟨0, rfl, by decide +kernel, rfl⟩
theorem iL_law_748 : LdI ML_law 748 3 749 := Or.inr ⟨3, rfl, by decide +kernel, rfl⟩
theorem iL_law_749 : Ins ML_law 749 (.iconst 1) 1 750 := ⟨by decide +kernel, rfl⟩
theorem iL_law_750 : Ins ML_law 750 (.iadd) 1 751 := ⟨by decide +kernel, rfl⟩
theorem iL_law_751 : Ins ML_law 751 (.iaload) 1 752 := ⟨by decide +kernel, rfl⟩
theorem iL_law_752 : Ins ML_law 752 (.i2l) 1 753 := ⟨by decide +kernel, rfl⟩
theorem iL_law_753 : Ins ML_law 753 (.bipush 32) 2 755 := ⟨by decide +kernel, rfl⟩
theorem iL_law_755 : Ins ML_law 755 (.lshl) 1 756 := ⟨by decide +kernel, rfl⟩
theorem iL_law_756 : LdA ML_law 756 0 757 := Or.inr ⟨0, rfl, by decide +kernel, rfl⟩
theorem iL_law_757 : LdI ML_law 757 3 758 := Or.inr ⟨3, rfl, by decide +kernel, rfl⟩
theorem iL_law_758 : Ins ML_law 758 (.iconst 2) 1 759 := ⟨by decide +kernel, rfl⟩
theorem iL_law_759 : Ins ML_law 759 (.iadd) 1 760 := ⟨by decide +kernel, rfl⟩
theorem iL_law_760 : Ins ML_law 760 (.iaload) 1 761 := ⟨by decide +kernel, rfl⟩
theorem iL_law_761 : Ins ML_law 761 (.i2l) 1 762 := ⟨by decide +kernel, rfl⟩
theorem iL_law_762 : Ins ML_law 762 (.ldc2_w 13) 3 765 := ⟨by decide +kernel, rfl⟩
theorem iL_law_765 : Ins ML_law 765 (.land) 1 766 := ⟨by decide +kernel, rfl⟩
theorem iL_law_766 : Ins ML_law 766 (.lor) 1 767 := ⟨by decide +kernel, rfl⟩
theorem iL_law_767 : Ins ML_law 767 (.invokevirtual 96) 3 770 := ⟨by decide +kernel, rfl⟩
theorem iL_law_770 : LdA ML_law 770 2 771 := Or.inr ⟨2, rfl, by decide +kernel, rfl⟩
theorem iL_law_771 : LdA ML_law 771 0 772 := Or.inr ⟨0, rfl, by decide +kernel, rfl⟩
theorem iL_law_772 : LdI ML_law 772 3 773 := Or.inr ⟨3, rfl, by decide +kernel, rfl⟩
theorem iL_law_773 : Ins ML_law 773 (.iconst 1) 1 774 := ⟨by decide +kernel, rfl⟩
theorem iL_law_774 : Ins ML_law 774 (.iadd) 1 775 := ⟨by decide +kernel, rfl⟩
theorem iL_law_775 : Ins ML_law 775 (.iaload) 1 776 := ⟨by decide +kernel, rfl⟩
theorem iL_law_776 : Ins ML_law 776 (.i2l) 1 777 := ⟨by decide +kernel, rfl⟩
theorem iL_law_777 : Ins ML_law 777 (.bipush 32) 2 779 := ⟨by decide +kernel, rfl⟩
theorem iL_law_779 : Ins ML_law 779 (.lshl) 1 780 := ⟨by decide +kernel, rfl⟩
theorem iL_law_780 : LdA ML_law 780 0 781 := Or.inr ⟨0, rfl, by decide +kernel, rfl⟩
theorem iL_law_781 : LdI ML_law 781 3 782 := Or.inr ⟨3, rfl, by decide +kernel, rfl⟩
theorem iL_law_782 : Ins ML_law 782 (.iconst 2) 1 783 := ⟨by decide +kernel, rfl⟩
theorem iL_law_783 : Ins ML_law 783 (.iadd) 1 784 := ⟨by decide +kernel, rfl⟩
theorem iL_law_784 : Ins ML_law 784 (.iaload) 1 785 := ⟨by decide +kernel, rfl⟩
theorem iL_law_785 : Ins ML_law 785 (.i2l) 1 786 := ⟨by decide +kernel, rfl⟩
theorem iL_law_786 : Ins ML_law 786 (.ldc2_w 13) 3 789 := ⟨by decide +kernel, rfl⟩
theorem iL_law_789 : Ins ML_law 789 (.land) 1 790 := ⟨by decide +kernel, rfl⟩
theorem iL_law_790 : Ins ML_law 790 (.lor) 1 791 := ⟨by decide +kernel, rfl⟩
theorem iL_law_791 : Ins ML_law 791 (.invokevirtual 100) 3 794 := ⟨by decide +kernel, rfl⟩
theorem iL_law_794 : Ins ML_law 794 (.lcmp) 1 795 := ⟨by decide +kernel, rfl⟩
theorem iL_law_795 : Jmp ML_law 795 (.ifCond .eq) 882 798 := ⟨87, ⟨by decide +kernel, rfl⟩, by decide⟩
theorem iL_law_798 : Ins ML_law 798 (.iconst 0) 1 799 := ⟨by decide +kernel, rfl⟩
theorem iL_law_799 : Ins ML_law 799 (.ireturn) 1 800 := ⟨by decide +kernel, rfl⟩
theorem iL_law_800 : LdA ML_law 800 1 801 := Or.inr ⟨1, rfl, by decide +kernel, rfl⟩
theorem iL_law_801 : Ins ML_law 801 (.invokevirtual 101) 3 804 := ⟨by decide +kernel, rfl⟩
theorem iL_law_804 : LdA ML_law 804 2 805 := Or.inr ⟨2, rfl, by decide +kernel, rfl⟩
theorem iL_law_805 : Ins ML_law 805 (.invokevirtual 104) 3 808 := ⟨by decide +kernel, rfl⟩
theorem iL_law_808 : Jmp ML_law 808 (.if_icmp .eq) 882 811 := ⟨74, ⟨by decide +kernel, rfl⟩, by decide⟩
theorem iL_law_811 : Ins ML_law 811 (.iconst 0) 1 812 := ⟨by decide +kernel, rfl⟩
theorem iL_law_812 : Ins ML_law 812 (.ireturn) 1 813 := ⟨by decide +kernel, rfl⟩
theorem iL_law_813 : LdA ML_law 813 1 814 := Or.inr ⟨1, rfl, by decide +kernel, rfl⟩
theorem iL_law_814 : LdA ML_law 814 0 815 := Or.inr ⟨0, rfl, by decide +kernel, rfl⟩
theorem iL_law_815 : LdI ML_law 815 3 816 := Or.inr ⟨3, rfl, by decide +kernel, rfl⟩
theorem iL_law_816 : Ins ML_law 816 (.iconst 1) 1 817 := ⟨by decide +kernel, rfl⟩
theorem iL_law_817 : Ins ML_law 817 (.iadd) 1 818 := ⟨by decide +kernel, rfl⟩
theorem iL_law_818 : Ins ML_law 818 (.iaload) 1 819 := ⟨by decide +kernel, rfl⟩
theorem iL_law_819 : Ins ML_law 819 (.invokevirtual 105) 3 822 := ⟨by decide +kernel, rfl⟩
theorem iL_law_822 : LdA ML_law 822 2 823 := Or.inr ⟨2, rfl, by decide +kernel, rfl⟩
theorem iL_law_823 : LdA ML_law 823 0 824 := Or.inr ⟨0, rfl, by decide +kernel, rfl⟩
theorem iL_law_824 : LdI ML_law 824 3 825 := Or.inr ⟨3, rfl, by decide +kernel, rfl⟩
theorem iL_law_825 : Ins ML_law 825 (.iconst 1) 1 826 := ⟨by decide +kernel, rfl⟩
theorem iL_law_826 : Ins ML_law 826 (.iadd) 1 827 := ⟨by decide +kernel, rfl⟩
theorem iL_law_827 : Ins ML_law 827 (.iaload) 1 828 := ⟨by decide +kernel, rfl⟩
theorem iL_law_828 : Ins ML_law 828 (.invokevirtual 108) 3 831 := ⟨by decide +kernel, rfl⟩
theorem iL_law_831 : Jmp ML_law 831 (.if_icmp .eq) 882 834 := ⟨51, ⟨by decide +kernel, rfl⟩, by decide⟩
theorem iL_law_834 : Ins ML_law 834 (.iconst 0) 1 835 := ⟨by decide +kernel, rfl⟩
theorem iL_law_835 : Ins ML_law 835 (.ireturn) 1 836 := ⟨by decide +kernel, rfl⟩
theorem iL_law_836 : LdA ML_law 836 1 837 := Or.inr ⟨1, rfl, by decide +kernel, rfl⟩
theorem iL_law_837 : LdA ML_law 837 0 838 := Or.inr ⟨0, rfl, by decide +kernel, rfl⟩
theorem iL_law_838 : LdI ML_law 838 3 839 := Or.inr ⟨3, rfl, by decide +kernel, rfl⟩
theorem iL_law_839 : Ins ML_law 839 (.iconst 1) 1 840 := ⟨by decide +kernel, rfl⟩
theorem iL_law_840 : Ins ML_law 840 (.iadd) 1 841 := ⟨by decide +kernel, rfl⟩
theorem iL_law_841 : Ins ML_law 841 (.iaload) 1 842 := ⟨by decide +kernel, rfl⟩
theorem iL_law_842 : Ins ML_law 842 (.invokevirtual 109) 3 845 := ⟨by decide +kernel, rfl⟩
theorem iL_law_845 : LdA ML_law 845 2 846 := Or.inr ⟨2, rfl, by decide +kernel, rfl⟩
theorem iL_law_846 : LdA ML_law 846 0 847 := Or.inr ⟨0, rfl, by decide +kernel, rfl⟩
theorem iL_law_847 : LdI ML_law 847 3 848 := Or.inr ⟨3, rfl, by decide +kernel, rfl⟩
theorem iL_law_848 : Ins ML_law 848 (.iconst 1) 1 849 := ⟨by decide +kernel, rfl⟩
theorem iL_law_849 : Ins ML_law 849 (.iadd) 1 850 := ⟨by decide +kernel, rfl⟩
theorem iL_law_850 : Ins ML_law 850 (.iaload) 1 851 := ⟨by decide +kernel, rfl⟩
theorem iL_law_851 : Ins ML_law 851 (.invokevirtual 112) 3 854 := ⟨by decide +kernel, rfl⟩
theorem iL_law_854 : Jmp ML_law 854 (.if_icmp .eq) 882 857 := ⟨28, ⟨by decide +kernel, rfl⟩, by decide⟩
theorem iL_law_857 : Ins ML_law 857 (.iconst 0) 1 858 := ⟨by decide +kernel, rfl⟩
theorem iL_law_858 : Ins ML_law 858 (.ireturn) 1 859 := ⟨by decide +kernel, rfl⟩
theorem iL_law_859 : LdA ML_law 859 1 860 := Or.inr ⟨1, rfl, by decide +kernel, rfl⟩
theorem iL_law_860 : LdA ML_law 860 0 861 := Or.inr ⟨0, rfl, by decide +kernel, rfl⟩
theorem iL_law_861 : LdI ML_law 861 3 862 := Or.inr ⟨3, rfl, by decide +kernel, rfl⟩
theorem iL_law_862 : Ins ML_law 862 (.iconst 1) 1 863 := ⟨by decide +kernel, rfl⟩
theorem iL_law_863 : Ins ML_law 863 (.iadd) 1 864 := ⟨by decide +kernel, rfl⟩
theorem iL_law_864 : Ins ML_law 864 (.iaload) 1 865 := ⟨by decide +kernel, rfl⟩
theorem iL_law_865 : Ins ML_law 865 (.invokevirtual 113) 3 868 := ⟨by decide +kernel, rfl⟩
theorem iL_law_868 : LdA ML_law 868 2 869 := Or.inr ⟨2, rfl, by decide +kernel, rfl⟩
theorem iL_law_869 : LdA ML_law 869 0 870 := Or.inr ⟨0, rfl, by decide +kernel, rfl⟩
theorem iL_law_870 : LdI ML_law 870 3 871 := Or.inr ⟨3, rfl, by decide +kernel, rfl⟩
theorem iL_law_871 : Ins ML_law 871 (.iconst 1) 1 872 := ⟨by decide +kernel, rfl⟩
theorem iL_law_872 : Ins ML_law 872 (.iadd) 1 873 := ⟨by decide +kernel, rfl⟩
theorem iL_law_873 : Ins ML_law 873 (.iaload) 1 874 := ⟨by decide +kernel, rfl⟩
theorem iL_law_874 : Ins ML_law 874 (.invokevirtual 116) 3 877 := ⟨by decide +kernel, rfl⟩
theorem iL_law_877 : Jmp ML_law 877 (.if_icmp .eq) 882 880 := ⟨5, ⟨by decide +kernel, rfl⟩, by decide⟩
theorem iL_law_880 : Ins ML_law 880 (.iconst 0) 1 881 := ⟨by decide +kernel, rfl⟩
theorem iL_law_881 : Ins ML_law 881 (.ireturn) 1 882 := ⟨by decide +kernel, rfl⟩
theorem iL_law_882 : Inc ML_law 882 3 (4) 885 := ⟨⟨by decide +kernel, rfl⟩, Nat.le_of_ble_eq_true rfl⟩
theorem iL_law_885 : Jmp ML_law 885 .goto 18 888 := ⟨-867, ⟨by decide +kernel, rfl⟩, by decide⟩
theorem iL_law_888 : Ins ML_law 888 (.iconst 1) 1 889 := ⟨by decide +kernel, rfl⟩
theorem iL_law_889 : Ins ML_law 889 (.ireturn) 1 890 := ⟨by decide +kernel, rfl⟩
end
section
theorem neww_L_X6 : Cond.classLink RL 7 RX6 ∈ GW ∧ Cond.instantiable RX6 9 ∈ GW ∧ Cond.initialized RX6 ∈ GW ∧ (∀ w ∈ u_ws RX6 TX6 9, w ∈ GW) := ⟨(gt_1 11 rfl rfl), (gt_1 12 rfl rfl), (gt_1 1 rfl rfl), gwc_X6⟩
theorem objw_X6 : Cond.methodLink RX6 3 objectInit ∈ GW ∧ Cond.instanceMethod objectInit ∈ GW ∧ Cond.code objectInit ⟨#[0xb1]⟩ 1 none ∈ GW := ⟨(gt_1 16 rfl rfl), (gt_1 17 rfl rfl), (gt_1 18 rfl rfl)⟩
theorem neww_X6_X4 : Cond.classLink RX6 9 RX4 ∈ GW ∧ Cond.instantiable RX4 2 ∈ GW ∧ Cond.initialized RX4 ∈ GW ∧ (∀ w ∈ u_ws RX4 TX4 2, w ∈ GW) := ⟨(gt_1 19 rfl rfl), (gt_1 20 rfl rfl), (gt_1 2 rfl rfl), gwc_X4⟩
theorem objw_X4 : Cond.methodLink RX4 3 objectInit ∈ GW ∧ Cond.instanceMethod objectInit ∈ GW ∧ Cond.code objectInit ⟨#[0xb1]⟩ 1 none ∈ GW := ⟨(gt_1 24 rfl rfl), (gt_1 17 rfl rfl), (gt_1 18 rfl rfl)⟩
theorem neww_X6_X2 : Cond.classLink RX6 16 RX2 ∈ GW ∧ Cond.instantiable RX2 4 ∈ GW ∧ Cond.initialized RX2 ∈ GW ∧ (∀ w ∈ u_ws RX2 TX2 4, w ∈ GW) := ⟨(gt_1 34 rfl rfl), (gt_1 35 rfl rfl), (gt_1 3 rfl rfl), gwc_X2⟩
theorem objw_X2 : Cond.methodLink RX2 3 objectInit ∈ GW ∧ Cond.instanceMethod objectInit ∈ GW ∧ Cond.code objectInit ⟨#[0xb1]⟩ 1 none ∈ GW := ⟨(gt_1 39 rfl rfl), (gt_1 17 rfl rfl), (gt_1 18 rfl rfl)⟩
theorem neww_X2_X5 : Cond.classLink RX2 9 RX5 ∈ GW ∧ Cond.instantiable RX5 9 ∈ GW ∧ Cond.initialized RX5 ∈ GW ∧ (∀ w ∈ u_ws RX5 TX5 9, w ∈ GW) := ⟨(gt_1 40 rfl rfl), (gt_1 42 rfl rfl), (gt_1 4 rfl rfl), gwc_X5⟩
theorem objw_X5 : Cond.methodLink RX5 3 objectInit ∈ GW ∧ Cond.instanceMethod objectInit ∈ GW ∧ Cond.code objectInit ⟨#[0xb1]⟩ 1 none ∈ GW := ⟨(gt_1 46 rfl rfl), (gt_1 17 rfl rfl), (gt_1 18 rfl rfl)⟩
theorem neww_X6_X0 : Cond.classLink RX6 26 RX0 ∈ GW ∧ Cond.instantiable RX0 3 ∈ GW ∧ Cond.initialized RX0 ∈ GW ∧ (∀ w ∈ u_ws RX0 TX0 3, w ∈ GW) := ⟨(gt_1 102 rfl rfl), (gt_1 103 rfl rfl), (gt_1 5 rfl rfl), gwc_X0⟩
theorem objw_X0 : Cond.methodLink RX0 3 objectInit ∈ GW ∧ Cond.instanceMethod objectInit ∈ GW ∧ Cond.code objectInit ⟨#[0xb1]⟩ 1 none ∈ GW := ⟨(gt_1 107 rfl rfl), (gt_1 17 rfl rfl), (gt_1 18 rfl rfl)⟩
theorem neww_X0_X2 : Cond.classLink RX0 9 RX2 ∈ GW ∧ Cond.instantiable RX2 4 ∈ GW ∧ Cond.initialized RX2 ∈ GW ∧ (∀ w ∈ u_ws RX2 TX2 4, w ∈ GW) := ⟨(gt_1 108 rfl rfl), (gt_1 35 rfl rfl), (gt_1 3 rfl rfl), gwc_X2⟩
theorem neww_X6_X5 : Cond.classLink RX6 41 RX5 ∈ GW ∧ Cond.instantiable RX5 9 ∈ GW ∧ Cond.initialized RX5 ∈ GW ∧ (∀ w ∈ u_ws RX5 TX5 9, w ∈ GW) := ⟨(gt_1 122 rfl rfl), (gt_1 42 rfl rfl), (gt_1 4 rfl rfl), gwc_X5⟩
theorem neww_X6_X3 : Cond.classLink RX6 48 RX3 ∈ GW ∧ Cond.instantiable RX3 2 ∈ GW ∧ Cond.initialized RX3 ∈ GW ∧ (∀ w ∈ u_ws RX3 TX3 2, w ∈ GW) := ⟨(gt_1 124 rfl rfl), (gt_1 125 rfl rfl), (gt_1 6 rfl rfl), gwc_X3⟩
theorem objw_X3 : Cond.methodLink RX3 3 objectInit ∈ GW ∧ Cond.instanceMethod objectInit ∈ GW ∧ Cond.code objectInit ⟨#[0xb1]⟩ 1 none ∈ GW := ⟨(gt_1 129 rfl rfl), (gt_1 17 rfl rfl), (gt_1 18 rfl rfl)⟩
theorem neww_L_X7 : Cond.classLink RL 10 RX7 ∈ GW ∧ Cond.instantiable RX7 17 ∈ GW ∧ Cond.initialized RX7 ∈ GW ∧ (∀ w ∈ u_ws RX7 TX7 17, w ∈ GW) := ⟨(gt_3 1 rfl rfl), (gt_3 2 rfl rfl), (gt_1 7 rfl rfl), gwc_X7⟩
theorem objw_X7 : Cond.methodLink RX7 1 objectInit ∈ GW ∧ Cond.instanceMethod objectInit ∈ GW ∧ Cond.code objectInit ⟨#[0xb1]⟩ 1 none ∈ GW := ⟨(gt_3 6 rfl rfl), (gt_1 17 rfl rfl), (gt_1 18 rfl rfl)⟩
theorem r_putO {M : MD} {d mc ms pc pc' z k n : Nat} {Q : Option Value → Hp → Nat → Prop} {L S : List Value} {h : Hp} {idx ci j a : Nat} {fs : List Value} {v : Value} {ty : FieldType} (hi : Ins M pc (.putfield idx) 3 pc') (hl : FP M idx ci j ty) (ha : 2 ≤ a) (hlen : j < fs.length) (hfit : fitV ty v) (K : R M d mc ms Q pc' L S (hset h a (.inr (ci, fs.set j v))) z k n) : R M d mc ms Q pc L (v :: .ref a :: S) (hset h a (.inr (ci, fs))) z k n := r_putfield hi hl ha (hset_eq _ _ _) hlen hfit (by rw [hset_hset]; exact K)
theorem nI_inc (p : Nat) : nI p + Int32.ofInt 1 = nI (p + 1) := (nI_succ p).symm
def imax (x y : Int32) : Int32 := if x < y then y else x
def imin (x y : Int32) : Int32 := if y < x then y else x
def lmax (x y : Int64) : Int64 := if y < x then x else y
theorem r_mmax {M : MD} {d mc ms pc pc' z k n : Nat} {Q : Option Value → Hp → Nat → Prop} {L S : List Value} {h : Hp} {idx : Nat} {x y : Int32} (hi : Ins M pc (.invokestatic idx) 3 pc') (hc : CS M idx MJ9_max_7cf53 2) (hd1 : 1 ≤ d) (hS8 : (S.map fun v => v.category).sum ≤ 8) (K : R M d mc ms Q pc' L (.int (imax x y) :: S) h z k n) : R M d mc ms Q pc L (.int y :: .int x :: S) h z k n := by
  intro p l e Rm s m args below meth c E Qf O H locs ls hH hS hL hk hn
  obtain ⟨hx, hb, hml, hown, hts, hrm, hin, hK, hZ, hX, hB, hRC⟩ := id O
  obtain ⟨hd, rfl⟩ := hi
  obtain ⟨⟨w1, w2, w3, w5⟩, hd3, hm29⟩ := hc
  have hc8 := catS (E := E) hS8
  exact va_mmax hx hb (by rw [hml]; exact hL.1.symm) hown (hts _ w1) (hts _ w2) (hts _ w3) (hts _ w5) (by omega) (by omega) (by omega) (by omega) hd (K p l e Rm s m args below meth c E Qf O H locs ls hH hS hL hk hn)
theorem r_mmin {M : MD} {d mc ms pc pc' z k n : Nat} {Q : Option Value → Hp → Nat → Prop} {L S : List Value} {h : Hp} {idx : Nat} {x y : Int32} (hi : Ins M pc (.invokestatic idx) 3 pc') (hc : CS M idx MJ9_min_7cf53 2) (hd1 : 1 ≤ d) (hS8 : (S.map fun v => v.category).sum ≤ 8) (K : R M d mc ms Q pc' L (.int (imin x y) :: S) h z k n) : R M d mc ms Q pc L (.int y :: .int x :: S) h z k n := by
  intro p l e Rm s m args below meth c E Qf O H locs ls hH hS hL hk hn
  obtain ⟨hx, hb, hml, hown, hts, hrm, hin, hK, hZ, hX, hB, hRC⟩ := id O
  obtain ⟨hd, rfl⟩ := hi
  obtain ⟨⟨w1, w2, w3, w5⟩, hd3, hm29⟩ := hc
  have hc8 := catS (E := E) hS8
  exact va_mmin hx hb (by rw [hml]; exact hL.1.symm) hown (hts _ w1) (hts _ w2) (hts _ w3) (hts _ w5) (by omega) (by omega) (by omega) (by omega) hd (K p l e Rm s m args below meth c E Qf O H locs ls hH hS hL hk hn)
theorem r_mmaxL {M : MD} {d mc ms pc pc' z k n : Nat} {Q : Option Value → Hp → Nat → Prop} {L S : List Value} {h : Hp} {idx : Nat} {x y : Int64} (hi : Ins M pc (.invokestatic idx) 3 pc') (hc : CS M idx MJ9_max_f86c9 2) (hd1 : 1 ≤ d) (hS8 : (S.map fun v => v.category).sum ≤ 8) (K : R M d mc ms Q pc' L (.long (lmax x y) :: S) h z k n) : R M d mc ms Q pc L (.long y :: .long x :: S) h z k n := by
  intro p l e Rm s m args below meth c E Qf O H locs ls hH hS hL hk hn
  obtain ⟨hx, hb, hml, hown, hts, hrm, hin, hK, hZ, hX, hB, hRC⟩ := id O
  obtain ⟨hd, rfl⟩ := hi
  obtain ⟨⟨w1, w2, w3, w5⟩, hd3, hm29⟩ := hc
  have hc8 := catS (E := E) hS8
  exact va_mmax_long hx hb (by rw [hml]; exact hL.1.symm) hown (hts _ w1) (hts _ w2) (hts _ w3) (hts _ w5) (by omega) (by omega) (by omega) (by omega) hd (K p l e Rm s m args below meth c E Qf O H locs ls hH hS hL hk hn)
end
section
/-! a thrower: nine numbers (strength, wind, tries, running, best, there, misses, how, here); the class's Thrower -/
def thr (k : Nat → Int32) : aC := .inr (4, [.int (k 0), .int (k 1), .int (k 2), .int (k 3), .int (k 4), .int (k 5), .int (k 6), .int (k 7), .int (k 8)])
def kStart (s w : Int32) : Nat → Int32 := fun j => match j with
  | 0 => s
  | 1 => w
  | 4 => -9
  | 5 => -9
  | _ => 0
/-- a method that answers and changes nothing; one that changes the heap -/
def Fn (M : MD) (d : Nat) (A : List Value) (h : Hp) (r : Option Value) : Prop := ∀ z, Cal M d 0 0 A h z (fun v h' z' => v = r ∧ h' = h ∧ z' = z)
def Pr (M : MD) (d : Nat) (A : List Value) (h : Hp) (r : Option Value) (h1 : Hp) : Prop := ∀ z, Cal M d 0 0 A h z (fun v h' z' => v = r ∧ h' = h1 ∧ z' = z)
theorem Pr_at {M : MD} {d : Nat} {A : List Value} {h h1 : Hp} {r : Option Value} {a : Nat} {e : aC} (hk : h a = some e) (H : Pr M d A (hset h a e) r h1) : Pr M d A h r h1 := by rw [hset_self hk] at H; exact H
theorem c5_start (h : Hp) {a : Nat} (k : Nat → Int32) (ha : 2 ≤ a) (s w : Int32) : Pr MX5_start 0 [.ref a, .int s, .int w] (hset h a (thr k)) none (hset h a (thr (kStart s w))) := by
  intro z
  refine Cal_of_R (by decide +kernel) (L := [.ref a, .int s, .int w]) rfl (Nat.le_of_ble_eq_true rfl) ?_
  refine r_aload iX5_start_0 rfl ?_
  refine r_iload iX5_start_1 rfl ?_
  refine r_putO iX5_start_2 (fpX5_15 _ rfl) ha (Nat.le_of_ble_eq_true rfl) ⟨rfl, rfl⟩ ?_
  refine r_aload iX5_start_5 rfl ?_
  refine r_iload iX5_start_6 rfl ?_
  refine r_putO iX5_start_7 (fpX5_19 _ rfl) ha (Nat.le_of_ble_eq_true rfl) ⟨rfl, rfl⟩ ?_
  refine r_aload iX5_start_10 rfl ?_
  refine r_iconst (v := 0) iX5_start_11 rfl ?_
  refine r_putO iX5_start_12 (fpX5_22 _ rfl) ha (Nat.le_of_ble_eq_true rfl) ⟨rfl, rfl⟩ ?_
  refine r_aload iX5_start_15 rfl ?_
  refine r_iconst (v := 0) iX5_start_16 rfl ?_
  refine r_putO iX5_start_17 (fpX5_25 _ rfl) ha (Nat.le_of_ble_eq_true rfl) ⟨rfl, rfl⟩ ?_
  refine r_aload iX5_start_20 rfl ?_
  refine r_bipush (v := (-9)) iX5_start_21 rfl ?_
  refine r_putO iX5_start_23 (fpX5_28 _ rfl) ha (Nat.le_of_ble_eq_true rfl) ⟨rfl, rfl⟩ ?_
  refine r_aload iX5_start_26 rfl ?_
  refine r_bipush (v := (-9)) iX5_start_27 rfl ?_
  refine r_putO iX5_start_29 (fpX5_31 _ rfl) ha (Nat.le_of_ble_eq_true rfl) ⟨rfl, rfl⟩ ?_
  refine r_aload iX5_start_32 rfl ?_
  refine r_iconst (v := 0) iX5_start_33 rfl ?_
  refine r_putO iX5_start_34 (fpX5_34 _ rfl) ha (Nat.le_of_ble_eq_true rfl) ⟨rfl, rfl⟩ ?_
  refine r_aload iX5_start_37 rfl ?_
  refine r_iconst (v := 0) iX5_start_38 rfl ?_
  refine r_putO iX5_start_39 (fpX5_37 _ rfl) ha (Nat.le_of_ble_eq_true rfl) ⟨rfl, rfl⟩ ?_
  refine r_aload iX5_start_42 rfl ?_
  refine r_iconst (v := 0) iX5_start_43 rfl ?_
  refine r_putO iX5_start_44 (fpX5_40 _ rfl) ha (Nat.le_of_ble_eq_true rfl) ⟨rfl, rfl⟩ ?_
  refine r_vret iX5_start_47 rfl ?_
  exact ⟨rfl, rfl, rfl⟩
theorem c5_isOut (h : Hp) {a : Nat} (k : Nat → Int32) (hk : h a = some (thr k)) : Fn MX5_isOut 0 [.ref a] h (some (.int (if k 7 = 3 then 1 else 0))) := by
  intro z
  refine Cal_of_R (by decide +kernel) (L := [.ref a]) rfl (Nat.le_of_ble_eq_true rfl) ?_
  refine r_aload iX5_isOut_0 rfl ?_
  refine r_getfield iX5_isOut_1 (flX5_37 _ rfl) (hk) rfl ?_
  refine r_iconst (v := 3) iX5_isOut_4 rfl ?_
  refine r_icmp_ne iX5_isOut_5 (fun g => ?_) (fun g => ?_)
  · refine r_iconst (v := 0) iX5_isOut_12 rfl ?_
    refine r_zret iX5_isOut_13 rfl (Or.inl rfl) ?_
    rw [if_neg g]; exact ⟨rfl, rfl, rfl⟩
  · refine r_iconst (v := 1) iX5_isOut_8 rfl ?_
    refine r_goto iX5_isOut_9 ?_
    refine r_zret iX5_isOut_13 rfl (Or.inr rfl) ?_
    rw [if_pos (by simpa using g)]; exact ⟨rfl, rfl, rfl⟩
theorem c5_mayTry (h : Hp) {a : Nat} (k : Nat → Int32) (hk : h a = some (thr k)) : Fn MX5_mayTry 0 [.ref a] h (some (.int (if k 7 = 0 then 1 else 0))) := by
  intro z
  refine Cal_of_R (by decide +kernel) (L := [.ref a]) rfl (Nat.le_of_ble_eq_true rfl) ?_
  refine r_aload iX5_mayTry_0 rfl ?_
  refine r_getfield iX5_mayTry_1 (flX5_37 _ rfl) (hk) rfl ?_
  refine r_if_ne iX5_mayTry_4 (fun g => ?_) (fun g => ?_)
  · refine r_iconst (v := 0) iX5_mayTry_11 rfl ?_
    refine r_zret iX5_mayTry_12 rfl (Or.inl rfl) ?_
    rw [if_neg g]; exact ⟨rfl, rfl, rfl⟩
  · refine r_iconst (v := 1) iX5_mayTry_7 rfl ?_
    refine r_goto iX5_mayTry_8 ?_
    refine r_zret iX5_mayTry_12 rfl (Or.inr rfl) ?_
    rw [if_pos (by simpa using g)]; exact ⟨rfl, rfl, rfl⟩
theorem c5_copyFrom (h : Hp) {a b : Nat} (k k2 : Nat → Int32) (ha : 2 ≤ a) (hb : h b = some (thr k2)) (hab : b ≠ a) : Pr MX5_copyFrom 0 [.ref a, .ref b] (hset h a (thr k)) none (hset h a (thr k2)) := by
  intro z
  have hb2 : ∀ e : aC, hset h a e b = some (thr k2) := fun e => by rw [hset_ne h e hab]; exact hb
  refine Cal_of_R (by decide +kernel) (L := [.ref a, .ref b]) rfl (Nat.le_of_ble_eq_true rfl) ?_
  refine r_aload iX5_copyFrom_0 rfl ?_
  refine r_aload iX5_copyFrom_1 rfl ?_
  refine r_getfield iX5_copyFrom_2 (flX5_15 _ rfl) (hb2 _) rfl ?_
  refine r_putO iX5_copyFrom_5 (fpX5_15 _ rfl) ha (Nat.le_of_ble_eq_true rfl) ⟨rfl, rfl⟩ ?_
  refine r_aload iX5_copyFrom_8 rfl ?_
  refine r_aload iX5_copyFrom_9 rfl ?_
  refine r_getfield iX5_copyFrom_10 (flX5_19 _ rfl) (hb2 _) rfl ?_
  refine r_putO iX5_copyFrom_13 (fpX5_19 _ rfl) ha (Nat.le_of_ble_eq_true rfl) ⟨rfl, rfl⟩ ?_
  refine r_aload iX5_copyFrom_16 rfl ?_
  refine r_aload iX5_copyFrom_17 rfl ?_
  refine r_getfield iX5_copyFrom_18 (flX5_22 _ rfl) (hb2 _) rfl ?_
  refine r_putO iX5_copyFrom_21 (fpX5_22 _ rfl) ha (Nat.le_of_ble_eq_true rfl) ⟨rfl, rfl⟩ ?_
  refine r_aload iX5_copyFrom_24 rfl ?_
  refine r_aload iX5_copyFrom_25 rfl ?_
  refine r_getfield iX5_copyFrom_26 (flX5_25 _ rfl) (hb2 _) rfl ?_
  refine r_putO iX5_copyFrom_29 (fpX5_25 _ rfl) ha (Nat.le_of_ble_eq_true rfl) ⟨rfl, rfl⟩ ?_
  refine r_aload iX5_copyFrom_32 rfl ?_
  refine r_aload iX5_copyFrom_33 rfl ?_
  refine r_getfield iX5_copyFrom_34 (flX5_28 _ rfl) (hb2 _) rfl ?_
  refine r_putO iX5_copyFrom_37 (fpX5_28 _ rfl) ha (Nat.le_of_ble_eq_true rfl) ⟨rfl, rfl⟩ ?_
  refine r_aload iX5_copyFrom_40 rfl ?_
  refine r_aload iX5_copyFrom_41 rfl ?_
  refine r_getfield iX5_copyFrom_42 (flX5_31 _ rfl) (hb2 _) rfl ?_
  refine r_putO iX5_copyFrom_45 (fpX5_31 _ rfl) ha (Nat.le_of_ble_eq_true rfl) ⟨rfl, rfl⟩ ?_
  refine r_aload iX5_copyFrom_48 rfl ?_
  refine r_aload iX5_copyFrom_49 rfl ?_
  refine r_getfield iX5_copyFrom_50 (flX5_34 _ rfl) (hb2 _) rfl ?_
  refine r_putO iX5_copyFrom_53 (fpX5_34 _ rfl) ha (Nat.le_of_ble_eq_true rfl) ⟨rfl, rfl⟩ ?_
  refine r_aload iX5_copyFrom_56 rfl ?_
  refine r_aload iX5_copyFrom_57 rfl ?_
  refine r_getfield iX5_copyFrom_58 (flX5_37 _ rfl) (hb2 _) rfl ?_
  refine r_putO iX5_copyFrom_61 (fpX5_37 _ rfl) ha (Nat.le_of_ble_eq_true rfl) ⟨rfl, rfl⟩ ?_
  refine r_aload iX5_copyFrom_64 rfl ?_
  refine r_aload iX5_copyFrom_65 rfl ?_
  refine r_getfield iX5_copyFrom_66 (flX5_40 _ rfl) (hb2 _) rfl ?_
  refine r_putO iX5_copyFrom_69 (fpX5_40 _ rfl) ha (Nat.le_of_ble_eq_true rfl) ⟨rfl, rfl⟩ ?_
  refine r_vret iX5_copyFrom_72 rfl ?_
  exact ⟨rfl, rfl, rfl⟩
/-- a try that is over, one that isn't -/
def kOver (k : Nat → Int32) (height : Int32) : Nat → Int32 := fun j => match j with
  | 2 => k 2 + 1
  | 3 => 0
  | 4 => height
  | 5 => k 8
  | 7 => 1
  | j => k j
def kMiss (k : Nat → Int32) : Nat → Int32 := fun j => match j with
  | 2 => k 2 + 1
  | 3 => k 3 + 1
  | 6 => k 6 + 1
  | 7 => if k 3 + 1 < 3 then k 7 else 3
  | 8 => k 8 + 1
  | j => k j
def kRest (k : Nat → Int32) : Nat → Int32 := fun j => match j with
  | 7 => 2
  | j => k j
def kUp (k : Nat → Int32) : Nat → Int32 := fun j => match j with
  | 7 => if k 7 = 3 then 3 else 0
  | 8 => 0
  | j => k j
theorem c5_over (h : Hp) {a : Nat} (k : Nat → Int32) (ha : 2 ≤ a) (x height : Int32) (hx : ¬ x = 0) : Pr MX5_attempt 0 [.ref a, .int x, .int height] (hset h a (thr k)) none (hset h a (thr (kOver k height))) := by
  intro z
  refine Cal_of_R (by decide +kernel) (L := [.ref a, .int x, .int height]) rfl (Nat.le_of_ble_eq_true rfl) ?_
  refine r_aload iX5_attempt_0 rfl ?_
  refine r_dup iX5_attempt_1 rfl ?_
  refine r_getfield iX5_attempt_2 (flX5_22 _ rfl) (hset_eq _ _ _) rfl ?_
  refine r_iconst (v := 1) iX5_attempt_5 rfl ?_
  refine r_iadd iX5_attempt_6 ?_
  refine r_putO iX5_attempt_7 (fpX5_22 _ rfl) ha (Nat.le_of_ble_eq_true rfl) ⟨rfl, rfl⟩ ?_
  refine r_iload iX5_attempt_10 rfl ?_
  refine r_if_eq iX5_attempt_11 (fun g9 => absurd g9 (hx)) (fun _ => ?_)
  refine r_aload iX5_attempt_14 rfl ?_
  refine r_iload iX5_attempt_15 rfl ?_
  refine r_putO iX5_attempt_16 (fpX5_28 _ rfl) ha (Nat.le_of_ble_eq_true rfl) ⟨rfl, rfl⟩ ?_
  refine r_aload iX5_attempt_19 rfl ?_
  refine r_aload iX5_attempt_20 rfl ?_
  refine r_getfield iX5_attempt_21 (flX5_40 _ rfl) (hset_eq _ _ _) rfl ?_
  refine r_putO iX5_attempt_24 (fpX5_31 _ rfl) ha (Nat.le_of_ble_eq_true rfl) ⟨rfl, rfl⟩ ?_
  refine r_aload iX5_attempt_27 rfl ?_
  refine r_iconst (v := 0) iX5_attempt_28 rfl ?_
  refine r_putO iX5_attempt_29 (fpX5_25 _ rfl) ha (Nat.le_of_ble_eq_true rfl) ⟨rfl, rfl⟩ ?_
  refine r_aload iX5_attempt_32 rfl ?_
  refine r_iconst (v := 1) iX5_attempt_33 rfl ?_
  refine r_putO iX5_attempt_34 (fpX5_37 _ rfl) ha (Nat.le_of_ble_eq_true rfl) ⟨rfl, rfl⟩ ?_
  refine r_vret iX5_attempt_37 rfl ?_
  exact ⟨rfl, rfl, rfl⟩
theorem c5_miss (h : Hp) {a : Nat} (k : Nat → Int32) (ha : 2 ≤ a) (height : Int32) : Pr MX5_attempt 0 [.ref a, .int 0, .int height] (hset h a (thr k)) none (hset h a (thr (kMiss k))) := by
  intro z
  refine Cal_of_R (by decide +kernel) (L := [.ref a, .int 0, .int height]) rfl (Nat.le_of_ble_eq_true rfl) ?_
  refine r_aload iX5_attempt_0 rfl ?_
  refine r_dup iX5_attempt_1 rfl ?_
  refine r_getfield iX5_attempt_2 (flX5_22 _ rfl) (hset_eq _ _ _) rfl ?_
  refine r_iconst (v := 1) iX5_attempt_5 rfl ?_
  refine r_iadd iX5_attempt_6 ?_
  refine r_putO iX5_attempt_7 (fpX5_22 _ rfl) ha (Nat.le_of_ble_eq_true rfl) ⟨rfl, rfl⟩ ?_
  refine r_iload iX5_attempt_10 rfl ?_
  refine r_if_eq iX5_attempt_11 (fun _ => ?_) (fun g9 => absurd (rfl) g9)
  refine r_aload iX5_attempt_38 rfl ?_
  refine r_dup iX5_attempt_39 rfl ?_
  refine r_getfield iX5_attempt_40 (flX5_40 _ rfl) (hset_eq _ _ _) rfl ?_
  refine r_iconst (v := 1) iX5_attempt_43 rfl ?_
  refine r_iadd iX5_attempt_44 ?_
  refine r_putO iX5_attempt_45 (fpX5_40 _ rfl) ha (Nat.le_of_ble_eq_true rfl) ⟨rfl, rfl⟩ ?_
  refine r_aload iX5_attempt_48 rfl ?_
  refine r_dup iX5_attempt_49 rfl ?_
  refine r_getfield iX5_attempt_50 (flX5_34 _ rfl) (hset_eq _ _ _) rfl ?_
  refine r_iconst (v := 1) iX5_attempt_53 rfl ?_
  refine r_iadd iX5_attempt_54 ?_
  refine r_putO iX5_attempt_55 (fpX5_34 _ rfl) ha (Nat.le_of_ble_eq_true rfl) ⟨rfl, rfl⟩ ?_
  refine r_aload iX5_attempt_58 rfl ?_
  refine r_dup iX5_attempt_59 rfl ?_
  refine r_getfield iX5_attempt_60 (flX5_25 _ rfl) (hset_eq _ _ _) rfl ?_
  refine r_iconst (v := 1) iX5_attempt_63 rfl ?_
  refine r_iadd iX5_attempt_64 ?_
  refine r_putO iX5_attempt_65 (fpX5_25 _ rfl) ha (Nat.le_of_ble_eq_true rfl) ⟨rfl, rfl⟩ ?_
  refine r_aload iX5_attempt_68 rfl ?_
  refine r_getfield iX5_attempt_69 (flX5_25 _ rfl) (hset_eq _ _ _) rfl ?_
  refine r_iconst (v := 3) iX5_attempt_72 rfl ?_
  refine r_icmp_lt iX5_attempt_73 (fun g => ?_) (fun g => ?_)
  · refine r_vret iX5_attempt_81 rfl ?_
    refine ⟨rfl, ?_, rfl⟩
    show hset h a _ = hset h a (.inr (4, _))
    congr 4
    simp only [kMiss, List.set]
    rw [if_pos g]
  · refine r_aload iX5_attempt_76 rfl ?_
    refine r_iconst (v := 3) iX5_attempt_77 rfl ?_
    refine r_putO iX5_attempt_78 (fpX5_37 _ rfl) ha (Nat.le_of_ble_eq_true rfl) ⟨rfl, rfl⟩ ?_
    refine r_vret iX5_attempt_81 rfl ?_
    refine ⟨rfl, ?_, rfl⟩
    show hset h a _ = hset h a (.inr (4, _))
    congr 4
    simp only [kMiss, List.set]
    rw [if_neg g]
theorem c5_rest (h : Hp) {a : Nat} (k : Nat → Int32) (ha : 2 ≤ a) : Pr MX5_rest 0 [.ref a] (hset h a (thr k)) none (hset h a (thr (kRest k))) := by
  intro z
  refine Cal_of_R (by decide +kernel) (L := [.ref a]) rfl (Nat.le_of_ble_eq_true rfl) ?_
  refine r_aload iX5_rest_0 rfl ?_
  refine r_iconst (v := 2) iX5_rest_1 rfl ?_
  refine r_putO iX5_rest_2 (fpX5_37 _ rfl) ha (Nat.le_of_ble_eq_true rfl) ⟨rfl, rfl⟩ ?_
  refine r_vret iX5_rest_5 rfl ?_
  exact ⟨rfl, rfl, rfl⟩
theorem c5_up (h : Hp) {a : Nat} (k : Nat → Int32) (ha : 2 ≤ a) : Pr MX5_startHeight 0 [.ref a] (hset h a (thr k)) none (hset h a (thr (kUp k))) := by
  intro z
  refine Cal_of_R (by decide +kernel) (L := [.ref a]) rfl (Nat.le_of_ble_eq_true rfl) ?_
  refine r_aload iX5_startHeight_0 rfl ?_
  refine r_iconst (v := 0) iX5_startHeight_1 rfl ?_
  refine r_putO iX5_startHeight_2 (fpX5_40 _ rfl) ha (Nat.le_of_ble_eq_true rfl) ⟨rfl, rfl⟩ ?_
  refine r_aload iX5_startHeight_5 rfl ?_
  refine r_getfield iX5_startHeight_6 (flX5_37 _ rfl) (hset_eq _ _ _) rfl ?_
  refine r_iconst (v := 3) iX5_startHeight_9 rfl ?_
  refine r_icmp_eq iX5_startHeight_10 (fun g => ?_) (fun g => ?_)
  · refine r_vret iX5_startHeight_18 rfl ?_
    refine ⟨rfl, ?_, rfl⟩
    show hset h a _ = hset h a (.inr (4, _))
    congr 4
    simp only [kUp, List.set]
    rw [if_pos g, g]
  · refine r_aload iX5_startHeight_13 rfl ?_
    refine r_iconst (v := 0) iX5_startHeight_14 rfl ?_
    refine r_putO iX5_startHeight_15 (fpX5_37 _ rfl) ha (Nat.le_of_ble_eq_true rfl) ⟨rfl, rfl⟩ ?_
    refine r_vret iX5_startHeight_18 rfl ?_
    refine ⟨rfl, ?_, rfl⟩
    show hset h a _ = hset h a (.inr (4, _))
    congr 4
    simp only [kUp, List.set]
    rw [if_neg g]
/-- odds of a thrower at a height, behind more tries -/
def kTired (k : Nat → Int32) (more : Int32) : Int32 := if 0 < k 1 then (k 2 + more) / k 1 else 0
def kOdds (k : Nat → Int32) (height more : Int32) : Int32 := imax 0 (imin 9 (9 + k 0 - height - kTired k more))
theorem c5_oddsAt (h : Hp) {a : Nat} (k : Nat → Int32) (hk : h a = some (thr k)) (height more : Int32) : Fn MX5_oddsAt 1 [.ref a, .int height, .int more] h (some (.int (kOdds k height more))) := by
  intro z
  refine Cal_of_R (by decide +kernel) (L := [.ref a, .int height, .int more, .null, .null]) rfl (Nat.le_of_ble_eq_true rfl) ?_
  have tail : ∀ t : Int32, t = kTired k more → R MX5_oddsAt 1 0 0 (fun v h' z' => v = some (.int (kOdds k height more)) ∧ h' = h ∧ z' = z) 22 [.ref a, .int height, .int more, .null, .null] [.int t] h z 0 0 := by
    intro t ht
    refine r_istore_3 iX5_oddsAt_22 rfl ?_
    refine r_bipush (v := 9) iX5_oddsAt_23 rfl ?_
    refine r_aload iX5_oddsAt_25 rfl ?_
    refine r_getfield iX5_oddsAt_26 (flX5_15 _ rfl) hk rfl ?_
    refine r_iadd iX5_oddsAt_29 ?_
    refine r_iload iX5_oddsAt_30 rfl ?_
    refine r_isub iX5_oddsAt_31 ?_
    refine r_iload iX5_oddsAt_32 rfl ?_
    refine r_isub iX5_oddsAt_33 ?_
    refine r_istore_4 iX5_oddsAt_34 rfl ?_
    refine r_iconst (v := 0) iX5_oddsAt_36 rfl ?_
    refine r_bipush (v := 9) iX5_oddsAt_37 rfl ?_
    refine r_iload iX5_oddsAt_39 rfl ?_
    refine r_mmin iX5_oddsAt_41 (cX5_43 _ rfl) (by omega) (Nat.le_of_ble_eq_true rfl) ?_
    refine r_mmax iX5_oddsAt_44 (cX5_49 _ rfl) (by omega) (Nat.le_of_ble_eq_true rfl) ?_
    refine r_iret iX5_oddsAt_47 rfl ?_
    refine ⟨?_, rfl, rfl⟩
    rw [ht]; rfl
  refine r_aload iX5_oddsAt_0 rfl ?_
  refine r_getfield iX5_oddsAt_1 (flX5_19 _ rfl) hk rfl ?_
  refine r_if_le iX5_oddsAt_4 (fun g => ?_) (fun g => ?_)
  · refine r_iconst (v := 0) iX5_oddsAt_21 rfl ?_
    exact tail 0 (by rw [kTired, if_neg (Int32.not_lt.mpr g)])
  · refine r_aload iX5_oddsAt_7 rfl ?_
    refine r_getfield iX5_oddsAt_8 (flX5_22 _ rfl) hk rfl ?_
    refine r_iload iX5_oddsAt_11 rfl ?_
    refine r_iadd iX5_oddsAt_12 ?_
    refine r_aload iX5_oddsAt_13 rfl ?_
    refine r_getfield iX5_oddsAt_14 (flX5_19 _ rfl) hk rfl ?_
    refine r_idiv iX5_oddsAt_17 (fun q => g (by simp [q])) ?_
    refine r_goto iX5_oddsAt_18 ?_
    exact tail _ (by rw [kTired, if_pos (Int32.not_le.mp g)])
def kBetter (k k2 : Nat → Int32) : Bool := if k 4 = k2 4 then (if k 5 = k2 5 then decide (k 6 < k2 6) else decide (k 5 < k2 5)) else decide (k2 4 < k 4)
def b2i (b : Bool) : Int32 := if b then 1 else 0
theorem b2i_01 (b : Bool) : b2i b = 0 ∨ b2i b = 1 := by cases b <;> simp [b2i]
theorem c5_isBetterThan (h : Hp) {a b : Nat} (k k2 : Nat → Int32) (hk : h a = some (thr k)) (hb : h b = some (thr k2)) : Fn MX5_isBetterThan 0 [.ref a, .ref b] h (some (.int (b2i (kBetter k k2)))) := by
  intro z
  refine Cal_of_R (by decide +kernel) (L := [.ref a, .ref b]) rfl (Nat.le_of_ble_eq_true rfl) ?_
  refine r_aload iX5_isBetterThan_0 rfl ?_
  refine r_getfield iX5_isBetterThan_1 (flX5_28 _ rfl) hk rfl ?_
  refine r_aload iX5_isBetterThan_4 rfl ?_
  refine r_getfield iX5_isBetterThan_5 (flX5_28 _ rfl) (hb) rfl ?_
  refine r_icmp_eq iX5_isBetterThan_8 (fun g1 => ?_) (fun g1 => ?_)
  · refine r_aload iX5_isBetterThan_28 rfl ?_
    refine r_getfield iX5_isBetterThan_29 (flX5_31 _ rfl) hk rfl ?_
    refine r_aload iX5_isBetterThan_32 rfl ?_
    refine r_getfield iX5_isBetterThan_33 (flX5_31 _ rfl) (hb) rfl ?_
    refine r_icmp_eq iX5_isBetterThan_36 (fun g2 => ?_) (fun g2 => ?_)
    · refine r_aload iX5_isBetterThan_56 rfl ?_
      refine r_getfield iX5_isBetterThan_57 (flX5_34 _ rfl) hk rfl ?_
      refine r_aload iX5_isBetterThan_60 rfl ?_
      refine r_getfield iX5_isBetterThan_61 (flX5_34 _ rfl) (hb) rfl ?_
      refine r_icmp_ge iX5_isBetterThan_64 (fun g3 => ?_) (fun g3 => ?_)
      · refine r_iconst (v := 0) iX5_isBetterThan_71 rfl ?_
        refine r_zret iX5_isBetterThan_72 rfl (Or.inl rfl) ?_
        refine ⟨?_, rfl, rfl⟩
        rw [kBetter, if_pos g1, if_pos g2, decide_eq_false (Int32.not_lt.mpr g3)]; rfl
      · refine r_iconst (v := 1) iX5_isBetterThan_67 rfl ?_
        refine r_goto iX5_isBetterThan_68 ?_
        refine r_zret iX5_isBetterThan_72 rfl (Or.inr rfl) ?_
        refine ⟨?_, rfl, rfl⟩
        rw [kBetter, if_pos g1, if_pos g2, decide_eq_true (Int32.not_le.mp g3)]; rfl
    · refine r_aload iX5_isBetterThan_39 rfl ?_
      refine r_getfield iX5_isBetterThan_40 (flX5_31 _ rfl) hk rfl ?_
      refine r_aload iX5_isBetterThan_43 rfl ?_
      refine r_getfield iX5_isBetterThan_44 (flX5_31 _ rfl) (hb) rfl ?_
      refine r_icmp_ge iX5_isBetterThan_47 (fun g3 => ?_) (fun g3 => ?_)
      · refine r_iconst (v := 0) iX5_isBetterThan_54 rfl ?_
        refine r_zret iX5_isBetterThan_55 rfl (Or.inl rfl) ?_
        refine ⟨?_, rfl, rfl⟩
        rw [kBetter, if_pos g1, if_neg g2, decide_eq_false (Int32.not_lt.mpr g3)]; rfl
      · refine r_iconst (v := 1) iX5_isBetterThan_50 rfl ?_
        refine r_goto iX5_isBetterThan_51 ?_
        refine r_zret iX5_isBetterThan_55 rfl (Or.inr rfl) ?_
        refine ⟨?_, rfl, rfl⟩
        rw [kBetter, if_pos g1, if_neg g2, decide_eq_true (Int32.not_le.mp g3)]; rfl
  · refine r_aload iX5_isBetterThan_11 rfl ?_
    refine r_getfield iX5_isBetterThan_12 (flX5_28 _ rfl) hk rfl ?_
    refine r_aload iX5_isBetterThan_15 rfl ?_
    refine r_getfield iX5_isBetterThan_16 (flX5_28 _ rfl) (hb) rfl ?_
    refine r_icmp_le iX5_isBetterThan_19 (fun g3 => ?_) (fun g3 => ?_)
    · refine r_iconst (v := 0) iX5_isBetterThan_26 rfl ?_
      refine r_zret iX5_isBetterThan_27 rfl (Or.inl rfl) ?_
      refine ⟨?_, rfl, rfl⟩
      rw [kBetter, if_neg g1, decide_eq_false (Int32.not_lt.mpr g3)]; rfl
    · refine r_iconst (v := 1) iX5_isBetterThan_22 rfl ?_
      refine r_goto iX5_isBetterThan_23 ?_
      refine r_zret iX5_isBetterThan_27 rfl (Or.inr rfl) ?_
      refine ⟨?_, rfl, rfl⟩
      rw [kBetter, if_neg g1, decide_eq_true (Int32.not_le.mp g3)]; rfl
theorem c5_init (h : Hp) {a : Nat} (k : Nat → Int32) (ha : 2 ≤ a) : Pr MX5_init 1 [.ref a] (hset h a (thr k)) none (hset h a (thr (kStart 0 1))) := by
  intro z
  refine Cal_of_R (by decide +kernel) (L := [.ref a]) rfl (Nat.le_of_ble_eq_true rfl) ?_
  refine r_aload iX5_init_0 rfl ?_
  refine r_objinit iX5_init_1 objw_X5 (by decide) (Nat.le_of_ble_eq_true rfl) ?_
  refine r_aload iX5_init_4 rfl ?_
  refine r_iconst (v := 0) iX5_init_5 rfl ?_
  refine r_iconst (v := 1) iX5_init_6 rfl ?_
  refine r_callV iX5_init_7 (cX5_9 _ rfl) (c5_start h k ha _ _ z) (by omega) (hset_eq _ _ _) rfl rfl rfl (Nat.le_of_ble_eq_true rfl) (Nat.le_of_ble_eq_true rfl) (Nat.le_of_ble_eq_true rfl) ?_
  rintro v h' z' ⟨rfl, rfl, rfl⟩
  refine r_vret iX5_init_10 rfl ?_
  exact ⟨rfl, rfl, rfl⟩
theorem c5_told (h : Hp) {a : Nat} (k : Nat → Int32) (hk : h a = some (thr k)) (w : Nat) (hw : w < 9) : Fn MX5_told 0 [.ref a, .int (nI w)] h (some (.int (k w))) := by
  intro z
  refine Cal_of_R (by decide +kernel) (L := [.ref a, .int (nI w)]) rfl (Nat.le_of_ble_eq_true rfl) ?_
  match w, hw with
  | 0, _ =>
    refine r_iload iX5_told_0 rfl ?_
    refine r_tabIn (tgt := 48) iX5_told_1 (by decide) (by decide) rfl rfl ?_
    refine r_aload iX5_told_48 rfl ?_
    refine r_getfield iX5_told_49 (flX5_15 _ rfl) hk rfl ?_
    refine r_iret iX5_told_52 rfl ?_
    exact ⟨rfl, rfl, rfl⟩
  | 1, _ =>
    refine r_iload iX5_told_0 rfl ?_
    refine r_tabIn (tgt := 53) iX5_told_1 (by decide) (by decide) rfl rfl ?_
    refine r_aload iX5_told_53 rfl ?_
    refine r_getfield iX5_told_54 (flX5_19 _ rfl) hk rfl ?_
    refine r_iret iX5_told_57 rfl ?_
    exact ⟨rfl, rfl, rfl⟩
  | 2, _ =>
    refine r_iload iX5_told_0 rfl ?_
    refine r_tabIn (tgt := 58) iX5_told_1 (by decide) (by decide) rfl rfl ?_
    refine r_aload iX5_told_58 rfl ?_
    refine r_getfield iX5_told_59 (flX5_22 _ rfl) hk rfl ?_
    refine r_iret iX5_told_62 rfl ?_
    exact ⟨rfl, rfl, rfl⟩
  | 3, _ =>
    refine r_iload iX5_told_0 rfl ?_
    refine r_tabIn (tgt := 63) iX5_told_1 (by decide) (by decide) rfl rfl ?_
    refine r_aload iX5_told_63 rfl ?_
    refine r_getfield iX5_told_64 (flX5_25 _ rfl) hk rfl ?_
    refine r_iret iX5_told_67 rfl ?_
    exact ⟨rfl, rfl, rfl⟩
  | 4, _ =>
    refine r_iload iX5_told_0 rfl ?_
    refine r_tabIn (tgt := 68) iX5_told_1 (by decide) (by decide) rfl rfl ?_
    refine r_aload iX5_told_68 rfl ?_
    refine r_getfield iX5_told_69 (flX5_28 _ rfl) hk rfl ?_
    refine r_iret iX5_told_72 rfl ?_
    exact ⟨rfl, rfl, rfl⟩
  | 5, _ =>
    refine r_iload iX5_told_0 rfl ?_
    refine r_tabIn (tgt := 73) iX5_told_1 (by decide) (by decide) rfl rfl ?_
    refine r_aload iX5_told_73 rfl ?_
    refine r_getfield iX5_told_74 (flX5_31 _ rfl) hk rfl ?_
    refine r_iret iX5_told_77 rfl ?_
    exact ⟨rfl, rfl, rfl⟩
  | 6, _ =>
    refine r_iload iX5_told_0 rfl ?_
    refine r_tabIn (tgt := 78) iX5_told_1 (by decide) (by decide) rfl rfl ?_
    refine r_aload iX5_told_78 rfl ?_
    refine r_getfield iX5_told_79 (flX5_34 _ rfl) hk rfl ?_
    refine r_iret iX5_told_82 rfl ?_
    exact ⟨rfl, rfl, rfl⟩
  | 7, _ =>
    refine r_iload iX5_told_0 rfl ?_
    refine r_tabIn (tgt := 83) iX5_told_1 (by decide) (by decide) rfl rfl ?_
    refine r_aload iX5_told_83 rfl ?_
    refine r_getfield iX5_told_84 (flX5_37 _ rfl) hk rfl ?_
    refine r_iret iX5_told_87 rfl ?_
    exact ⟨rfl, rfl, rfl⟩
  | 8, _ =>
    refine r_iload iX5_told_0 rfl ?_
    refine r_tabOut (tgt := 88) iX5_told_1 (by decide) rfl ?_
    refine r_aload iX5_told_88 rfl ?_
    refine r_getfield iX5_told_89 (flX5_40 _ rfl) hk rfl ?_
    refine r_iret iX5_told_92 rfl ?_
    exact ⟨rfl, rfl, rfl⟩
end
section
/-! a contest: how many, the bar, who is on, the throwers; the class's Contest, six cells from c on -/
abbrev Cn : Type := Nat × Int32 × Int32 × (Nat → Nat → Int32)
def cOv (h : Hp) (c : Nat) (K : Cn) : Hp := fun a => if a < c then h a else if a = c then some (.inr (1, [.ref (c + 1), .int (nI K.1), .int K.2.1, .int K.2.2.1])) else if a = c + 1 then some (.inl (.object "UpWithSheaf$Thrower", 4, fun j => .ref (c + 2 + j))) else if a < c + 6 then some (thr (K.2.2.2 (a - (c + 2)))) else h a
theorem cOv_obj (h : Hp) (c : Nat) (K : Cn) : cOv h c K c = some (.inr (1, [.ref (c + 1), .int (nI K.1), .int K.2.1, .int K.2.2.1])) := by
  unfold cOv
  rw [if_neg (Nat.lt_irrefl c), if_pos rfl]
theorem cOv_arr (h : Hp) (c : Nat) (K : Cn) : cOv h c K (c + 1) = some (.inl (.object "UpWithSheaf$Thrower", 4, fun j => .ref (c + 2 + j))) := by
  unfold cOv
  rw [if_neg (by omega), if_neg (by omega), if_pos rfl]
theorem cOv_thr (h : Hp) (c : Nat) (K : Cn) {i : Nat} (hi : i < 4) : cOv h c K (c + 2 + i) = some (thr (K.2.2.2 i)) := by
  unfold cOv
  rw [if_neg (by omega), if_neg (by omega), if_neg (by omega), if_pos (by omega), show c + 2 + i - (c + 2) = i by omega]
theorem cOv_out (h : Hp) (c : Nat) (K : Cn) {a : Nat} (ha : a < c ∨ c + 6 ≤ a) : cOv h c K a = h a := by
  unfold cOv
  by_cases h1 : a < c
  · rw [if_pos h1]
  · rw [if_neg h1, if_neg (by omega), if_neg (by omega), if_neg (by omega)]
theorem cOv_set (h : Hp) (c n : Nat) (b u : Int32) (t : Nat → Nat → Int32) (n' : Nat) (b' u' : Int32) : hset (cOv h c (n, b, u, t)) c (.inr (1, [.ref (c + 1), .int (nI n'), .int b', .int u'])) = cOv h c (n', b', u', t) := by
  funext a
  by_cases ha : a = c
  · subst ha
    rw [hset_eq, cOv_obj]
  · rw [hset_ne _ _ ha]
    unfold cOv
    by_cases h1 : a < c
    · rw [if_pos h1, if_pos h1]
    · rw [if_neg h1, if_neg h1, if_neg ha, if_neg ha]
def upT (t : Nat → Nat → Int32) (i : Nat) (k : Nat → Int32) : Nat → Nat → Int32 := fun j => if j = i then k else t j
theorem cOv_setT (h : Hp) (c n : Nat) (b u : Int32) (t : Nat → Nat → Int32) {i : Nat} (hi : i < 4) (k : Nat → Int32) : hset (cOv h c (n, b, u, t)) (c + 2 + i) (thr k) = cOv h c (n, b, u, upT t i k) := by
  funext a
  by_cases ha : a = c + 2 + i
  · subst ha
    rw [hset_eq, cOv_thr h c _ hi]
    show _ = some (thr (upT t i k i))
    rw [upT, if_pos rfl]
  · rw [hset_ne _ _ ha]
    unfold cOv
    by_cases h1 : a < c
    · rw [if_pos h1, if_pos h1]
    · rw [if_neg h1, if_neg h1]
      by_cases h2 : a = c
      · rw [if_pos h2, if_pos h2]
      · rw [if_neg h2, if_neg h2]
        by_cases h3 : a = c + 1
        · rw [if_pos h3, if_pos h3]
        · rw [if_neg h3, if_neg h3]
          by_cases h4 : a < c + 6
          · rw [if_pos h4, if_pos h4]
            show some (thr (t (a - (c + 2)))) = some (thr (upT t i k (a - (c + 2))))
            rw [upT, if_neg (by omega)]
          · rw [if_neg h4, if_neg h4]
theorem cOv_self {h : Hp} {c : Nat} {K : Cn} (h0 : h c = some (.inr (1, [.ref (c + 1), .int (nI K.1), .int K.2.1, .int K.2.2.1]))) (h1 : h (c + 1) = some (.inl (.object "UpWithSheaf$Thrower", 4, fun j => .ref (c + 2 + j)))) (h2 : ∀ i, i < 4 → h (c + 2 + i) = some (thr (K.2.2.2 i))) : cOv h c K = h := by
  funext a
  unfold cOv
  by_cases g1 : a < c
  · rw [if_pos g1]
  · rw [if_neg g1]
    by_cases g2 : a = c
    · rw [if_pos g2, g2, h0]
    · rw [if_neg g2]
      by_cases g3 : a = c + 1
      · rw [if_pos g3, g3, h1]
      · rw [if_neg g3]
        by_cases g4 : a < c + 6
        · rw [if_pos g4, ← h2 (a - (c + 2)) (by omega), show c + 2 + (a - (c + 2)) = a by omega]
        · rw [if_neg g4]
theorem cOv_cOv (h : Hp) (c : Nat) (K K' : Cn) : cOv (cOv h c K) c K' = cOv h c K' := by
  funext a
  by_cases g : a < c ∨ c + 6 ≤ a
  · rw [cOv_out _ c K' g, cOv_out _ c K g, cOv_out _ c K' g]
  · have g1 : ¬ a < c := fun q => g (Or.inl q)
    have g4 : a < c + 6 := by omega
    by_cases g2 : a = c
    · subst g2; rw [cOv_obj, cOv_obj]
    · by_cases g3 : a = c + 1
      · subst g3; rw [cOv_arr, cOv_arr]
      · obtain ⟨i, rfl⟩ : ∃ i, a = c + 2 + i := ⟨a - (c + 2), by omega⟩
        rw [cOv_thr _ _ _ (by omega), cOv_thr _ _ _ (by omega)]
theorem r_csize {M : MD} {d mc ms pc pc' z k m : Nat} {Q : Option Value → Hp → Nat → Prop} {L S : List Value} {h : Hp} {idx c n n' : Nat} {b u : Int32} {t : Nat → Nat → Int32} (hi : Ins M pc (.putfield idx) 3 pc') (hl : FP M idx 1 1 .int) (hc : 2 ≤ c) (K : R M d mc ms Q pc' L S (cOv h c (n', b, u, t)) z k m) : R M d mc ms Q pc L (.int (nI n') :: .ref c :: S) (cOv h c (n, b, u, t)) z k m :=
  r_putfield hi hl hc (cOv_obj _ _ _) (Nat.le_of_ble_eq_true rfl) ⟨rfl, rfl⟩ (by have e := cOv_set h c n b u t n' b u; exact e ▸ K)
theorem r_cbar {M : MD} {d mc ms pc pc' z k m : Nat} {Q : Option Value → Hp → Nat → Prop} {L S : List Value} {h : Hp} {idx c n : Nat} {b b' u : Int32} {t : Nat → Nat → Int32} (hi : Ins M pc (.putfield idx) 3 pc') (hl : FP M idx 1 2 .int) (hc : 2 ≤ c) (K : R M d mc ms Q pc' L S (cOv h c (n, b', u, t)) z k m) : R M d mc ms Q pc L (.int b' :: .ref c :: S) (cOv h c (n, b, u, t)) z k m :=
  r_putfield hi hl hc (cOv_obj _ _ _) (Nat.le_of_ble_eq_true rfl) ⟨rfl, rfl⟩ (by have e := cOv_set h c n b u t n b' u; exact e ▸ K)
theorem r_cturn {M : MD} {d mc ms pc pc' z k m : Nat} {Q : Option Value → Hp → Nat → Prop} {L S : List Value} {h : Hp} {idx c n : Nat} {b u u' : Int32} {t : Nat → Nat → Int32} (hi : Ins M pc (.putfield idx) 3 pc') (hl : FP M idx 1 3 .int) (hc : 2 ≤ c) (K : R M d mc ms Q pc' L S (cOv h c (n, b, u', t)) z k m) : R M d mc ms Q pc L (.int u' :: .ref c :: S) (cOv h c (n, b, u, t)) z k m :=
  r_putfield hi hl hc (cOv_obj _ _ _) (Nat.le_of_ble_eq_true rfl) ⟨rfl, rfl⟩ (by have e := cOv_set h c n b u t n b u'; exact e ▸ K)
theorem thr_ix (c : Nat) {i : Nat} (hi : i < 4) : (fun j : Nat => Value.ref (c + 2 + j)) (nI i).toNatClampNeg = .ref (c + 2 + i) := by
  show Value.ref (c + 2 + (nI i).toNatClampNeg) = _
  rw [nI_clamp (by omega)]
theorem in4 {i : Nat} (hi : i < 4) : vp_in (nI i) 4 := vp_in_nI hi (by decide)
theorem Pr_to {M : MD} {d : Nat} {A : List Value} {h h1 h2 : Hp} {r : Option Value} (e : h1 = h2) (H : Pr M d A h r h1) : Pr M d A h r h2 := e ▸ H
theorem c2_knows (h : Hp) (c : Nat) {n : Nat} (hn : n ≤ 4) (b u : Int32) (t : Nat → Nat → Int32) (x : Int32) : Fn MX2_knows 0 [.ref c, .int x] (cOv h c (n, b, u, t)) (some (.int (if 0 ≤ x ∧ x < nI n then 1 else 0))) := by
  intro z
  refine Cal_of_R (by decide +kernel) (L := [.ref c, .int x]) rfl (Nat.le_of_ble_eq_true rfl) ?_
  refine r_iload iX2_knows_0 rfl ?_
  refine r_if_lt iX2_knows_1 (fun g1 => ?_) (fun g1 => ?_)
  · refine r_iconst (v := 0) iX2_knows_16 rfl ?_
    refine r_zret iX2_knows_17 rfl (Or.inl rfl) ?_
    rw [if_neg (fun q => Int32.not_lt.mpr q.1 g1)]; exact ⟨rfl, rfl, rfl⟩
  · refine r_iload iX2_knows_4 rfl ?_
    refine r_aload iX2_knows_5 rfl ?_
    refine r_getfield iX2_knows_6 (flX2_18 _ rfl) (cOv_obj _ _ _) rfl ?_
    refine r_icmp_ge iX2_knows_9 (fun g2 => ?_) (fun g2 => ?_)
    · refine r_iconst (v := 0) iX2_knows_16 rfl ?_
      refine r_zret iX2_knows_17 rfl (Or.inl rfl) ?_
      rw [if_neg (fun q => Int32.not_le.mpr q.2 g2)]; exact ⟨rfl, rfl, rfl⟩
    · refine r_iconst (v := 1) iX2_knows_12 rfl ?_
      refine r_goto iX2_knows_13 ?_
      refine r_zret iX2_knows_17 rfl (Or.inr rfl) ?_
      rw [if_pos ⟨Int32.not_lt.mp g1, Int32.not_le.mp g2⟩]; exact ⟨rfl, rfl, rfl⟩
/-- who is on next, from f on round and round -/
def nxt (n : Nat) (t : Nat → Nat → Int32) (f : Nat) : Nat → Int32
  | 0 => -9
  | j + 1 => if t ((f + (n - (j + 1))) % n) 7 = 0 then nI ((f + (n - (j + 1))) % n) else nxt n t f j
theorem i_ks {n i : Nat} (hn : n ≤ 4) (hi : i < n) : (if 0 ≤ nI i ∧ nI i < nI n then (1 : Int32) else 0) = 1 := if_pos ⟨nI_pos' (by omega), nI_lt hi (by omega)⟩
theorem c2_nextBehind (h : Hp) (c : Nat) {n : Nat} (hn : n ≤ 4) (b u : Int32) (t : Nat → Nat → Int32) (x : Int32) {f : Nat} (hx : x + 1 = nI f) (hf : f ≤ n) : Fn MX2_nextBehind 1 [.ref c, .int x] (cOv h c (n, b, u, t)) (some (.int (nxt n t f n))) := by
  intro z
  refine Cal_of_R (by decide +kernel) (L := [.ref c, .int x, .null, .null]) rfl (Nat.le_of_ble_eq_true rfl) ?_
  have loop : ∀ (j p : Nat) (w : Value), p + j = n → nxt n t f j = nxt n t f n → R MX2_nextBehind 1 0 0 (fun v h' z' => v = some (.int (nxt n t f n)) ∧ h' = cOv h c (n, b, u, t) ∧ z' = z) 2 [.ref c, .int x, .int (nI (p + 1)), w] [] (cOv h c (n, b, u, t)) z 0 0 := by
    intro j
    induction j with
    | zero =>
      intro p w hp hr
      refine r_iload iX2_nextBehind_2 rfl ?_
      refine r_aload iX2_nextBehind_3 rfl ?_
      refine r_getfield iX2_nextBehind_4 (flX2_18 _ rfl) (cOv_obj _ _ _) rfl ?_
      refine r_icmp_gt iX2_nextBehind_7 (fun _ => ?_) (fun g9 => absurd (nI_lt (by omega) (by omega)) g9)
      refine r_bipush (v := (-9)) iX2_nextBehind_57 rfl ?_
      refine r_iret iX2_nextBehind_59 rfl ?_
      exact ⟨by rw [← hr]; rfl, rfl, rfl⟩
    | succ j ih =>
      intro p w hp hr
      have hq0 : n - (j + 1) = p := by omega
      rw [nxt, hq0] at hr
      have tail : ∀ q : Nat, q = (f + p) % n → R MX2_nextBehind 1 0 0 (fun v h' z' => v = some (.int (nxt n t f n)) ∧ h' = cOv h c (n, b, u, t) ∧ z' = z) 29 [.ref c, .int x, .int (nI (p + 1)), .int (nI q)] [] (cOv h c (n, b, u, t)) z 0 0 := by
        intro q hq
        have hqn : q < n := by rw [hq]; exact Nat.mod_lt _ (by omega)
        rw [← hq] at hr
        refine r_aload iX2_nextBehind_29 rfl ?_
        refine r_iload iX2_nextBehind_30 rfl ?_
        refine r_callV iX2_nextBehind_31 (cX2_55 _ rfl) (c2_knows h c hn b u t (nI q) z) (by omega) (cOv_obj _ _ _) rfl rfl rfl (Nat.le_of_ble_eq_true rfl) (Nat.le_of_ble_eq_true rfl) (Nat.le_of_ble_eq_true rfl) ?_
        rintro v h' z' ⟨rfl, rfl, rfl⟩
        rw [i_ks hn hqn]
        refine r_if_eq iX2_nextBehind_34 (fun g9 => absurd g9 (by decide)) (fun _ => ?_)
        refine r_aload iX2_nextBehind_37 rfl ?_
        refine r_getfield iX2_nextBehind_38 (flX2_11 _ rfl) (cOv_obj _ _ _) rfl ?_
        refine r_iload iX2_nextBehind_41 rfl ?_
        refine r_aaload iX2_nextBehind_42 rfl (cOv_arr _ _ _) (in4 (by omega)) (thr_ix c (by omega)) ?_
        refine r_callV iX2_nextBehind_43 (cX2_75 _ rfl) (c5_mayTry _ (t q) (cOv_thr h c (n, b, u, t) (by omega)) _) (by omega) (cOv_thr _ _ _ (by omega)) rfl rfl rfl (Nat.le_of_ble_eq_true rfl) (Nat.le_of_ble_eq_true rfl) (Nat.le_of_ble_eq_true rfl) ?_
        rintro v h' z' ⟨rfl, rfl, rfl⟩
        by_cases g : t q 7 = 0
        · rw [if_pos g]
          rw [if_pos g] at hr
          refine r_if_eq iX2_nextBehind_46 (fun g9 => absurd g9 (by decide)) (fun _ => ?_)
          refine r_iload iX2_nextBehind_49 rfl ?_
          refine r_iret iX2_nextBehind_50 rfl ?_
          exact ⟨by rw [← hr], rfl, rfl⟩
        · rw [if_neg g]
          rw [if_neg g] at hr
          refine r_if_eq iX2_nextBehind_46 (fun _ => ?_) (fun g9 => absurd (rfl) g9)
          refine r_iinc_2 iX2_nextBehind_51 (by first | exact nI_inc _ | rfl) rfl ?_
          refine r_goto iX2_nextBehind_54 ?_
          exact ih (p + 1) _ (by omega) hr
      refine r_iload iX2_nextBehind_2 rfl ?_
      refine r_aload iX2_nextBehind_3 rfl ?_
      refine r_getfield iX2_nextBehind_4 (flX2_18 _ rfl) (cOv_obj _ _ _) rfl ?_
      refine r_icmp_gt iX2_nextBehind_7 (fun g9 => absurd g9 (nI_nlt (by omega) (by omega))) (fun _ => ?_)
      refine r_iload iX2_nextBehind_10 rfl ?_
      refine r_iload iX2_nextBehind_11 rfl ?_
      refine r_iadd iX2_nextBehind_12 ?_
      have e1 : x + nI (p + 1) = nI (f + p) := by rw [nI_succ, ← nI_add, ← hx]; ac_rfl
      rw [e1]
      refine r_istore_3 iX2_nextBehind_13 rfl ?_
      refine r_iload iX2_nextBehind_14 rfl ?_
      refine r_aload iX2_nextBehind_15 rfl ?_
      refine r_getfield iX2_nextBehind_16 (flX2_18 _ rfl) (cOv_obj _ _ _) rfl ?_
      refine r_icmp_lt iX2_nextBehind_19 (fun g => ?_) (fun g => ?_)
      · have g2 := (nI_ltI (by omega) (by omega)).mp g
        exact tail (f + p) (Nat.mod_eq_of_lt g2).symm
      · have g2 : ¬ f + p < n := fun q => g ((nI_ltI (by omega) (by omega)).mpr q)
        refine r_iload iX2_nextBehind_22 rfl ?_
        refine r_aload iX2_nextBehind_23 rfl ?_
        refine r_getfield iX2_nextBehind_24 (flX2_18 _ rfl) (cOv_obj _ _ _) rfl ?_
        refine r_isub iX2_nextBehind_27 ?_
        rw [pk_sub (show n ≤ f + p by omega)]
        refine r_istore_3 iX2_nextBehind_28 rfl ?_
        exact tail (f + p - n) (by rw [Nat.mod_eq_sub_mod (by omega), Nat.mod_eq_of_lt (by omega)])
  refine r_iconst (v := 1) iX2_nextBehind_0 rfl ?_
  refine r_istore_2 iX2_nextBehind_1 rfl ?_
  exact loop n 0 _ (by omega) rfl
theorem c2_isEnded (h : Hp) (c : Nat) {n : Nat} (hn : n ≤ 4) (b u : Int32) (t : Nat → Nat → Int32) : Fn MX2_isEnded 1 [.ref c] (cOv h c (n, b, u, t)) (some (.int (if 0 ≤ u ∧ u < nI n then 0 else 1))) := by
  intro z
  refine Cal_of_R (by decide +kernel) (L := [.ref c]) rfl (Nat.le_of_ble_eq_true rfl) ?_
  refine r_aload iX2_isEnded_0 rfl ?_
  refine r_aload iX2_isEnded_1 rfl ?_
  refine r_getfield iX2_isEnded_2 (flX2_25 _ rfl) (cOv_obj _ _ _) rfl ?_
  refine r_callV iX2_isEnded_5 (cX2_55 _ rfl) (c2_knows h c hn b u t u _) (by omega) (cOv_obj _ _ _) rfl rfl rfl (Nat.le_of_ble_eq_true rfl) (Nat.le_of_ble_eq_true rfl) (Nat.le_of_ble_eq_true rfl) ?_
  rintro v h' z' ⟨rfl, rfl, rfl⟩
  by_cases g : 0 ≤ u ∧ u < nI n
  · rw [if_pos g, if_pos g]
    refine r_if_ne iX2_isEnded_8 (fun _ => ?_) (fun g9 => absurd g9 (by decide))
    refine r_iconst (v := 0) iX2_isEnded_15 rfl ?_
    refine r_zret iX2_isEnded_16 rfl (Or.inl rfl) ?_
    exact ⟨rfl, rfl, rfl⟩
  · rw [if_neg g, if_neg g]
    refine r_if_ne iX2_isEnded_8 (fun g9 => absurd (rfl) g9) (fun _ => ?_)
    refine r_iconst (v := 1) iX2_isEnded_11 rfl ?_
    refine r_goto iX2_isEnded_12 ?_
    refine r_zret iX2_isEnded_16 rfl (Or.inr rfl) ?_
    exact ⟨rfl, rfl, rfl⟩
/-- who of the first ones, as bits -/
def bitsI (p : Nat → Bool) : Nat → Int32
  | 0 => 0
  | i + 1 => if p i = true then bitsI p i ||| ((1 : Int32) <<< (nI i &&& 31)) else bitsI p i
theorem c2_who (h : Hp) (c : Nat) {n : Nat} (hn : n ≤ 4) (b u : Int32) (t : Nat → Nat → Int32) (x : Int32) : Fn MX2_who 0 [.ref c, .int x] (cOv h c (n, b, u, t)) (some (.int (bitsI (fun j => decide (t j 7 = x)) n))) := by
  intro z
  refine Cal_of_R (by decide +kernel) (L := [.ref c, .int x, .null, .null]) rfl (Nat.le_of_ble_eq_true rfl) ?_
  have loop : ∀ (j p : Nat), p + j = n → R MX2_who 0 0 0 (fun v h' z' => v = some (.int (bitsI (fun j => decide (t j 7 = x)) n)) ∧ h' = cOv h c (n, b, u, t) ∧ z' = z) 4 [.ref c, .int x, .int (bitsI (fun j => decide (t j 7 = x)) p), .int (nI p)] [] (cOv h c (n, b, u, t)) z 0 0 := by
    intro j
    induction j with
    | zero =>
      intro p hp
      refine r_iload iX2_who_4 rfl ?_
      refine r_aload iX2_who_5 rfl ?_
      refine r_getfield iX2_who_6 (flX2_18 _ rfl) (cOv_obj _ _ _) rfl ?_
      refine r_icmp_ge iX2_who_9 (fun _ => ?_) (fun g9 => absurd (nI_le (by omega) (by omega)) g9)
      refine r_iload iX2_who_37 rfl ?_
      refine r_iret iX2_who_38 rfl ?_
      exact ⟨by rw [show p = n by omega], rfl, rfl⟩
    | succ j ih =>
      intro p hp
      refine r_iload iX2_who_4 rfl ?_
      refine r_aload iX2_who_5 rfl ?_
      refine r_getfield iX2_who_6 (flX2_18 _ rfl) (cOv_obj _ _ _) rfl ?_
      refine r_icmp_ge iX2_who_9 (fun g9 => absurd g9 (nI_ge (by omega) (by omega))) (fun _ => ?_)
      refine r_aload iX2_who_12 rfl ?_
      refine r_getfield iX2_who_13 (flX2_11 _ rfl) (cOv_obj _ _ _) rfl ?_
      refine r_iload iX2_who_16 rfl ?_
      refine r_aaload iX2_who_17 rfl (cOv_arr _ _ _) (in4 (by omega)) (thr_ix c (by omega)) ?_
      refine r_getfield iX2_who_18 (flX2_91 _ rfl) (cOv_thr _ _ _ (by omega)) rfl ?_
      refine r_iload iX2_who_21 rfl ?_
      refine r_icmp_ne iX2_who_22 (fun g => ?_) (fun g => ?_)
      · have e : bitsI (fun j => decide (t j 7 = x)) p = bitsI (fun j => decide (t j 7 = x)) (p + 1) := by rw [bitsI, if_neg (by simpa using g)]
        rw [e]
        refine r_iinc_3 iX2_who_31 (by first | exact nI_inc _ | rfl) rfl ?_
        refine r_goto iX2_who_34 ?_
        exact ih (p + 1) (by omega)
      · refine r_iload iX2_who_25 rfl ?_
        refine r_iconst (v := 1) iX2_who_26 rfl ?_
        refine r_iload iX2_who_27 rfl ?_
        refine r_ishl iX2_who_28 ?_
        refine r_ior iX2_who_29 ?_
        have e : bitsI (fun j => decide (t j 7 = x)) p ||| ((1 : Int32) <<< (nI p &&& 31)) = bitsI (fun j => decide (t j 7 = x)) (p + 1) := by rw [bitsI, if_pos (by simpa using g)]
        rw [e]
        refine r_istore_2 iX2_who_30 rfl ?_
        refine r_iinc_3 iX2_who_31 (by first | exact nI_inc _ | rfl) rfl ?_
        refine r_goto iX2_who_34 ?_
        exact ih (p + 1) (by omega)
  refine r_iconst (v := 0) iX2_who_0 rfl ?_
  refine r_istore_2 iX2_who_1 rfl ?_
  refine r_iconst (v := 0) iX2_who_2 rfl ?_
  refine r_istore_3 iX2_who_3 rfl ?_
  exact loop n 0 (by omega)
theorem bits_not (p : Nat → Bool) : ∀ n, n ≤ 4 → (((1 : Int32) <<< (nI n &&& 31)) - 1) &&& (bitsI p n ^^^ (-1)) = bitsI (fun j => !p j) n := by
  intro n hn
  match n, hn with
  | 0, _ => simp only [bitsI, Bool.false_eq_true, if_false, if_true, Bool.not_true, Bool.not_false] <;> decide
  | 1, _ => cases h0 : p 0 <;> simp only [bitsI, h0, Bool.false_eq_true, if_false, if_true, Bool.not_true, Bool.not_false] <;> decide
  | 2, _ => cases h0 : p 0 <;> cases h1 : p 1 <;> simp only [bitsI, h0, h1, Bool.false_eq_true, if_false, if_true, Bool.not_true, Bool.not_false] <;> decide
  | 3, _ => cases h0 : p 0 <;> cases h1 : p 1 <;> cases h2 : p 2 <;> simp only [bitsI, h0, h1, h2, Bool.false_eq_true, if_false, if_true, Bool.not_true, Bool.not_false] <;> decide
  | 4, _ => cases h0 : p 0 <;> cases h1 : p 1 <;> cases h2 : p 2 <;> cases h3 : p 3 <;> simp only [bitsI, h0, h1, h2, h3, Bool.false_eq_true, if_false, if_true, Bool.not_true, Bool.not_false] <;> decide
def anyT (p : Nat → Bool) : Nat → Bool
  | 0 => false
  | i + 1 => anyT p i || p i
theorem bits_any (p : Nat → Bool) : ∀ n, n ≤ 4 → (bitsI p n = 0 ↔ anyT p n = false) := by
  intro n hn
  match n, hn with
  | 0, _ => simp only [bitsI, anyT, Bool.false_eq_true, if_false, if_true, Bool.not_true, Bool.not_false] <;> decide
  | 1, _ => cases h0 : p 0 <;> simp only [bitsI, anyT, h0, Bool.false_eq_true, if_false, if_true, Bool.not_true, Bool.not_false] <;> decide
  | 2, _ => cases h0 : p 0 <;> cases h1 : p 1 <;> simp only [bitsI, anyT, h0, h1, Bool.false_eq_true, if_false, if_true, Bool.not_true, Bool.not_false] <;> decide
  | 3, _ => cases h0 : p 0 <;> cases h1 : p 1 <;> cases h2 : p 2 <;> simp only [bitsI, anyT, h0, h1, h2, Bool.false_eq_true, if_false, if_true, Bool.not_true, Bool.not_false] <;> decide
  | 4, _ => cases h0 : p 0 <;> cases h1 : p 1 <;> cases h2 : p 2 <;> cases h3 : p 3 <;> simp only [bitsI, anyT, h0, h1, h2, h3, Bool.false_eq_true, if_false, if_true, Bool.not_true, Bool.not_false] <;> decide
def notOutP (t : Nat → Nat → Int32) (j : Nat) : Bool := !decide (t j 7 = 3)
theorem c2_notOut (h : Hp) (c : Nat) {n : Nat} (hn : n ≤ 4) (b u : Int32) (t : Nat → Nat → Int32) : Fn MX2_notOut 1 [.ref c] (cOv h c (n, b, u, t)) (some (.int (bitsI (notOutP t) n))) := by
  intro z
  refine Cal_of_R (by decide +kernel) (L := [.ref c]) rfl (Nat.le_of_ble_eq_true rfl) ?_
  refine r_iconst (v := 1) iX2_notOut_0 rfl ?_
  refine r_aload iX2_notOut_1 rfl ?_
  refine r_getfield iX2_notOut_2 (flX2_18 _ rfl) (cOv_obj _ _ _) rfl ?_
  refine r_ishl iX2_notOut_5 ?_
  refine r_iconst (v := 1) iX2_notOut_6 rfl ?_
  refine r_isub iX2_notOut_7 ?_
  refine r_aload iX2_notOut_8 rfl ?_
  refine r_iconst (v := 3) iX2_notOut_9 rfl ?_
  refine r_callV iX2_notOut_10 (cX2_94 _ rfl) (c2_who h c hn b u t 3 _) (by omega) (cOv_obj _ _ _) rfl rfl rfl (Nat.le_of_ble_eq_true rfl) (Nat.le_of_ble_eq_true rfl) (Nat.le_of_ble_eq_true rfl) ?_
  rintro v h' z' ⟨rfl, rfl, rfl⟩
  refine r_iconst (v := (-1)) iX2_notOut_13 rfl ?_
  refine r_ixor iX2_notOut_14 ?_
  refine r_iand iX2_notOut_15 ?_
  refine r_iret iX2_notOut_16 rfl ?_
  exact ⟨by rw [bits_not _ n hn]; rfl, rfl, rfl⟩
def cnt (p : Nat → Bool) : Nat → Nat
  | 0 => 0
  | i + 1 => if p i = true then cnt p i + 1 else cnt p i
theorem cnt_le (p : Nat → Bool) : ∀ n, cnt p n ≤ n
  | 0 => Nat.le_refl 0
  | i + 1 => by rw [cnt]; have := cnt_le p i; split <;> omega
theorem c2_betterThan (h : Hp) (c : Nat) {n : Nat} (hn : n ≤ 4) (b u : Int32) (t : Nat → Nat → Int32) {a : Nat} {k : Nat → Int32} (hk : cOv h c (n, b, u, t) a = some (thr k)) : Fn MX2_betterThan 1 [.ref c, .ref a] (cOv h c (n, b, u, t)) (some (.int (nI (cnt (fun j => kBetter (t j) k) n)))) := by
  intro z
  refine Cal_of_R (by decide +kernel) (L := [.ref c, .ref a, .null, .null]) rfl (Nat.le_of_ble_eq_true rfl) ?_
  have loop : ∀ (j p : Nat), p + j = n → ∀ z, R MX2_betterThan 1 0 0 (fun v h' z' => v = some (.int (nI (cnt (fun j => kBetter (t j) k) n))) ∧ h' = cOv h c (n, b, u, t) ∧ z' = z) 4 [.ref c, .ref a, .int (nI (cnt (fun j => kBetter (t j) k) p)), .int (nI p)] [] (cOv h c (n, b, u, t)) z 0 0 := by
    intro j
    induction j with
    | zero =>
      intro p hp z
      refine r_iload iX2_betterThan_4 rfl ?_
      refine r_aload iX2_betterThan_5 rfl ?_
      refine r_getfield iX2_betterThan_6 (flX2_18 _ rfl) (cOv_obj _ _ _) rfl ?_
      refine r_icmp_ge iX2_betterThan_9 (fun _ => ?_) (fun g9 => absurd (nI_le (by omega) (by omega)) g9)
      refine r_iload iX2_betterThan_34 rfl ?_
      refine r_iret iX2_betterThan_35 rfl ?_
      exact ⟨by rw [show p = n by omega], rfl, rfl⟩
    | succ j ih =>
      intro p hp z
      have hp4 : p < 4 := by omega
      refine r_iload iX2_betterThan_4 rfl ?_
      refine r_aload iX2_betterThan_5 rfl ?_
      refine r_getfield iX2_betterThan_6 (flX2_18 _ rfl) (cOv_obj _ _ _) rfl ?_
      refine r_icmp_ge iX2_betterThan_9 (fun g9 => absurd g9 (nI_ge (by omega) (by omega))) (fun _ => ?_)
      refine r_aload iX2_betterThan_12 rfl ?_
      refine r_getfield iX2_betterThan_13 (flX2_11 _ rfl) (cOv_obj _ _ _) rfl ?_
      refine r_iload iX2_betterThan_16 rfl ?_
      refine r_aaload iX2_betterThan_17 rfl (cOv_arr _ _ _) (in4 hp4) (thr_ix c hp4) ?_
      refine r_aload iX2_betterThan_18 rfl ?_
      refine r_callV iX2_betterThan_19 (cX2_83 _ rfl) (c5_isBetterThan _ (t p) k (cOv_thr h c (n, b, u, t) hp4) hk _) (by omega) (cOv_thr h c (n, b, u, t) hp4) rfl rfl rfl (Nat.le_of_ble_eq_true rfl) (Nat.le_of_ble_eq_true rfl) (Nat.le_of_ble_eq_true rfl) ?_
      rintro v h' z' ⟨rfl, rfl, rfl⟩
      have ih := ih (p + 1) (by omega) z'
      simp only [cnt] at ih
      cases g : kBetter (t p) k with
      | false =>
        rw [if_neg (by simp [g])] at ih
        refine r_if_eq iX2_betterThan_22 (fun _ => ?_) (fun g9 => absurd (rfl) g9)
        refine r_iinc_3 iX2_betterThan_28 (by first | exact nI_inc _ | rfl) rfl ?_
        refine r_goto iX2_betterThan_31 ?_
        exact ih
      | true =>
        rw [if_pos g] at ih
        refine r_if_eq iX2_betterThan_22 (fun g9 => absurd g9 (by decide)) (fun _ => ?_)
        refine r_iinc_2 iX2_betterThan_25 (by first | exact nI_inc _ | rfl) rfl ?_
        refine r_iinc_3 iX2_betterThan_28 (by first | exact nI_inc _ | rfl) rfl ?_
        refine r_goto iX2_betterThan_31 ?_
        exact ih
  refine r_iconst (v := 0) iX2_betterThan_0 rfl ?_
  refine r_istore_2 iX2_betterThan_1 rfl ?_
  refine r_iconst (v := 0) iX2_betterThan_2 rfl ?_
  refine r_istore_3 iX2_betterThan_3 rfl ?_
  exact loop n 0 (by omega) z
def leadP (n : Nat) (t : Nat → Nat → Int32) (j : Nat) : Bool := decide (cnt (fun o => kBetter (t o) (t j)) n = 0)
theorem c2_leaders (h : Hp) (c : Nat) {n : Nat} (hn : n ≤ 4) (b u : Int32) (t : Nat → Nat → Int32) : Fn MX2_leaders 2 [.ref c] (cOv h c (n, b, u, t)) (some (.int (bitsI (leadP n t) n))) := by
  intro z
  refine Cal_of_R (by decide +kernel) (L := [.ref c, .null, .null]) rfl (Nat.le_of_ble_eq_true rfl) ?_
  have loop : ∀ (j p : Nat), p + j = n → ∀ z, R MX2_leaders 2 0 0 (fun v h' z' => v = some (.int (bitsI (leadP n t) n)) ∧ h' = cOv h c (n, b, u, t) ∧ z' = z) 4 [.ref c, .int (bitsI (leadP n t) p), .int (nI p)] [] (cOv h c (n, b, u, t)) z 0 0 := by
    intro j
    induction j with
    | zero =>
      intro p hp z
      refine r_iload iX2_leaders_4 rfl ?_
      refine r_aload iX2_leaders_5 rfl ?_
      refine r_getfield iX2_leaders_6 (flX2_18 _ rfl) (cOv_obj _ _ _) rfl ?_
      refine r_icmp_ge iX2_leaders_9 (fun _ => ?_) (fun g9 => absurd (nI_le (by omega) (by omega)) g9)
      refine r_iload iX2_leaders_37 rfl ?_
      refine r_iret iX2_leaders_38 rfl ?_
      exact ⟨by rw [show p = n by omega], rfl, rfl⟩
    | succ j ih =>
      intro p hp z
      have hp4 : p < 4 := by omega
      refine r_iload iX2_leaders_4 rfl ?_
      refine r_aload iX2_leaders_5 rfl ?_
      refine r_getfield iX2_leaders_6 (flX2_18 _ rfl) (cOv_obj _ _ _) rfl ?_
      refine r_icmp_ge iX2_leaders_9 (fun g9 => absurd g9 (nI_ge (by omega) (by omega))) (fun _ => ?_)
      refine r_aload iX2_leaders_12 rfl ?_
      refine r_aload iX2_leaders_13 rfl ?_
      refine r_getfield iX2_leaders_14 (flX2_11 _ rfl) (cOv_obj _ _ _) rfl ?_
      refine r_iload iX2_leaders_17 rfl ?_
      refine r_aaload iX2_leaders_18 rfl (cOv_arr _ _ _) (in4 hp4) (thr_ix c hp4) ?_
      refine r_callV iX2_leaders_19 (cX2_87 _ rfl) (c2_betterThan h c hn b u t (cOv_thr h c (n, b, u, t) hp4) _) (by omega) (cOv_obj _ _ _) rfl rfl rfl (Nat.le_of_ble_eq_true rfl) (Nat.le_of_ble_eq_true rfl) (Nat.le_of_ble_eq_true rfl) ?_
      rintro v h' z' ⟨rfl, rfl, rfl⟩
      have ih := ih (p + 1) (by omega) z'
      simp only [bitsI] at ih
      have hc := cnt_le (fun o => kBetter (t o) (t p)) n
      by_cases g : cnt (fun o => kBetter (t o) (t p)) n = 0
      · rw [if_pos (show leadP n t p = true by simp [leadP, g])] at ih
        refine r_if_ne iX2_leaders_22 (fun g9 => absurd ((by rw [g] : nI (cnt (fun o => kBetter (t o) (t p)) n) = nI 0)) g9) (fun _ => ?_)
        refine r_iload iX2_leaders_25 rfl ?_
        refine r_iconst (v := 1) iX2_leaders_26 rfl ?_
        refine r_iload iX2_leaders_27 rfl ?_
        refine r_ishl iX2_leaders_28 ?_
        refine r_ior iX2_leaders_29 ?_
        refine r_istore_1 iX2_leaders_30 rfl ?_
        refine r_iinc_2 iX2_leaders_31 (by first | exact nI_inc _ | rfl) rfl ?_
        refine r_goto iX2_leaders_34 ?_
        exact ih
      · rw [if_neg (show ¬ leadP n t p = true by simp [leadP, g])] at ih
        refine r_if_ne iX2_leaders_22 (fun _ => ?_) (fun g9 => absurd g9 (nI_ne0 (n := cnt (fun o => kBetter (t o) (t p)) n) (Nat.pos_of_ne_zero g) (by omega)))
        refine r_iinc_2 iX2_leaders_31 (by first | exact nI_inc _ | rfl) rfl ?_
        refine r_goto iX2_leaders_34 ?_
        exact ih
  refine r_iconst (v := 0) iX2_leaders_0 rfl ?_
  refine r_istore_1 iX2_leaders_1 rfl ?_
  refine r_iconst (v := 0) iX2_leaders_2 rfl ?_
  refine r_istore_2 iX2_leaders_3 rfl ?_
  exact loop n 0 (by omega) z
theorem c2_oddsOfTurn (h : Hp) (c : Nat) {n i : Nat} (hn : n ≤ 4) (hi : i < n) (b : Int32) (t : Nat → Nat → Int32) : Fn MX2_oddsOfTurn 2 [.ref c] (cOv h c (n, b, nI i, t)) (some (.int (kOdds (t i) b 0))) := by
  intro z
  refine Cal_of_R (by decide +kernel) (L := [.ref c]) rfl (Nat.le_of_ble_eq_true rfl) ?_
  refine r_aload iX2_oddsOfTurn_0 rfl ?_
  refine r_aload iX2_oddsOfTurn_1 rfl ?_
  refine r_getfield iX2_oddsOfTurn_2 (flX2_25 _ rfl) (cOv_obj _ _ _) rfl ?_
  refine r_callV iX2_oddsOfTurn_5 (cX2_55 _ rfl) (c2_knows h c hn b (nI i) t (nI i) _) (by omega) (cOv_obj _ _ _) rfl rfl rfl (Nat.le_of_ble_eq_true rfl) (Nat.le_of_ble_eq_true rfl) (Nat.le_of_ble_eq_true rfl) ?_
  rintro v h' z' ⟨rfl, rfl, rfl⟩
  rw [i_ks hn hi]
  refine r_if_eq iX2_oddsOfTurn_8 (fun g9 => absurd g9 (by decide)) (fun _ => ?_)
  refine r_aload iX2_oddsOfTurn_11 rfl ?_
  refine r_getfield iX2_oddsOfTurn_12 (flX2_11 _ rfl) (cOv_obj _ _ _) rfl ?_
  refine r_aload iX2_oddsOfTurn_15 rfl ?_
  refine r_getfield iX2_oddsOfTurn_16 (flX2_25 _ rfl) (cOv_obj _ _ _) rfl ?_
  refine r_aaload iX2_oddsOfTurn_19 rfl (cOv_arr _ _ _) (in4 (by omega)) (thr_ix c (by omega)) ?_
  refine r_aload iX2_oddsOfTurn_20 rfl ?_
  refine r_getfield iX2_oddsOfTurn_21 (flX2_22 _ rfl) (cOv_obj _ _ _) rfl ?_
  refine r_iconst (v := 0) iX2_oddsOfTurn_24 rfl ?_
  refine r_callV iX2_oddsOfTurn_25 (cX2_79 _ rfl) (c5_oddsAt _ (t i) (cOv_thr h c (n, b, nI i, t) (by omega)) b 0 _) (by omega) (cOv_thr _ _ _ (by omega)) rfl rfl rfl (Nat.le_of_ble_eq_true rfl) (Nat.le_of_ble_eq_true rfl) (Nat.le_of_ble_eq_true rfl) ?_
  rintro v h' z' ⟨rfl, rfl, rfl⟩
  refine r_goto iX2_oddsOfTurn_28 ?_
  refine r_iret iX2_oddsOfTurn_32 rfl ?_
  exact ⟨rfl, rfl, rfl⟩
end
section
/-! what changes a contest -/
def conAt (h : Hp) (c : Nat) (K : Cn) : Prop := h c = some (.inr (1, [.ref (c + 1), .int (nI K.1), .int K.2.1, .int K.2.2.1])) ∧ h (c + 1) = some (.inl (.object "UpWithSheaf$Thrower", 4, fun j => .ref (c + 2 + j))) ∧ ∀ i, i < 4 → h (c + 2 + i) = some (thr (K.2.2.2 i))
theorem conAt.ov {h : Hp} {c : Nat} {K : Cn} (H : conAt h c K) : cOv h c K = h := cOv_self H.1 H.2.1 H.2.2
theorem conAt_cOv (h : Hp) (c : Nat) (K : Cn) : conAt (cOv h c K) c K := ⟨cOv_obj h c K, cOv_arr h c K, fun _ hi => cOv_thr h c K hi⟩
theorem conAt.out {h : Hp} {c : Nat} {K : Cn} (H : conAt h c K) {c' : Nat} (K' : Cn) (hd : c + 6 ≤ c' ∨ c' + 6 ≤ c) : conAt (cOv h c' K') c K :=
  ⟨by rw [cOv_out _ _ _ (by omega)]; exact H.1, by rw [cOv_out _ _ _ (by omega)]; exact H.2.1, fun i hi => by rw [cOv_out _ _ _ (by omega)]; exact H.2.2 i hi⟩
theorem conAt.kept {h h' : Hp} {c : Nat} {K : Cn} (H : conAt h c K) (hd : ∀ a, c ≤ a → a < c + 6 → h' a = h a) : conAt h' c K :=
  ⟨by rw [hd _ (by omega) (by omega)]; exact H.1, by rw [hd _ (by omega) (by omega)]; exact H.2.1, fun i hi => by rw [hd _ (by omega) (by omega)]; exact H.2.2 i hi⟩
/-- all up to n are made anew by g -/
def mapT (g : Nat → (Nat → Int32) → (Nat → Int32)) (t : Nat → Nat → Int32) (n : Nat) : Nat → Nat → Int32 := fun j => if j < n then g j (t j) else t j
theorem mapT_0 (g : Nat → (Nat → Int32) → (Nat → Int32)) (t : Nat → Nat → Int32) : mapT g t 0 = t := by funext j; simp [mapT]
theorem mapT_s (g : Nat → (Nat → Int32) → (Nat → Int32)) (t : Nat → Nat → Int32) (p : Nat) : upT (mapT g t p) p (g p (mapT g t p p)) = mapT g t (p + 1) := by
  funext j
  by_cases h : j = p
  · subst h; simp [upT, mapT]
  · simp only [upT, mapT, if_neg h]
    by_cases h2 : j < p
    · rw [if_pos h2, if_pos (by omega)]
    · rw [if_neg h2, if_neg (by omega)]
theorem nxt_n (n : Nat) (t : Nat → Nat → Int32) : ∀ j, nxt n t n j = nxt n t 0 j
  | 0 => rfl
  | j + 1 => by rw [nxt, nxt, nxt_n n t j, Nat.add_mod_left, Nat.zero_add]
theorem c2_copyFrom (h : Hp) (c c' : Nat) (hc : 2 ≤ c) (K : Cn) {n : Nat} (hn : n ≤ 4) (b u : Int32) (t : Nat → Nat → Int32) (hd : c + 6 ≤ c' ∨ c' + 6 ≤ c) (H : conAt h c' (n, b, u, t)) : Pr MX2_copyFrom 1 [.ref c, .ref c'] (cOv h c K) none (cOv h c (n, b, u, mapT (fun j _ => t j) K.2.2.2 n)) := by
  obtain ⟨n0, b0, u0, t0⟩ := K
  intro z
  have HH : ∀ K', conAt (cOv h c K') c' (n, b, u, t) := fun K' => H.out K' (by omega)
  refine Cal_of_R (by decide +kernel) (L := [.ref c, .ref c', .null]) rfl (Nat.le_of_ble_eq_true rfl) ?_
  have loop : ∀ (j p : Nat), p + j = n → ∀ z, R MX2_copyFrom 1 0 0 (fun v h' z' => v = none ∧ h' = cOv h c (n, b, u, mapT (fun j _ => t j) t0 n) ∧ z' = z) 26 [.ref c, .ref c', .int (nI p)] [] (cOv h c (n, b, u, mapT (fun j _ => t j) t0 p)) z 0 0 := by
    intro j
    induction j with
    | zero =>
      intro p hp z
      refine r_iload iX2_copyFrom_26 rfl ?_
      refine r_aload iX2_copyFrom_27 rfl ?_
      refine r_getfield iX2_copyFrom_28 (flX2_18 _ rfl) (cOv_obj _ _ _) rfl ?_
      refine r_icmp_ge iX2_copyFrom_31 (fun _ => ?_) (fun g9 => absurd (nI_le (by omega) (by omega)) g9)
      refine r_vret iX2_copyFrom_55 rfl ?_
      exact ⟨rfl, by rw [show p = n by omega], rfl⟩
    | succ j ih =>
      intro p hp z
      have hp4 : p < 4 := by omega
      refine r_iload iX2_copyFrom_26 rfl ?_
      refine r_aload iX2_copyFrom_27 rfl ?_
      refine r_getfield iX2_copyFrom_28 (flX2_18 _ rfl) (cOv_obj _ _ _) rfl ?_
      refine r_icmp_ge iX2_copyFrom_31 (fun g9 => absurd g9 (nI_ge (by omega) (by omega))) (fun _ => ?_)
      refine r_aload iX2_copyFrom_34 rfl ?_
      refine r_getfield iX2_copyFrom_35 (flX2_11 _ rfl) (cOv_obj _ _ _) rfl ?_
      refine r_iload iX2_copyFrom_38 rfl ?_
      refine r_aaload iX2_copyFrom_39 rfl (cOv_arr _ _ _) (in4 hp4) (thr_ix c hp4) ?_
      refine r_aload iX2_copyFrom_40 rfl ?_
      refine r_getfield iX2_copyFrom_41 (flX2_11 _ rfl) ((HH _).1) rfl ?_
      refine r_iload iX2_copyFrom_44 rfl ?_
      refine r_aaload iX2_copyFrom_45 rfl ((HH _).2.1) (in4 hp4) (thr_ix c' hp4) ?_
      refine r_callV iX2_copyFrom_46 (cX2_51 _ rfl) (Pr_at (cOv_thr _ _ _ hp4) (c5_copyFrom _ _ (t p) (by omega) ((HH _).2.2 p hp4) (by omega)) _) (by omega) (cOv_thr _ _ _ hp4) rfl rfl rfl (Nat.le_of_ble_eq_true rfl) (Nat.le_of_ble_eq_true rfl) (Nat.le_of_ble_eq_true rfl) ?_
      rintro v h' z' ⟨rfl, rfl, rfl⟩
      rw [cOv_setT _ _ _ _ _ _ hp4]
      have e := mapT_s (fun j _ => t j) t0 p
      try dsimp only at e
      rw [e]
      refine r_iinc_2 iX2_copyFrom_49 (by first | exact nI_inc _ | rfl) rfl ?_
      refine r_goto iX2_copyFrom_52 ?_
      exact ih (p + 1) (by omega) z'
  refine r_aload iX2_copyFrom_0 rfl ?_
  refine r_aload iX2_copyFrom_1 rfl ?_
  refine r_getfield iX2_copyFrom_2 (flX2_18 _ rfl) ((HH _).1) rfl ?_
  refine r_csize iX2_copyFrom_5 (fpX2_18 _ rfl) hc ?_
  refine r_aload iX2_copyFrom_8 rfl ?_
  refine r_aload iX2_copyFrom_9 rfl ?_
  refine r_getfield iX2_copyFrom_10 (flX2_22 _ rfl) ((HH _).1) rfl ?_
  refine r_cbar iX2_copyFrom_13 (fpX2_22 _ rfl) hc ?_
  refine r_aload iX2_copyFrom_16 rfl ?_
  refine r_aload iX2_copyFrom_17 rfl ?_
  refine r_getfield iX2_copyFrom_18 (flX2_25 _ rfl) ((HH _).1) rfl ?_
  refine r_cturn iX2_copyFrom_21 (fpX2_25 _ rfl) hc ?_
  refine r_iconst (v := 0) iX2_copyFrom_24 rfl ?_
  refine r_istore_2 iX2_copyFrom_25 rfl ?_
  have e := loop n 0 (by omega) z
  rw [mapT_0] at e
  exact e
def upAll (t : Nat → Nat → Int32) (n : Nat) : Nat → Nat → Int32 := mapT (fun _ k => kUp k) t n
theorem c2_raise (h : Hp) (c : Nat) (hc : 2 ≤ c) {n : Nat} (hn : n ≤ 4) (b u : Int32) (t : Nat → Nat → Int32) : Pr MX2_raise 2 [.ref c] (cOv h c (n, b, u, t)) none (cOv h c (n, b + 1, nxt n (upAll t n) 0 n, upAll t n)) := by
  intro z
  refine Cal_of_R (by decide +kernel) (L := [.ref c, .null]) rfl (Nat.le_of_ble_eq_true rfl) ?_
  have loop : ∀ (j p : Nat), p + j = n → ∀ z, R MX2_raise 2 0 0 (fun v h' z' => v = none ∧ h' = cOv h c (n, b + 1, nxt n (upAll t n) 0 n, upAll t n) ∧ z' = z) 12 [.ref c, .int (nI p)] [] (cOv h c (n, b + 1, u, upAll t p)) z 0 0 := by
    intro j
    induction j with
    | zero =>
      intro p hp z
      obtain rfl : p = n := by omega
      refine r_iload iX2_raise_12 rfl ?_
      refine r_aload iX2_raise_13 rfl ?_
      refine r_getfield iX2_raise_14 (flX2_18 _ rfl) (cOv_obj _ _ _) rfl ?_
      refine r_icmp_ge iX2_raise_17 (fun _ => ?_) (fun g9 => absurd (nI_le (by omega) (by omega)) g9)
      refine r_aload iX2_raise_35 rfl ?_
      refine r_aload iX2_raise_36 rfl ?_
      refine r_aload iX2_raise_37 rfl ?_
      refine r_getfield iX2_raise_38 (flX2_18 _ rfl) (cOv_obj _ _ _) rfl ?_
      refine r_iconst (v := 1) iX2_raise_41 rfl ?_
      refine r_isub iX2_raise_42 ?_
      refine r_callV iX2_raise_43 (cX2_48 _ rfl) (c2_nextBehind h c hn _ _ (upAll t p) _ (f := p) (by simp) (Nat.le_refl _) _) (by omega) (cOv_obj _ _ _) rfl rfl rfl (Nat.le_of_ble_eq_true rfl) (Nat.le_of_ble_eq_true rfl) (Nat.le_of_ble_eq_true rfl) ?_
      rintro v h' z' ⟨rfl, rfl, rfl⟩
      refine r_cturn iX2_raise_46 (fpX2_25 _ rfl) hc ?_
      refine r_vret iX2_raise_49 rfl ?_
      exact ⟨rfl, by rw [nxt_n], rfl⟩
    | succ j ih =>
      intro p hp z
      have hp4 : p < 4 := by omega
      refine r_iload iX2_raise_12 rfl ?_
      refine r_aload iX2_raise_13 rfl ?_
      refine r_getfield iX2_raise_14 (flX2_18 _ rfl) (cOv_obj _ _ _) rfl ?_
      refine r_icmp_ge iX2_raise_17 (fun g9 => absurd g9 (nI_ge (by omega) (by omega))) (fun _ => ?_)
      refine r_aload iX2_raise_20 rfl ?_
      refine r_getfield iX2_raise_21 (flX2_11 _ rfl) (cOv_obj _ _ _) rfl ?_
      refine r_iload iX2_raise_24 rfl ?_
      refine r_aaload iX2_raise_25 rfl (cOv_arr _ _ _) (in4 hp4) (thr_ix c hp4) ?_
      refine r_callV iX2_raise_26 (cX2_72 _ rfl) (Pr_at (cOv_thr _ _ _ hp4) (c5_up _ _ (by omega)) _) (by omega) (cOv_thr _ _ _ hp4) rfl rfl rfl (Nat.le_of_ble_eq_true rfl) (Nat.le_of_ble_eq_true rfl) (Nat.le_of_ble_eq_true rfl) ?_
      rintro v h' z' ⟨rfl, rfl, rfl⟩
      rw [cOv_setT _ _ _ _ _ _ hp4]
      have e : upT (upAll t p) p (kUp (upAll t p p)) = upAll t (p + 1) := mapT_s (fun _ k => kUp k) t p
      dsimp only
      rw [e]
      refine r_iinc_1 iX2_raise_29 (by first | exact nI_inc _ | rfl) rfl ?_
      refine r_goto iX2_raise_32 ?_
      exact ih (p + 1) (by omega) z'
  refine r_aload iX2_raise_0 rfl ?_
  refine r_dup iX2_raise_1 rfl ?_
  refine r_getfield iX2_raise_2 (flX2_22 _ rfl) (cOv_obj _ _ _) rfl ?_
  refine r_iconst (v := 1) iX2_raise_5 rfl ?_
  refine r_iadd iX2_raise_6 ?_
  refine r_cbar iX2_raise_7 (fpX2_22 _ rfl) hc ?_
  refine r_iconst (v := 0) iX2_raise_10 rfl ?_
  refine r_istore_1 iX2_raise_11 rfl ?_
  have e := loop n 0 (by omega) z
  unfold upAll at e
  rw [mapT_0] at e
  exact e
/-- an act of who is on: 0 a miss, 1 over, 2 spared -/
def kAct (k : Nat → Int32) (b : Int32) (w : Nat) : Nat → Int32 := if w = 2 then kRest k else if w = 1 then kOver k b else kMiss k
/-- the contest behind i's turn -/
def goOnC (n : Nat) (b : Int32) (i : Nat) (t : Nat → Nat → Int32) : Cn := if nxt n t (i + 1) n = -9 ∧ b < 11 ∧ anyT (notOutP t) n = true then (n, b + 1, nxt n (upAll t n) 0 n, upAll t n) else (n, b, nxt n t (i + 1) n, t)
def actC (n : Nat) (b : Int32) (i : Nat) (t : Nat → Nat → Int32) (w : Nat) : Cn := goOnC n b i (upT t i (kAct (t i) b w))
theorem c2_act (h : Hp) (c : Nat) (hc : 2 ≤ c) {n i w : Nat} (hn : n ≤ 4) (hi : i < n) (hw : w < 3) (b : Int32) (t : Nat → Nat → Int32) : Pr MX2_act 3 [.ref c, .int (nI w)] (cOv h c (n, b, nI i, t)) none (cOv h c (actC n b i t w)) := by
  intro z
  have hi4 : i < 4 := by omega
  refine Cal_of_R (by decide +kernel) (L := [.ref c, .int (nI w), .null]) rfl (Nat.le_of_ble_eq_true rfl) ?_
  have tail : ∀ (t' : Nat → Nat → Int32) (w2 : Value) (z : Nat), t' = upT t i (kAct (t i) b w) → R MX2_act 3 0 0 (fun v h' z' => v = none ∧ h' = cOv h c (actC n b i t w) ∧ z' = z) 52 [.ref c, .int (nI w), w2] [] (cOv h c (n, b, nI i, t')) z 0 0 := by
    intro t' w2 z ht
    have hA : actC n b i t w = goOnC n b i t' := by rw [actC, ht]
    rw [hA]
    refine r_aload iX2_act_52 rfl ?_
    refine r_aload iX2_act_53 rfl ?_
    refine r_aload iX2_act_54 rfl ?_
    refine r_getfield iX2_act_55 (flX2_25 _ rfl) (cOv_obj _ _ _) rfl ?_
    refine r_callV iX2_act_58 (cX2_48 _ rfl) (c2_nextBehind h c hn _ _ t' _ (f := i + 1) (nI_succ i).symm (by omega) _) (by omega) (cOv_obj _ _ _) rfl rfl rfl (Nat.le_of_ble_eq_true rfl) (Nat.le_of_ble_eq_true rfl) (Nat.le_of_ble_eq_true rfl) ?_
    rintro v h' z' ⟨rfl, rfl, rfl⟩
    refine r_cturn iX2_act_61 (fpX2_25 _ rfl) hc ?_
    refine r_aload iX2_act_64 rfl ?_
    refine r_getfield iX2_act_65 (flX2_25 _ rfl) (cOv_obj _ _ _) rfl ?_
    refine r_bipush (v := (-9)) iX2_act_68 rfl ?_
    refine r_icmp_ne iX2_act_70 (fun g1 => ?_) (fun g1 => ?_)
    · refine r_vret iX2_act_93 rfl ?_
      exact ⟨rfl, by rw [goOnC, if_neg (fun q => g1 q.1)], rfl⟩
    · refine r_aload iX2_act_73 rfl ?_
      refine r_getfield iX2_act_74 (flX2_22 _ rfl) (cOv_obj _ _ _) rfl ?_
      refine r_bipush (v := 11) iX2_act_77 rfl ?_
      refine r_icmp_ge iX2_act_79 (fun g2 => ?_) (fun g2 => ?_)
      · refine r_vret iX2_act_93 rfl ?_
        exact ⟨rfl, by rw [goOnC, if_neg (fun q => Int32.not_lt.mpr g2 q.2.1)], rfl⟩
      · refine r_aload iX2_act_82 rfl ?_
        refine r_callV iX2_act_83 (cX2_66 _ rfl) (c2_notOut h c hn _ _ t' _) (by omega) (cOv_obj _ _ _) rfl rfl rfl (Nat.le_of_ble_eq_true rfl) (Nat.le_of_ble_eq_true rfl) (Nat.le_of_ble_eq_true rfl) ?_
        rintro v h' z' ⟨rfl, rfl, rfl⟩
        refine r_if_eq iX2_act_86 (fun g3 => ?_) (fun g3 => ?_)
        · refine r_vret iX2_act_93 rfl ?_
          exact ⟨rfl, by rw [goOnC, if_neg (fun q => by rw [(bits_any _ n hn).mp g3] at q; exact absurd q.2.2 (by decide))], rfl⟩
        · have g4 : anyT (notOutP t') n = true := by
            cases g5 : anyT (notOutP t') n with
            | false => exact absurd ((bits_any _ n hn).mpr g5) g3
            | true => rfl
          refine r_aload iX2_act_89 rfl ?_
          refine r_callV iX2_act_90 (cX2_69 _ rfl) (c2_raise h c hc hn b _ t' _) (by omega) (cOv_obj _ _ _) rfl rfl rfl (Nat.le_of_ble_eq_true rfl) (Nat.le_of_ble_eq_true rfl) (Nat.le_of_ble_eq_true rfl) ?_
          rintro v h' z' ⟨rfl, rfl, rfl⟩
          refine r_vret iX2_act_93 rfl ?_
          exact ⟨rfl, by rw [goOnC, if_pos ⟨g1, Int32.not_le.mp g2, g4⟩], rfl⟩
  refine r_aload iX2_act_0 rfl ?_
  refine r_aload iX2_act_1 rfl ?_
  refine r_getfield iX2_act_2 (flX2_25 _ rfl) (cOv_obj _ _ _) rfl ?_
  refine r_callV iX2_act_5 (cX2_55 _ rfl) (c2_knows h c hn b (nI i) t (nI i) _) (by omega) (cOv_obj _ _ _) rfl rfl rfl (Nat.le_of_ble_eq_true rfl) (Nat.le_of_ble_eq_true rfl) (Nat.le_of_ble_eq_true rfl) ?_
  rintro v h' z' ⟨rfl, rfl, rfl⟩
  rw [i_ks hn hi]
  refine r_if_ne iX2_act_8 (fun _ => ?_) (fun g9 => absurd g9 (by decide))
  refine r_aload iX2_act_12 rfl ?_
  refine r_getfield iX2_act_13 (flX2_11 _ rfl) (cOv_obj _ _ _) rfl ?_
  refine r_aload iX2_act_16 rfl ?_
  refine r_getfield iX2_act_17 (flX2_25 _ rfl) (cOv_obj _ _ _) rfl ?_
  refine r_aaload iX2_act_20 rfl (cOv_arr _ _ _) (in4 hi4) (thr_ix c hi4) ?_
  refine r_astore_2 iX2_act_21 rfl ?_
  refine r_iload iX2_act_22 rfl ?_
  refine r_iconst (v := 2) iX2_act_23 rfl ?_
  match w, hw with
  | 0, _ =>
    refine r_icmp_ne iX2_act_24 (fun _ => ?_) (fun g9 => absurd g9 (by decide))
    refine r_aload iX2_act_34 rfl ?_
    refine r_iload iX2_act_35 rfl ?_
    refine r_iconst (v := 1) iX2_act_36 rfl ?_
    refine r_icmp_ne iX2_act_37 (fun _ => ?_) (fun g9 => absurd g9 (by decide))
    refine r_iconst (v := 0) iX2_act_44 rfl ?_
    refine r_aload iX2_act_45 rfl ?_
    refine r_getfield iX2_act_46 (flX2_22 _ rfl) (cOv_obj _ _ _) rfl ?_
    refine r_callV iX2_act_49 (cX2_62 _ rfl) (Pr_at (cOv_thr _ _ _ hi4) (c5_miss _ _ (by omega) _) _) (by omega) (cOv_thr _ _ _ hi4) rfl rfl rfl (Nat.le_of_ble_eq_true rfl) (Nat.le_of_ble_eq_true rfl) (Nat.le_of_ble_eq_true rfl) ?_
    rintro v h' z' ⟨rfl, rfl, rfl⟩
    rw [cOv_setT _ _ _ _ _ _ hi4]
    exact tail _ _ _ rfl
  | 1, _ =>
    refine r_icmp_ne iX2_act_24 (fun _ => ?_) (fun g9 => absurd g9 (by decide))
    refine r_aload iX2_act_34 rfl ?_
    refine r_iload iX2_act_35 rfl ?_
    refine r_iconst (v := 1) iX2_act_36 rfl ?_
    refine r_icmp_ne iX2_act_37 (fun g9 => absurd (rfl) g9) (fun _ => ?_)
    refine r_iconst (v := 1) iX2_act_40 rfl ?_
    refine r_goto iX2_act_41 ?_
    refine r_aload iX2_act_45 rfl ?_
    refine r_getfield iX2_act_46 (flX2_22 _ rfl) (cOv_obj _ _ _) rfl ?_
    refine r_callV iX2_act_49 (cX2_62 _ rfl) (Pr_at (cOv_thr _ _ _ hi4) (c5_over _ _ (by omega) 1 _ (by decide)) _) (by omega) (cOv_thr _ _ _ hi4) rfl rfl rfl (Nat.le_of_ble_eq_true rfl) (Nat.le_of_ble_eq_true rfl) (Nat.le_of_ble_eq_true rfl) ?_
    rintro v h' z' ⟨rfl, rfl, rfl⟩
    rw [cOv_setT _ _ _ _ _ _ hi4]
    exact tail _ _ _ rfl
  | 2, _ =>
    refine r_icmp_ne iX2_act_24 (fun g9 => absurd (rfl) g9) (fun _ => ?_)
    refine r_aload iX2_act_27 rfl ?_
    refine r_callV iX2_act_28 (cX2_59 _ rfl) (Pr_at (cOv_thr _ _ _ hi4) (c5_rest _ _ (by omega)) _) (by omega) (cOv_thr _ _ _ hi4) rfl rfl rfl (Nat.le_of_ble_eq_true rfl) (Nat.le_of_ble_eq_true rfl) (Nat.le_of_ble_eq_true rfl) ?_
    rintro v h' z' ⟨rfl, rfl, rfl⟩
    rw [cOv_setT _ _ _ _ _ _ hi4]
    refine r_goto iX2_act_31 ?_
    exact tail _ _ _ rfl
end
section
/-! the text: how long, its bytes; the class's Text, two cells from x on -/
abbrev Tx : Type := Nat × (Nat → Int32)
def tOv (h : Hp) (x : Nat) (T : Tx) : Hp := fun a => if a = x then some (.inr (3, [.ref (x + 1), .int (nI T.1)])) else if a = x + 1 then some (.inl (.int, 16, fun j => .int (T.2 j))) else h a
theorem tOv_obj (h : Hp) (x : Nat) (T : Tx) : tOv h x T x = some (.inr (3, [.ref (x + 1), .int (nI T.1)])) := if_pos rfl
theorem tOv_arr (h : Hp) (x : Nat) (T : Tx) : tOv h x T (x + 1) = some (.inl (.int, 16, fun j => .int (T.2 j))) := by
  unfold tOv
  rw [if_neg (by omega), if_pos rfl]
theorem tOv_out (h : Hp) (x : Nat) (T : Tx) {a : Nat} (ha : a < x ∨ x + 2 ≤ a) : tOv h x T a = h a := by
  unfold tOv
  rw [if_neg (by omega), if_neg (by omega)]
theorem tOv_len (h : Hp) (x l l' : Nat) (B : Nat → Int32) : hset (tOv h x (l, B)) x (.inr (3, [.ref (x + 1), .int (nI l')])) = tOv h x (l', B) := by
  funext a
  by_cases ha : a = x
  · subst ha; rw [hset_eq, tOv_obj]
  · rw [hset_ne _ _ ha]; unfold tOv; rw [if_neg ha, if_neg ha]
theorem updV_int (f : Nat → Int32) (k : Nat) (x : Int32) : updV (fun j => .int (f j)) k (.int x) = fun j => .int (upd f k x j) := by
  funext j
  unfold updV upd
  by_cases h : j = k
  · rw [if_pos h, if_pos h]
  · rw [if_neg h, if_neg h]
theorem updV_long (f : Nat → Int64) (k : Nat) (x : Int64) : updV (fun j => .long (f j)) k (.long x) = fun j => .long (vp_updL f k x j) := by
  funext j
  unfold updV vp_updL
  by_cases h : j = k
  · rw [if_pos h, if_pos h]
  · rw [if_neg h, if_neg h]
theorem tOv_byte (h : Hp) (x l : Nat) (B : Nat → Int32) {k : Nat} {v : Int32} {i : Int32} (hk : i.toNatClampNeg = k) : hset (tOv h x (l, B)) (x + 1) (.inl (.int, 16, updV (fun j => .int (B j)) i.toNatClampNeg (.int v))) = tOv h x (l, upd B k v) := by
  rw [updV_int, hk]
  funext a
  by_cases ha : a = x + 1
  · subst ha; rw [hset_eq, tOv_arr]
  · rw [hset_ne _ _ ha]; unfold tOv; rw [if_neg ha, if_neg ha]
def tAt (h : Hp) (x : Nat) (T : Tx) : Prop := h x = some (.inr (3, [.ref (x + 1), .int (nI T.1)])) ∧ h (x + 1) = some (.inl (.int, 16, fun j => .int (T.2 j)))
theorem tAt.ov {h : Hp} {x : Nat} {T : Tx} (H : tAt h x T) : tOv h x T = h := by
  funext a
  unfold tOv
  by_cases g : a = x
  · rw [if_pos g, g, H.1]
  · rw [if_neg g]
    by_cases g2 : a = x + 1
    · rw [if_pos g2, g2, H.2]
    · rw [if_neg g2]
theorem tAt_ov (h : Hp) (x : Nat) (T : Tx) : tAt (tOv h x T) x T := ⟨tOv_obj h x T, tOv_arr h x T⟩
theorem r_tlength {M : MD} {d mc ms pc pc' z k m : Nat} {Q : Option Value → Hp → Nat → Prop} {L S : List Value} {h : Hp} {idx x l l' : Nat} {B : Nat → Int32} (hi : Ins M pc (.putfield idx) 3 pc') (hl : FP M idx 3 1 .int) (hx : 2 ≤ x) (K : R M d mc ms Q pc' L S (tOv h x (l', B)) z k m) : R M d mc ms Q pc L (.int (nI l') :: .ref x :: S) (tOv h x (l, B)) z k m :=
  r_putfield hi hl hx (tOv_obj _ _ _) (Nat.le_of_ble_eq_true rfl) ⟨rfl, rfl⟩ (by have e := tOv_len h x l l' B; exact e ▸ K)
/-- the k-th byte of v from behind -/
def byt (v : Int64) (k : Nat) : Int32 := ((v.toUInt64 >>> ((nI (8 * k)).toInt64.toUInt64 &&& Int64.toUInt64 63)).toInt64).toInt32 &&& 255
def app (v : Int64) : Nat → Tx → Tx
  | 0, T => T
  | k + 1, T => app v k (T.1 + 1, upd T.2 T.1 (byt v k))
theorem c4_append (h : Hp) (x : Nat) (hx : 2 ≤ x) (l : Nat) (B : Nat → Int32) (n : Nat) (hn : n ≤ 8) (hl : l + n ≤ 16) (v : Int64) : Pr MX4_append 0 [.ref x, .int (nI n), .long v] (tOv h x (l, B)) none (tOv h x (app v n (l, B))) := by
  intro z
  refine Cal_of_R (by decide +kernel) (L := [.ref x, .int (nI n), .long v, .null, .null]) rfl (Nat.le_of_ble_eq_true rfl) ?_
  have loop : ∀ (j l : Nat) (B : Nat → Int32) (w : Int32), j ≤ 8 → l + j ≤ 16 → w = nI j - 1 → R MX4_append 0 0 0 (fun v' h' z' => v' = none ∧ h' = tOv h x (app v j (l, B)) ∧ z' = z) 5 [.ref x, .int (nI n), .long v, .null, .int w] [] (tOv h x (l, B)) z 0 0 := by
    intro j
    induction j with
    | zero =>
      intro l B w hj hl hw
      have h0 : w < 0 := by rw [hw]; decide
      refine r_iload iX4_append_5 rfl ?_
      refine r_if_lt iX4_append_7 (fun _ => ?_) (fun g9 => absurd (h0) g9)
      refine r_vret iX4_append_64 rfl ?_
      exact ⟨rfl, rfl, rfl⟩
    | succ j ih =>
      intro l B w hj hl hw
      have hw2 : w = nI j := by rw [hw, nI_pred]
      subst hw2
      refine r_iload iX4_append_5 rfl ?_
      refine r_if_lt iX4_append_7 (fun g9 => absurd g9 (nI_pos (by omega))) (fun _ => ?_)
      refine r_aload iX4_append_10 rfl ?_
      refine r_getfield iX4_append_11 (flX4_15 _ rfl) (tOv_obj _ _ _) rfl ?_
      refine r_if_lt iX4_append_14 (fun g9 => absurd g9 (nI_pos (by omega))) (fun _ => ?_)
      refine r_aload iX4_append_17 rfl ?_
      refine r_getfield iX4_append_18 (flX4_15 _ rfl) (tOv_obj _ _ _) rfl ?_
      refine r_bipush (v := 16) iX4_append_21 rfl ?_
      refine r_icmp_lt iX4_append_23 (fun _ => ?_) (fun g9 => absurd (nI_lt (b := 16) (by omega) (by omega)) g9)
      refine r_aload iX4_append_27 rfl ?_
      refine r_getfield iX4_append_28 (flX4_9 _ rfl) (tOv_obj _ _ _) rfl ?_
      refine r_aload iX4_append_31 rfl ?_
      refine r_getfield iX4_append_32 (flX4_15 _ rfl) (tOv_obj _ _ _) rfl ?_
      refine r_lload iX4_append_35 rfl ?_
      refine r_bipush (v := 8) iX4_append_36 rfl ?_
      refine r_iload iX4_append_38 rfl ?_
      refine r_imul iX4_append_40 ?_
      refine r_lushr iX4_append_41 ?_
      refine r_l2i iX4_append_42 ?_
      refine r_sipush (v := 255) iX4_append_43 rfl ?_
      have e8 : (8 : Int32) * nI j = nI (8 * j) := pk_mul 8 j
      rw [e8]
      refine r_iand iX4_append_46 ?_
      refine r_iastore iX4_append_47 (by omega) (tOv_arr _ _ _) (vp_in_nI (by omega) (by decide)) ?_
      rw [show nI (l, B).fst = nI l from rfl, tOv_byte (k := l) h x l B (nI_clamp (by omega))]
      refine r_aload iX4_append_48 rfl ?_
      refine r_dup iX4_append_49 rfl ?_
      refine r_getfield iX4_append_50 (flX4_15 _ rfl) (tOv_obj _ _ _) rfl ?_
      refine r_iconst (v := 1) iX4_append_53 rfl ?_
      refine r_iadd iX4_append_54 ?_
      have e1 : nI l + 1 = nI (l + 1) := nI_1 l
      rw [e1]
      refine r_tlength iX4_append_55 (fpX4_15 _ rfl) hx ?_
      refine r_iinc_4 iX4_append_58 rfl rfl ?_
      refine r_goto iX4_append_61 ?_
      exact ih (l + 1) _ _ (by omega) (by omega) (Int32.sub_eq_add_neg (nI j) 1).symm
  refine r_iload iX4_append_0 rfl ?_
  refine r_iconst (v := 1) iX4_append_1 rfl ?_
  refine r_isub iX4_append_2 ?_
  refine r_istore_4 iX4_append_3 rfl ?_
  exact loop n l B _ hn hl rfl
theorem nI_at {B : Nat → Int32} {p : Nat} (hp : p < 2 ^ 31) : (fun j => Value.int (B j)) (nI p).toNatClampNeg = .int (B p) := by
  show Value.int (B (nI p).toNatClampNeg) = _
  rw [nI_clamp hp]
def rng (lo s : Int32) : Bool := !decide (s < lo) && !decide (57 < s)
def stand (p : Nat) (s : Int32) : Bool := if p = 0 then decide (s = 85) else if p = 1 then rng 48 s else if p < 14 then (if (p - 2) % 3 = 0 then decide (s = 84) else rng (if (p - 2) % 3 = 1 then 48 else 49) s) else false
theorem b2i_t {b : Bool} (h : b = true) : b2i b = 1 := by rw [h]; rfl
theorem b2i_f {b : Bool} (h : b = false) : b2i b = 0 := by rw [h]; rfl
theorem c4_canStand (h : Hp) (p : Nat) (hp : p < 16) (s : Int32) : Fn MX4_canStand 0 [.int (nI p), .int s] h (some (.int (b2i (stand p s)))) := by
  intro z
  refine Cal_of_R (by decide +kernel) (L := [.int (nI p), .int s, .null]) rfl (Nat.le_of_ble_eq_true rfl) ?_
  refine r_iload iX4_canStand_0 rfl ?_
  refine r_if_ne iX4_canStand_1 (fun g0 => ?_) (fun g0 => ?_)
  · have hp0 : ¬ p = 0 := fun q => g0 (by rw [q]; rfl)
    refine r_iload iX4_canStand_16 rfl ?_
    refine r_iconst (v := 1) iX4_canStand_17 rfl ?_
    refine r_icmp_ne iX4_canStand_18 (fun g1 => ?_) (fun g1 => ?_)
    · have hp1 : ¬ p = 1 := fun q => g1 (by rw [q]; rfl)
      refine r_iload iX4_canStand_39 rfl ?_
      refine r_bipush (v := 14) iX4_canStand_40 rfl ?_
      refine r_icmp_lt iX4_canStand_42 (fun g2 => ?_) (fun g2 => ?_)
      · have hp2 : p < 14 := (nI_ltI (b := 14) (by omega) (by omega)).mp g2
        have e1 : nI p - 2 = nI (p - 2) := pk_sub (a := p) (b := 2) (by omega)
        have e2 : nI (p - 2) - nI (p - 2) / 3 * 3 = nI ((p - 2) % 3) := pk_rem (d := 3) (by omega) (by omega) (by omega)
        have tail : ∀ (lo w : Int32), (p - 2) % 3 ≠ 0 → lo = (if (p - 2) % 3 = 1 then 48 else 49) → R MX4_canStand 0 0 0 (fun v h' z' => v = some (.int (b2i (stand p s))) ∧ h' = h ∧ z' = z) 82 [.int (nI p), .int s, .int w] [.int lo, .int s] h z 0 0 := by
          intro lo w h3 hlo
          have e : stand p s = rng lo s := by rw [stand, if_neg hp0, if_neg hp1, if_pos hp2, if_neg h3, ← hlo]
          rw [e]
          refine r_icmp_lt iX4_canStand_82 (fun g5 => ?_) (fun g5 => ?_)
          · refine r_iconst (v := 0) iX4_canStand_95 rfl ?_
            refine r_zret iX4_canStand_96 rfl (Or.inl rfl) ?_
            exact ⟨by rw [b2i_f (by simp [rng, g5])], rfl, rfl⟩
          · refine r_iload iX4_canStand_85 rfl ?_
            refine r_bipush (v := 57) iX4_canStand_86 rfl ?_
            refine r_icmp_gt iX4_canStand_88 (fun g6 => ?_) (fun g6 => ?_)
            · refine r_iconst (v := 0) iX4_canStand_95 rfl ?_
              refine r_zret iX4_canStand_96 rfl (Or.inl rfl) ?_
              exact ⟨by rw [b2i_f (by simp [rng, g6])], rfl, rfl⟩
            · refine r_iconst (v := 1) iX4_canStand_91 rfl ?_
              refine r_goto iX4_canStand_92 ?_
              refine r_zret iX4_canStand_96 rfl (Or.inr rfl) ?_
              exact ⟨by rw [b2i_t (by simp [rng, g5, g6])], rfl, rfl⟩
        refine r_iload iX4_canStand_47 rfl ?_
        refine r_iconst (v := 2) iX4_canStand_48 rfl ?_
        refine r_isub iX4_canStand_49 ?_
        rw [e1]
        refine r_iconst (v := 3) iX4_canStand_50 rfl ?_
        refine r_irem iX4_canStand_51 (by decide) ?_
        rw [e2]
        refine r_istore_2 iX4_canStand_52 rfl ?_
        refine r_iload iX4_canStand_53 rfl ?_
        refine r_if_ne iX4_canStand_54 (fun g3 => ?_) (fun g3 => ?_)
        · have h3 : (p - 2) % 3 ≠ 0 := fun q => g3 (by rw [q]; rfl)
          refine r_iload iX4_canStand_69 rfl ?_
          refine r_iload iX4_canStand_70 rfl ?_
          refine r_iconst (v := 1) iX4_canStand_71 rfl ?_
          refine r_icmp_ne iX4_canStand_72 (fun g4 => ?_) (fun g4 => ?_)
          · refine r_bipush (v := 49) iX4_canStand_80 rfl ?_
            exact tail 49 _ h3 (by rw [if_neg (fun q => g4 (by rw [q]; rfl))])
          · have h4 : (p - 2) % 3 = 1 := (nI_eq (b := 1) (by omega) (by omega)).mp g4
            refine r_bipush (v := 48) iX4_canStand_75 rfl ?_
            refine r_goto iX4_canStand_77 ?_
            exact tail 48 _ h3 (by rw [if_pos h4])
        · have h3 : (p - 2) % 3 = 0 := (nI_eq (b := 0) (by omega) (by omega)).mp g3
          have e : stand p s = decide (s = 84) := by rw [stand, if_neg hp0, if_neg hp1, if_pos hp2, if_pos h3]
          rw [e]
          refine r_iload iX4_canStand_57 rfl ?_
          refine r_bipush (v := 84) iX4_canStand_58 rfl ?_
          refine r_icmp_ne iX4_canStand_60 (fun g5 => ?_) (fun g5 => ?_)
          · refine r_iconst (v := 0) iX4_canStand_67 rfl ?_
            refine r_zret iX4_canStand_68 rfl (Or.inl rfl) ?_
            exact ⟨by rw [b2i_f (by simpa using g5)], rfl, rfl⟩
          · refine r_iconst (v := 1) iX4_canStand_63 rfl ?_
            refine r_goto iX4_canStand_64 ?_
            refine r_zret iX4_canStand_68 rfl (Or.inr rfl) ?_
            exact ⟨by rw [b2i_t (by simpa using g5)], rfl, rfl⟩
      · have hp2 : ¬ p < 14 := fun q => g2 (nI_lt (b := 14) q (by omega))
        refine r_iconst (v := 0) iX4_canStand_45 rfl ?_
        refine r_zret iX4_canStand_46 rfl (Or.inl rfl) ?_
        exact ⟨by rw [b2i_f (by rw [stand, if_neg hp0, if_neg hp1, if_neg hp2])], rfl, rfl⟩
    · have hp1 : p = 1 := (nI_eq (b := 1) (by omega) (by omega)).mp g1
      have e : stand p s = rng 48 s := by rw [stand, if_neg hp0, if_pos hp1]
      rw [e]
      refine r_iload iX4_canStand_21 rfl ?_
      refine r_bipush (v := 48) iX4_canStand_22 rfl ?_
      refine r_icmp_lt iX4_canStand_24 (fun g5 => ?_) (fun g5 => ?_)
      · refine r_iconst (v := 0) iX4_canStand_37 rfl ?_
        refine r_zret iX4_canStand_38 rfl (Or.inl rfl) ?_
        exact ⟨by rw [b2i_f (by simp [rng, g5])], rfl, rfl⟩
      · refine r_iload iX4_canStand_27 rfl ?_
        refine r_bipush (v := 57) iX4_canStand_28 rfl ?_
        refine r_icmp_gt iX4_canStand_30 (fun g6 => ?_) (fun g6 => ?_)
        · refine r_iconst (v := 0) iX4_canStand_37 rfl ?_
          refine r_zret iX4_canStand_38 rfl (Or.inl rfl) ?_
          exact ⟨by rw [b2i_f (by simp [rng, g6])], rfl, rfl⟩
        · refine r_iconst (v := 1) iX4_canStand_33 rfl ?_
          refine r_goto iX4_canStand_34 ?_
          refine r_zret iX4_canStand_38 rfl (Or.inr rfl) ?_
          exact ⟨by rw [b2i_t (by simp [rng, g5, g6])], rfl, rfl⟩
  · have hp0 : p = 0 := (nI_eq (b := 0) (by omega) (by omega)).mp g0
    have e : stand p s = decide (s = 85) := by rw [stand, if_pos hp0]
    rw [e]
    refine r_iload iX4_canStand_4 rfl ?_
    refine r_bipush (v := 85) iX4_canStand_5 rfl ?_
    refine r_icmp_ne iX4_canStand_7 (fun g5 => ?_) (fun g5 => ?_)
    · refine r_iconst (v := 0) iX4_canStand_14 rfl ?_
      refine r_zret iX4_canStand_15 rfl (Or.inl rfl) ?_
      exact ⟨by rw [b2i_f (by simpa using g5)], rfl, rfl⟩
    · refine r_iconst (v := 1) iX4_canStand_10 rfl ?_
      refine r_goto iX4_canStand_11 ?_
      refine r_zret iX4_canStand_15 rfl (Or.inr rfl) ?_
      exact ⟨by rw [b2i_t (by simpa using g5)], rfl, rfl⟩
/-- the first place from p on, j places, that isn't g -/
def srch (g : Nat → Bool) : Nat → Nat → Nat
  | p, 0 => p
  | p, j + 1 => if g p = true then srch g (p + 1) j else p
theorem srch_le (g : Nat → Bool) : ∀ j p, srch g p j ≤ p + j
  | 0, p => Nat.le_refl _
  | j + 1, p => by rw [srch]; have := srch_le g j (p + 1); split <;> omega
/-- the fault of a text -/
def flt (l : Nat) (B : Nat → Int32) : Int32 := if srch (fun p => stand p (B p)) 0 l < l then nI (srch (fun p => stand p (B p)) 0 l) else if l < 2 ∨ (l - 2) % 3 ≠ 0 then nI l else -9
theorem c4_firstFault (h : Hp) (x l : Nat) (hl : l ≤ 16) (B : Nat → Int32) : Fn MX4_firstFault 1 [.ref x] (tOv h x (l, B)) (some (.int (flt l B))) := by
  intro z
  refine Cal_of_R (by decide +kernel) (L := [.ref x, .null]) rfl (Nat.le_of_ble_eq_true rfl) ?_
  have tail : ∀ w z, ¬ srch (fun p => stand p (B p)) 0 l < l → R MX4_firstFault 1 0 0 (fun v h' z' => v = some (.int (flt l B)) ∧ h' = tOv h x (l, B) ∧ z' = z) 37 [.ref x, .int w] [] (tOv h x (l, B)) z 0 0 := by
    intro w z hs
    refine r_aload iX4_firstFault_37 rfl ?_
    refine r_getfield iX4_firstFault_38 (flX4_15 _ rfl) (tOv_obj _ _ _) rfl ?_
    refine r_iconst (v := 2) iX4_firstFault_41 rfl ?_
    refine r_icmp_lt iX4_firstFault_42 (fun g1 => ?_) (fun g1 => ?_)
    · have h1 : l < 2 := (nI_ltI (b := 2) (by omega) (by omega)).mp g1
      refine r_aload iX4_firstFault_56 rfl ?_
      refine r_getfield iX4_firstFault_57 (flX4_15 _ rfl) (tOv_obj _ _ _) rfl ?_
      refine r_iret iX4_firstFault_60 rfl ?_
      exact ⟨by rw [flt, if_neg hs, if_pos (Or.inl h1)], rfl, rfl⟩
    · have h1 : ¬ l < 2 := fun q => g1 (nI_lt (b := 2) q (by omega))
      have e1 : nI l - 2 = nI (l - 2) := pk_sub (a := l) (b := 2) (by omega)
      have e2 : nI (l - 2) - nI (l - 2) / 3 * 3 = nI ((l - 2) % 3) := pk_rem (d := 3) (by omega) (by omega) (by omega)
      refine r_aload iX4_firstFault_45 rfl ?_
      refine r_getfield iX4_firstFault_46 (flX4_15 _ rfl) (tOv_obj _ _ _) rfl ?_
      refine r_iconst (v := 2) iX4_firstFault_49 rfl ?_
      refine r_isub iX4_firstFault_50 ?_
      rw [show nI (l, B).fst = nI l from rfl, e1]
      refine r_iconst (v := 3) iX4_firstFault_51 rfl ?_
      refine r_irem iX4_firstFault_52 (by decide) ?_
      rw [e2]
      refine r_if_eq iX4_firstFault_53 (fun g2 => ?_) (fun g2 => ?_)
      · have h2 : (l - 2) % 3 = 0 := (nI_eq (b := 0) (by omega) (by omega)).mp g2
        refine r_bipush (v := (-9)) iX4_firstFault_61 rfl ?_
        refine r_iret iX4_firstFault_63 rfl ?_
        exact ⟨by rw [flt, if_neg hs, if_neg (by omega)], rfl, rfl⟩
      · have h2 : (l - 2) % 3 ≠ 0 := fun q => g2 (by rw [q]; rfl)
        refine r_aload iX4_firstFault_56 rfl ?_
        refine r_getfield iX4_firstFault_57 (flX4_15 _ rfl) (tOv_obj _ _ _) rfl ?_
        refine r_iret iX4_firstFault_60 rfl ?_
        exact ⟨by rw [flt, if_neg hs, if_pos (Or.inr h2)], rfl, rfl⟩
  have loop : ∀ (j p : Nat), p + j = l → srch (fun p => stand p (B p)) 0 l = srch (fun p => stand p (B p)) p j → ∀ z, R MX4_firstFault 1 0 0 (fun v h' z' => v = some (.int (flt l B)) ∧ h' = tOv h x (l, B) ∧ z' = z) 2 [.ref x, .int (nI p)] [] (tOv h x (l, B)) z 0 0 := by
    intro j
    induction j with
    | zero =>
      intro p hp hr z
      refine r_iload iX4_firstFault_2 rfl ?_
      refine r_aload iX4_firstFault_3 rfl ?_
      refine r_getfield iX4_firstFault_4 (flX4_15 _ rfl) (tOv_obj _ _ _) rfl ?_
      refine r_icmp_ge iX4_firstFault_7 (fun _ => ?_) (fun g9 => absurd (nI_le (by omega) (by omega)) g9)
      exact tail _ _ (by rw [hr, srch]; omega)
    | succ j ih =>
      intro p hp hr z
      have hr2 := hr
      rw [srch] at hr2
      refine r_iload iX4_firstFault_2 rfl ?_
      refine r_aload iX4_firstFault_3 rfl ?_
      refine r_getfield iX4_firstFault_4 (flX4_15 _ rfl) (tOv_obj _ _ _) rfl ?_
      refine r_icmp_ge iX4_firstFault_7 (fun g9 => absurd g9 (nI_ge (by omega) (by omega))) (fun _ => ?_)
      refine r_iload iX4_firstFault_10 rfl ?_
      refine r_bipush (v := 16) iX4_firstFault_11 rfl ?_
      refine r_icmp_ge iX4_firstFault_13 (fun g9 => absurd g9 (nI_ge (b := 16) (by omega) (by omega))) (fun _ => ?_)
      refine r_iload iX4_firstFault_16 rfl ?_
      refine r_aload iX4_firstFault_17 rfl ?_
      refine r_getfield iX4_firstFault_18 (flX4_9 _ rfl) (tOv_obj _ _ _) rfl ?_
      refine r_iload iX4_firstFault_21 rfl ?_
      refine r_iaload iX4_firstFault_22 (tOv_arr _ _ _) (vp_in_nI (by omega) (by decide)) (nI_at (by omega)) ?_
      refine r_callS iX4_firstFault_23 (cX4_19 _ rfl) (c4_canStand _ p (by omega) (B p) _) (by omega) rfl rfl (Nat.le_of_ble_eq_true rfl) (Nat.le_of_ble_eq_true rfl) (Nat.le_of_ble_eq_true rfl) ?_
      rintro v h' z' ⟨rfl, rfl, rfl⟩
      cases g : stand p (B p) with
      | false =>
        rw [if_neg (by rw [g]; decide)] at hr2
        refine r_if_ne iX4_firstFault_26 (fun g9 => absurd (rfl) g9) (fun _ => ?_)
        refine r_iload iX4_firstFault_29 rfl ?_
        refine r_iret iX4_firstFault_30 rfl ?_
        exact ⟨by rw [flt, hr2, if_pos (by omega)], rfl, rfl⟩
      | true =>
        rw [if_pos g] at hr2
        refine r_if_ne iX4_firstFault_26 (fun _ => ?_) (fun g9 => absurd g9 (by decide))
        refine r_iinc_1 iX4_firstFault_31 (by first | exact nI_inc _ | rfl) rfl ?_
        refine r_goto iX4_firstFault_34 ?_
        exact ih (p + 1) (by omega) hr2 z'
  refine r_iconst (v := 0) iX4_firstFault_0 rfl ?_
  refine r_istore_1 iX4_firstFault_1 rfl ?_
  exact loop l 0 (by omega) rfl z
theorem c4_figureAt (h : Hp) (x l : Nat) (hl : l ≤ 16) (B : Nat → Int32) (p : Nat) (hp : p < l) : Fn MX4_figureAt 0 [.ref x, .int (nI p)] (tOv h x (l, B)) (some (.int (B p - 48))) := by
  intro z
  refine Cal_of_R (by decide +kernel) (L := [.ref x, .int (nI p)]) rfl (Nat.le_of_ble_eq_true rfl) ?_
  refine r_iload iX4_figureAt_0 rfl ?_
  refine r_if_lt iX4_figureAt_1 (fun g9 => absurd g9 (nI_pos (by omega))) (fun _ => ?_)
  refine r_iload iX4_figureAt_4 rfl ?_
  refine r_aload iX4_figureAt_5 rfl ?_
  refine r_getfield iX4_figureAt_6 (flX4_15 _ rfl) (tOv_obj _ _ _) rfl ?_
  refine r_icmp_ge iX4_figureAt_9 (fun g9 => absurd g9 (nI_ge (by omega) (by omega))) (fun _ => ?_)
  refine r_iload iX4_figureAt_12 rfl ?_
  refine r_bipush (v := 16) iX4_figureAt_13 rfl ?_
  refine r_icmp_ge iX4_figureAt_15 (fun g9 => absurd g9 (nI_ge (b := 16) (by omega) (by omega))) (fun _ => ?_)
  refine r_aload iX4_figureAt_18 rfl ?_
  refine r_getfield iX4_figureAt_19 (flX4_9 _ rfl) (tOv_obj _ _ _) rfl ?_
  refine r_iload iX4_figureAt_22 rfl ?_
  refine r_iaload iX4_figureAt_23 (tOv_arr _ _ _) (vp_in_nI (by omega) (by decide)) (nI_at (by omega)) ?_
  refine r_bipush (v := 48) iX4_figureAt_24 rfl ?_
  refine r_isub iX4_figureAt_26 ?_
  refine r_goto iX4_figureAt_27 ?_
  refine r_iret iX4_figureAt_31 rfl ?_
  exact ⟨rfl, rfl, rfl⟩
theorem c4_barTold (h : Hp) (x l : Nat) (hl : l ≤ 16) (B : Nat → Int32) (h2 : 2 ≤ l) : Fn MX4_barTold 1 [.ref x] (tOv h x (l, B)) (some (.int (B 1 - 48))) := by
  intro z
  refine Cal_of_R (by decide +kernel) (L := [.ref x]) rfl (Nat.le_of_ble_eq_true rfl) ?_
  refine r_aload iX4_barTold_0 rfl ?_
  refine r_iconst (v := 1) iX4_barTold_1 rfl ?_
  refine r_callV iX4_barTold_2 (cX4_29 _ rfl) (c4_figureAt h x l hl B 1 (by omega) _) (by omega) (tOv_obj _ _ _) rfl rfl rfl (Nat.le_of_ble_eq_true rfl) (Nat.le_of_ble_eq_true rfl) (Nat.le_of_ble_eq_true rfl) ?_
  rintro v h' z' ⟨rfl, rfl, rfl⟩
  refine r_iret iX4_barTold_5 rfl ?_
  exact ⟨rfl, rfl, rfl⟩
theorem c4_strengthTold (h : Hp) (x l : Nat) (hl : l ≤ 16) (B : Nat → Int32) (i : Nat) (hi : 3 * i + 5 ≤ l) : Fn MX4_strengthTold 1 [.ref x, .int (nI i)] (tOv h x (l, B)) (some (.int (B (3 * i + 3) - 48))) := by
  intro z
  refine Cal_of_R (by decide +kernel) (L := [.ref x, .int (nI i)]) rfl (Nat.le_of_ble_eq_true rfl) ?_
  have e : (2 : Int32) + 3 * nI i + 1 = nI (3 * i + 3) := by
    rw [show (3 : Int32) * nI i = nI (3 * i) from pk_mul 3 i, show (2 : Int32) + nI (3 * i) = nI (2 + 3 * i) from nI_add 2 _, show nI (2 + 3 * i) + 1 = nI (2 + 3 * i + 1) from nI_1 _]
    congr 1; omega
  refine r_aload iX4_strengthTold_0 rfl ?_
  refine r_iconst (v := 2) iX4_strengthTold_1 rfl ?_
  refine r_iconst (v := 3) iX4_strengthTold_2 rfl ?_
  refine r_iload iX4_strengthTold_3 rfl ?_
  refine r_imul iX4_strengthTold_4 ?_
  refine r_iadd iX4_strengthTold_5 ?_
  refine r_iconst (v := 1) iX4_strengthTold_6 rfl ?_
  refine r_iadd iX4_strengthTold_7 ?_
  rw [e]
  refine r_callV iX4_strengthTold_8 (cX4_29 _ rfl) (c4_figureAt h x l hl B (3 * i + 3) (by omega) _) (by omega) (tOv_obj _ _ _) rfl rfl rfl (Nat.le_of_ble_eq_true rfl) (Nat.le_of_ble_eq_true rfl) (Nat.le_of_ble_eq_true rfl) ?_
  rintro v h' z' ⟨rfl, rfl, rfl⟩
  refine r_iret iX4_strengthTold_11 rfl ?_
  exact ⟨rfl, rfl, rfl⟩
theorem c4_windTold (h : Hp) (x l : Nat) (hl : l ≤ 16) (B : Nat → Int32) (i : Nat) (hi : 3 * i + 5 ≤ l) : Fn MX4_windTold 1 [.ref x, .int (nI i)] (tOv h x (l, B)) (some (.int (B (3 * i + 4) - 48))) := by
  intro z
  refine Cal_of_R (by decide +kernel) (L := [.ref x, .int (nI i)]) rfl (Nat.le_of_ble_eq_true rfl) ?_
  have e : (2 : Int32) + 3 * nI i + 2 = nI (3 * i + 4) := by
    rw [show (3 : Int32) * nI i = nI (3 * i) from pk_mul 3 i, show (2 : Int32) + nI (3 * i) = nI (2 + 3 * i) from nI_add 2 _, show nI (2 + 3 * i) + 2 = nI (2 + 3 * i + 2) from nI_add _ 2]
    congr 1; omega
  refine r_aload iX4_windTold_0 rfl ?_
  refine r_iconst (v := 2) iX4_windTold_1 rfl ?_
  refine r_iconst (v := 3) iX4_windTold_2 rfl ?_
  refine r_iload iX4_windTold_3 rfl ?_
  refine r_imul iX4_windTold_4 ?_
  refine r_iadd iX4_windTold_5 ?_
  refine r_iconst (v := 2) iX4_windTold_6 rfl ?_
  refine r_iadd iX4_windTold_7 ?_
  rw [e]
  refine r_callV iX4_windTold_8 (cX4_29 _ rfl) (c4_figureAt h x l hl B (3 * i + 4) (by omega) _) (by omega) (tOv_obj _ _ _) rfl rfl rfl (Nat.le_of_ble_eq_true rfl) (Nat.le_of_ble_eq_true rfl) (Nat.le_of_ble_eq_true rfl) ?_
  rintro v h' z' ⟨rfl, rfl, rfl⟩
  refine r_iret iX4_windTold_11 rfl ?_
  exact ⟨rfl, rfl, rfl⟩
theorem c4_throwersTold (h : Hp) (x n : Nat) (hn : n ≤ 4) (B : Nat → Int32) : Fn MX4_throwersTold 1 [.ref x] (tOv h x (3 * n + 2, B)) (some (.int (nI n))) := by
  intro z
  refine Cal_of_R (by decide +kernel) (L := [.ref x]) rfl (Nat.le_of_ble_eq_true rfl) ?_
  have e1 : nI (3 * n + 2) - 2 = nI (3 * n) := pk_sub (a := 3 * n + 2) (b := 2) (by omega)
  have e2 : nI (3 * n) / 3 = nI n := by rw [show nI (3 * n) / 3 = nI (3 * n / 3) from pk_div (d := 3) (by omega) (by omega) (by omega)]; congr 1; omega
  have e3 : imin (nI n) 4 = nI n := by
    unfold imin
    by_cases g : (4 : Int32) < nI n
    · exact absurd ((nI_ltI (a := 4) (by omega) (by omega)).mp g) (by omega)
    · rw [if_neg g]
  refine r_aload iX4_throwersTold_0 rfl ?_
  refine r_getfield iX4_throwersTold_1 (flX4_15 _ rfl) (tOv_obj _ _ _) rfl ?_
  refine r_iconst (v := 2) iX4_throwersTold_4 rfl ?_
  refine r_icmp_ge iX4_throwersTold_5 (fun _ => ?_) (fun g9 => absurd (nI_le (a := 2) (by omega) (by omega)) g9)
  refine r_aload iX4_throwersTold_12 rfl ?_
  refine r_getfield iX4_throwersTold_13 (flX4_15 _ rfl) (tOv_obj _ _ _) rfl ?_
  refine r_iconst (v := 2) iX4_throwersTold_16 rfl ?_
  refine r_isub iX4_throwersTold_17 ?_
  rw [show nI (3 * n + 2, B).fst = nI (3 * n + 2) from rfl, e1]
  refine r_iconst (v := 3) iX4_throwersTold_18 rfl ?_
  refine r_idiv iX4_throwersTold_19 (by decide) ?_
  rw [e2]
  refine r_iconst (v := 4) iX4_throwersTold_20 rfl ?_
  refine r_mmin iX4_throwersTold_21 (cX4_23 _ rfl) (by omega) (Nat.le_of_ble_eq_true rfl) ?_
  refine r_iret iX4_throwersTold_24 rfl ?_
  exact ⟨by rw [e3], rfl, rfl⟩
end
section
/-! a contest begins from a text; the row of acts -/
def startT (B : Nat → Int32) : Nat → (Nat → Int32) → (Nat → Int32) := fun i _ => kStart (B (3 * i + 3) - 48) (B (3 * i + 4) - 48)
def startC (B : Nat → Int32) (n : Nat) (t : Nat → Nat → Int32) : Cn := (n, B 1 - 48, nxt n (mapT (startT B) t n) 0 n, mapT (startT B) t n)
theorem tAt.out {h : Hp} {x : Nat} {T : Tx} (H : tAt h x T) {c : Nat} (K : Cn) (hd : x + 2 ≤ c ∨ c + 6 ≤ x) : tAt (cOv h c K) x T := ⟨by rw [cOv_out _ _ _ (by omega)]; exact H.1, by rw [cOv_out _ _ _ (by omega)]; exact H.2⟩
theorem Fn_t {M : MD} {d x : Nat} {A : List Value} {h : Hp} {T : Tx} {r : Option Value} (H : tAt h x T) (F : Fn M d A (tOv h x T) r) : Fn M d A h r := by rw [H.ov] at F; exact F
theorem c2_startFrom (h : Hp) (c x : Nat) (hc : 2 ≤ c) {n : Nat} (hn : n ≤ 4) (K : Cn) (B : Nat → Int32) (hd : x + 2 ≤ c ∨ c + 6 ≤ x) (H : tAt h x (3 * n + 2, B)) : Pr MX2_startFrom 2 [.ref c, .ref x] (cOv h c K) none (cOv h c (startC B n K.2.2.2)) := by
  obtain ⟨n0, b0, u0, t0⟩ := K
  intro z
  have HH : ∀ K', tAt (cOv h c K') x (3 * n + 2, B) := fun K' => H.out K' hd
  refine Cal_of_R (by decide +kernel) (L := [.ref c, .ref x, .null]) rfl (Nat.le_of_ble_eq_true rfl) ?_
  have loop : ∀ (j p : Nat), p + j = n → ∀ z, R MX2_startFrom 2 0 0 (fun v h' z' => v = none ∧ h' = cOv h c (startC B n t0) ∧ z' = z) 18 [.ref c, .ref x, .int (nI p)] [] (cOv h c (n, B 1 - 48, u0, mapT (startT B) t0 p)) z 0 0 := by
    intro j
    induction j with
    | zero =>
      intro p hp z
      obtain rfl : p = n := by omega
      refine r_iload iX2_startFrom_18 rfl ?_
      refine r_aload iX2_startFrom_19 rfl ?_
      refine r_getfield iX2_startFrom_20 (flX2_18 _ rfl) (cOv_obj _ _ _) rfl ?_
      refine r_icmp_ge iX2_startFrom_23 (fun _ => ?_) (fun g9 => absurd (nI_le (by omega) (by omega)) g9)
      refine r_aload iX2_startFrom_51 rfl ?_
      refine r_aload iX2_startFrom_52 rfl ?_
      refine r_aload iX2_startFrom_53 rfl ?_
      refine r_getfield iX2_startFrom_54 (flX2_18 _ rfl) (cOv_obj _ _ _) rfl ?_
      refine r_iconst (v := 1) iX2_startFrom_57 rfl ?_
      refine r_isub iX2_startFrom_58 ?_
      refine r_callV iX2_startFrom_59 (cX2_48 _ rfl) (c2_nextBehind h c hn _ _ _ _ (f := p) (by simp) (Nat.le_refl _) _) (by omega) (cOv_obj _ _ _) rfl rfl rfl (Nat.le_of_ble_eq_true rfl) (Nat.le_of_ble_eq_true rfl) (Nat.le_of_ble_eq_true rfl) ?_
      rintro v h' z' ⟨rfl, rfl, rfl⟩
      refine r_cturn iX2_startFrom_62 (fpX2_25 _ rfl) hc ?_
      refine r_vret iX2_startFrom_65 rfl ?_
      exact ⟨rfl, by rw [nxt_n]; rfl, rfl⟩
    | succ j ih =>
      intro p hp z
      have hp4 : p < 4 := by omega
      refine r_iload iX2_startFrom_18 rfl ?_
      refine r_aload iX2_startFrom_19 rfl ?_
      refine r_getfield iX2_startFrom_20 (flX2_18 _ rfl) (cOv_obj _ _ _) rfl ?_
      refine r_icmp_ge iX2_startFrom_23 (fun g9 => absurd g9 (nI_ge (by omega) (by omega))) (fun _ => ?_)
      refine r_aload iX2_startFrom_26 rfl ?_
      refine r_getfield iX2_startFrom_27 (flX2_11 _ rfl) (cOv_obj _ _ _) rfl ?_
      refine r_iload iX2_startFrom_30 rfl ?_
      refine r_aaload iX2_startFrom_31 rfl (cOv_arr _ _ _) (in4 hp4) (thr_ix c hp4) ?_
      refine r_aload iX2_startFrom_32 rfl ?_
      refine r_iload iX2_startFrom_33 rfl ?_
      refine r_callV iX2_startFrom_34 (cX2_37 _ rfl) (Fn_t (HH _) (c4_strengthTold _ x _ (by omega) B p (by omega)) _) (by omega) ((HH _).1) rfl rfl rfl (Nat.le_of_ble_eq_true rfl) (Nat.le_of_ble_eq_true rfl) (Nat.le_of_ble_eq_true rfl) ?_
      rintro v h' z' ⟨rfl, rfl, rfl⟩
      refine r_aload iX2_startFrom_37 rfl ?_
      refine r_iload iX2_startFrom_38 rfl ?_
      refine r_callV iX2_startFrom_39 (cX2_41 _ rfl) (Fn_t (HH _) (c4_windTold _ x _ (by omega) B p (by omega)) _) (by omega) ((HH _).1) rfl rfl rfl (Nat.le_of_ble_eq_true rfl) (Nat.le_of_ble_eq_true rfl) (Nat.le_of_ble_eq_true rfl) ?_
      rintro v h' z' ⟨rfl, rfl, rfl⟩
      refine r_callV iX2_startFrom_42 (cX2_44 _ rfl) (Pr_at (cOv_thr _ _ _ hp4) (c5_start _ _ (by omega) _ _) _) (by omega) (cOv_thr _ _ _ hp4) rfl rfl rfl (Nat.le_of_ble_eq_true rfl) (Nat.le_of_ble_eq_true rfl) (Nat.le_of_ble_eq_true rfl) ?_
      rintro v h' z' ⟨rfl, rfl, rfl⟩
      rw [cOv_setT _ _ _ _ _ _ hp4]
      have e : upT (mapT (startT B) t0 p) p (kStart (B (3 * p + 3) - 48) (B (3 * p + 4) - 48)) = mapT (startT B) t0 (p + 1) := mapT_s (startT B) t0 p
      rw [e]
      refine r_iinc_2 iX2_startFrom_45 (by first | exact nI_inc _ | rfl) rfl ?_
      refine r_goto iX2_startFrom_48 ?_
      exact ih (p + 1) (by omega) z'
  refine r_aload iX2_startFrom_0 rfl ?_
  refine r_aload iX2_startFrom_1 rfl ?_
  refine r_callV iX2_startFrom_2 (cX2_28 _ rfl) (Fn_t (HH _) (c4_throwersTold _ x n hn B) _) (by omega) ((HH _).1) rfl rfl rfl (Nat.le_of_ble_eq_true rfl) (Nat.le_of_ble_eq_true rfl) (Nat.le_of_ble_eq_true rfl) ?_
  rintro v h' z' ⟨rfl, rfl, rfl⟩
  refine r_csize iX2_startFrom_5 (fpX2_18 _ rfl) hc ?_
  refine r_aload iX2_startFrom_8 rfl ?_
  refine r_aload iX2_startFrom_9 rfl ?_
  refine r_callV iX2_startFrom_10 (cX2_34 _ rfl) (Fn_t (HH _) (c4_barTold _ x _ (by omega) B (by omega)) _) (by omega) ((HH _).1) rfl rfl rfl (Nat.le_of_ble_eq_true rfl) (Nat.le_of_ble_eq_true rfl) (Nat.le_of_ble_eq_true rfl) ?_
  rintro v h' z' ⟨rfl, rfl, rfl⟩
  refine r_cbar iX2_startFrom_13 (fpX2_22 _ rfl) hc ?_
  refine r_iconst (v := 0) iX2_startFrom_16 rfl ?_
  refine r_istore_2 iX2_startFrom_17 rfl ?_
  have e := loop n 0 (by omega) z'
  rw [mapT_0] at e
  exact e
/-- the row of acts: the contests ahead of them, 16 of six cells from a + 2 on; how many, where the next goes -/
def aAt (h : Hp) (a : Nat) (sz nx : Nat) (W : Nat → Cn) : Prop := h a = some (.inr (0, [.ref (a + 1), .int (nI sz), .int (nI nx)])) ∧ h (a + 1) = some (.inl (.object "UpWithSheaf$Contest", 16, fun j => .ref (a + 2 + 6 * j))) ∧ ∀ j, j < 16 → conAt h (a + 2 + 6 * j) (W j)
def upW (W : Nat → Cn) (j : Nat) (K : Cn) : Nat → Cn := fun i => if i = j then K else W i
theorem con_ix (a : Nat) {i : Nat} (hi : i < 16) : (fun j : Nat => Value.ref (a + 2 + 6 * j)) (nI i).toNatClampNeg = .ref (a + 2 + 6 * i) := by
  show Value.ref (a + 2 + 6 * (nI i).toNatClampNeg) = _
  rw [nI_clamp (by omega)]
theorem in16 {i : Nat} (hi : i < 16) : vp_in (nI i) 16 := vp_in_nI hi (by decide)
/-- what stays: all but the cells that f names -/
def keeps (h h' : Hp) (f : Nat → Prop) : Prop := ∀ a, ¬ f a → h' a = h a
def copyC (K : Cn) (t : Nat → Nat → Int32) : Cn := (K.1, K.2.1, K.2.2.1, mapT (fun j _ => K.2.2.2 j) t K.1)
theorem c0_forget (h : Hp) (a : Nat) (ha : 2 ≤ a) (r : Nat) (x y : Int32) : Pr MX0_forget 0 [.ref a] (hset h a (.inr (0, [.ref r, .int x, .int y]))) none (hset h a (.inr (0, [.ref r, .int 0, .int 0]))) := by
  intro z
  refine Cal_of_R (by decide +kernel) (L := [.ref a]) rfl (Nat.le_of_ble_eq_true rfl) ?_
  refine r_aload iX0_forget_0 rfl ?_
  refine r_iconst (v := 0) iX0_forget_1 rfl ?_
  refine r_putO iX0_forget_2 (fpX0_18 _ rfl) ha (Nat.le_of_ble_eq_true rfl) ⟨rfl, rfl⟩ ?_
  refine r_aload iX0_forget_5 rfl ?_
  refine r_iconst (v := 0) iX0_forget_6 rfl ?_
  refine r_putO iX0_forget_7 (fpX0_22 _ rfl) ha (Nat.le_of_ble_eq_true rfl) ⟨rfl, rfl⟩ ?_
  refine r_vret iX0_forget_10 rfl ?_
  exact ⟨rfl, rfl, rfl⟩
theorem Pr_con {M : MD} {d : Nat} {A : List Value} {h h1 : Hp} {r : Option Value} {c : Nat} {K : Cn} (H : conAt h c K) (P : Pr M d A (cOv h c K) r h1) : Pr M d A h r h1 := by rw [H.ov] at P; exact P
theorem Fn_con {M : MD} {d : Nat} {A : List Value} {h : Hp} {r : Option Value} {c : Nat} {K : Cn} (H : conAt h c K) (P : Fn M d A (cOv h c K) r) : Fn M d A h r := by rw [H.ov] at P; exact P
theorem R_heap {M : MD} {d mc ms pc z k n : Nat} {Q : Option Value → Hp → Nat → Prop} {L S : List Value} {h h2 : Hp} (e : h = h2) (K : R M d mc ms Q pc L S h2 z k n) : R M d mc ms Q pc L S h z k n := e ▸ K
def nx1 (nx : Nat) : Nat := if nx + 1 < 16 then nx + 1 else 0
def sz1 (sz : Nat) : Nat := if sz < 16 then sz + 1 else sz
def remH (h : Hp) (a sz nx : Nat) (W : Nat → Cn) (K : Cn) : Hp := hset (cOv h (a + 2 + 6 * nx) (copyC K (W nx).2.2.2)) a (.inr (0, [.ref (a + 1), .int (nI (sz1 sz)), .int (nI (nx1 nx))]))
theorem c0_remember (h : Hp) (a c : Nat) (ha : 2 ≤ a) {sz nx : Nat} (hsz : sz ≤ 16) (hnx : nx < 16) {W : Nat → Cn} {K : Cn} (hn : K.1 ≤ 4) (H : aAt h a sz nx W) (HK : conAt h c K) (hd : c + 6 ≤ a ∨ a + 98 ≤ c) : Pr MX0_remember 2 [.ref a, .ref c] h none (remH h a sz nx W K) := by
  obtain ⟨n, b, u, t⟩ := K
  intro z
  refine Cal_of_R (by decide +kernel) (L := [.ref a, .ref c]) rfl (Nat.le_of_ble_eq_true rfl) ?_
  refine r_aload iX0_remember_0 rfl ?_
  refine r_getfield iX0_remember_1 (flX0_11 _ rfl) (H.1) rfl ?_
  refine r_aload iX0_remember_4 rfl ?_
  refine r_getfield iX0_remember_5 (flX0_22 _ rfl) (H.1) rfl ?_
  refine r_aaload iX0_remember_8 rfl (H.2.1) (in16 hnx) (con_ix a hnx) ?_
  refine r_aload iX0_remember_9 rfl ?_
  refine r_callV iX0_remember_10 (cX0_25 _ rfl) (Pr_con (H.2.2 nx hnx) (c2_copyFrom h _ c (by omega) _ hn b u t (by omega) HK) _) (by omega) ((H.2.2 nx hnx).1) rfl rfl rfl (Nat.le_of_ble_eq_true rfl) (Nat.le_of_ble_eq_true rfl) (Nat.le_of_ble_eq_true rfl) ?_
  rintro v h' z' ⟨rfl, rfl, rfl⟩
  have hobj : cOv h (a + 2 + 6 * nx) (n, b, u, mapT (fun j _ => t j) (W nx).2.2.2 n) a = some (.inr (0, [.ref (a + 1), .int (nI sz), .int (nI nx)])) := by rw [cOv_out _ _ _ (by omega)]; exact H.1
  refine R_heap (hset_self hobj).symm ?_
  have tail : ∀ x : Int32, x = nI (nx1 nx) → ∀ z, R MX0_remember 2 0 0 (fun v h' z' => v = none ∧ h' = remH h a sz nx W (n, b, u, t) ∧ z' = z) 35 [.ref a, .ref c] [.int x, .ref a] (hset (cOv h (a + 2 + 6 * nx) (n, b, u, mapT (fun j _ => t j) (W nx).2.2.2 n)) a (.inr (0, [.ref (a + 1), .int (nI sz), .int (nI nx)]))) z 0 0 := by
    intro x hx z
    refine r_putO iX0_remember_35 (fpX0_22 _ rfl) ha (Nat.le_of_ble_eq_true rfl) ⟨rfl, rfl⟩ ?_
    refine r_aload iX0_remember_38 rfl ?_
    refine r_getfield iX0_remember_39 (flX0_18 _ rfl) (hset_eq _ _ _) rfl ?_
    refine r_bipush (v := 16) iX0_remember_42 rfl ?_
    refine r_icmp_ge iX0_remember_44 (fun g => ?_) (fun g => ?_)
    · have g2 : ¬ sz < 16 := fun q => nI_ge (a := sz) (b := 16) q (by omega) g
      refine r_vret iX0_remember_57 rfl ?_
      refine ⟨rfl, ?_, rfl⟩
      rw [hx, remH, sz1, if_neg g2]; rfl
    · have g2 : sz < 16 := by
        rcases Nat.lt_or_ge sz 16 with q | q
        · exact q
        · exact absurd (nI_le (a := 16) q (by omega)) g
      refine r_aload iX0_remember_47 rfl ?_
      refine r_dup iX0_remember_48 rfl ?_
      refine r_getfield iX0_remember_49 (flX0_18 _ rfl) (hset_eq _ _ _) rfl ?_
      refine r_iconst (v := 1) iX0_remember_52 rfl ?_
      refine r_iadd iX0_remember_53 ?_
      refine r_putO iX0_remember_54 (fpX0_18 _ rfl) ha (Nat.le_of_ble_eq_true rfl) ⟨rfl, rfl⟩ ?_
      refine r_vret iX0_remember_57 rfl ?_
      refine ⟨rfl, ?_, rfl⟩
      rw [hx, remH, sz1, if_pos g2, nI_succ]; rfl
  refine r_aload iX0_remember_13 rfl ?_
  refine r_aload iX0_remember_14 rfl ?_
  refine r_getfield iX0_remember_15 (flX0_22 _ rfl) (hset_eq _ _ _) rfl ?_
  refine r_iconst (v := 1) iX0_remember_18 rfl ?_
  refine r_iadd iX0_remember_19 ?_
  refine r_bipush (v := 16) iX0_remember_20 rfl ?_
  refine r_icmp_ge iX0_remember_22 (fun g => ?_) (fun g => ?_)
  · have g2 : ¬ nx + 1 < 16 := fun q => nI_ge (a := nx + 1) (b := 16) q (by omega) (by rw [nI_succ nx]; exact g)
    refine r_iconst (v := 0) iX0_remember_34 rfl ?_
    exact tail _ (by rw [nx1, if_neg g2]; rfl) _
  · have g2 : nx + 1 < 16 := by
      rcases Nat.lt_or_ge (nx + 1) 16 with q | q
      · exact q
      · exact absurd (show nI 16 ≤ nI nx + 1 by rw [← nI_succ]; exact nI_le (a := 16) q (by omega)) g
    refine r_aload iX0_remember_25 rfl ?_
    refine r_getfield iX0_remember_26 (flX0_22 _ rfl) (hset_eq _ _ _) rfl ?_
    refine r_iconst (v := 1) iX0_remember_29 rfl ?_
    refine r_iadd iX0_remember_30 ?_
    refine r_goto iX0_remember_31 ?_
    exact tail _ (by rw [nx1, if_pos g2, nI_succ]) _
theorem remH_at {h : Hp} {a sz nx : Nat} {W : Nat → Cn} (K : Cn) (hnx : nx < 16) (H : aAt h a sz nx W) : aAt (remH h a sz nx W K) a (sz1 sz) (nx1 nx) (upW W nx (copyC K (W nx).2.2.2)) := by
  unfold remH
  refine ⟨hset_eq _ _ _, ?_, fun j hj => ?_⟩
  · rw [hset_ne _ _ (by omega), cOv_out _ _ _ (by omega)]; exact H.2.1
  · by_cases g : j = nx
    · subst g
      rw [upW, if_pos rfl]
      exact (conAt_cOv h _ _).kept fun x h1 h2 => hset_ne _ _ (by omega)
    · rw [upW, if_neg g]
      exact ((H.2.2 j hj).out _ (by omega)).kept fun x h1 h2 => hset_ne _ _ (by omega)
theorem remH_out {h : Hp} {a sz nx : Nat} {W : Nat → Cn} {K : Cn} (hnx : nx < 16) {x : Nat} (hx : x < a ∨ a + 98 ≤ x) : remH h a sz nx W K x = h x := by
  unfold remH
  rw [hset_ne _ _ (by omega), cOv_out _ _ _ (by omega)]
def nxB (nx : Nat) : Nat := if 0 < nx then nx - 1 else 15
theorem nxB_lt {nx : Nat} (h : nx < 16) : nxB nx < 16 := by unfold nxB; split <;> omega
def takH (h : Hp) (a c sz nx : Nat) (W : Nat → Cn) (K : Cn) : Hp := hset (cOv h c (copyC (W (nxB nx)) K.2.2.2)) a (.inr (0, [.ref (a + 1), .int (nI (sz - 1)), .int (nI (nxB nx))]))
theorem c0_takeBack (h : Hp) (a c : Nat) (ha : 2 ≤ a) (hc : 2 ≤ c) {sz nx : Nat} (hs0 : 0 < sz) (hsz : sz ≤ 16) (hnx : nx < 16) {W : Nat → Cn} {K : Cn} (hn : (W (nxB nx)).1 ≤ 4) (H : aAt h a sz nx W) (HK : conAt h c K) (hd : c + 6 ≤ a ∨ a + 98 ≤ c) : Pr MX0_takeBack 2 [.ref a, .ref c] h none (takH h a c sz nx W K) := by
  intro z
  refine Cal_of_R (by decide +kernel) (L := [.ref a, .ref c]) rfl (Nat.le_of_ble_eq_true rfl) ?_
  refine R_heap (hset_self H.1).symm ?_
  have tail : ∀ x : Int32, x = nI (nxB nx) → ∀ z, R MX0_takeBack 2 0 0 (fun v h' z' => v = none ∧ h' = takH h a c sz nx W K ∧ z' = z) 19 [.ref a, .ref c] [.int x, .ref a] (hset h a (.inr (0, [.ref (a + 1), .int (nI sz), .int (nI nx)]))) z 0 0 := by
    intro x hx z
    subst hx
    have hb := nxB_lt hnx
    refine r_putO iX0_takeBack_19 (fpX0_22 _ rfl) ha (Nat.le_of_ble_eq_true rfl) ⟨rfl, rfl⟩ ?_
    have H1 : aAt (hset h a (.inr (0, [.ref (a + 1), .int (nI sz), .int (nI (nxB nx))]))) a sz (nxB nx) W := ⟨hset_eq _ _ _, by rw [hset_ne _ _ (by omega)]; exact H.2.1, fun j hj => (H.2.2 j hj).kept fun x h1 h2 => hset_ne _ _ (by omega)⟩
    have HK1 : conAt (hset h a (.inr (0, [.ref (a + 1), .int (nI sz), .int (nI (nxB nx))]))) c K := HK.kept fun x h1 h2 => hset_ne _ _ (by omega)
    refine R_heap (show _ = hset h a (.inr (0, [.ref (a + 1), .int (nI sz), .int (nI (nxB nx))])) from rfl) ?_
    refine r_aload iX0_takeBack_22 rfl ?_
    refine r_aload iX0_takeBack_23 rfl ?_
    refine r_getfield iX0_takeBack_24 (flX0_11 _ rfl) (hset_eq _ _ _) rfl ?_
    refine r_aload iX0_takeBack_27 rfl ?_
    refine r_getfield iX0_takeBack_28 (flX0_22 _ rfl) (hset_eq _ _ _) rfl ?_
    refine r_aaload iX0_takeBack_31 rfl (H1.2.1) (in16 hb) (con_ix a hb) ?_
    refine r_callV iX0_takeBack_32 (cX0_25 _ rfl) (Pr_con HK1 (c2_copyFrom _ c _ hc K hn _ _ _ (by omega) (H1.2.2 (nxB nx) hb)) _) (by omega) (HK1.1) rfl rfl rfl (Nat.le_of_ble_eq_true rfl) (Nat.le_of_ble_eq_true rfl) (Nat.le_of_ble_eq_true rfl) ?_
    rintro v h' z' ⟨rfl, rfl, rfl⟩
    have hobj : cOv (hset h a (.inr (0, [.ref (a + 1), .int (nI sz), .int (nI (nxB nx))]))) c ((W (nxB nx)).1, (W (nxB nx)).2.1, (W (nxB nx)).2.2.1, mapT (fun j _ => (W (nxB nx)).2.2.2 j) K.2.2.2 (W (nxB nx)).1) a = some (.inr (0, [.ref (a + 1), .int (nI sz), .int (nI (nxB nx))])) := by rw [cOv_out _ _ _ (by omega), hset_eq]
    refine R_heap (hset_self hobj).symm ?_
    refine r_aload iX0_takeBack_35 rfl ?_
    refine r_dup iX0_takeBack_36 rfl ?_
    refine r_getfield iX0_takeBack_37 (flX0_18 _ rfl) (hset_eq _ _ _) rfl ?_
    refine r_iconst (v := 1) iX0_takeBack_40 rfl ?_
    refine r_isub iX0_takeBack_41 ?_
    refine r_putO iX0_takeBack_42 (fpX0_18 _ rfl) ha (Nat.le_of_ble_eq_true rfl) ⟨rfl, rfl⟩ ?_
    refine r_vret iX0_takeBack_45 rfl ?_
    refine ⟨rfl, ?_, rfl⟩
    have e1 : nI sz - 1 = nI (sz - 1) := by rw [show sz = sz - 1 + 1 by omega, nI_pred]; rfl
    rw [e1]
    funext x
    unfold takH
    by_cases g : x = a
    · rw [g, hset_eq, hset_eq]; rfl
    · rw [hset_ne _ _ g, hset_ne _ _ g]
      unfold cOv
      rw [hset_ne _ _ g]; rfl
  refine r_aload iX0_takeBack_0 rfl ?_
  refine r_aload iX0_takeBack_1 rfl ?_
  refine r_getfield iX0_takeBack_2 (flX0_22 _ rfl) (hset_eq _ _ _) rfl ?_
  refine r_if_le iX0_takeBack_5 (fun g => ?_) (fun g => ?_)
  · have g2 : ¬ 0 < nx := fun q => nI_nle q (by omega) g
    refine r_bipush (v := 15) iX0_takeBack_17 rfl ?_
    exact tail _ (by rw [nxB, if_neg g2]; rfl) _
  · have g2 : 0 < nx := by
      rcases Nat.eq_zero_or_pos nx with q | q
      · exact absurd (by rw [q]; decide) g
      · exact q
    refine r_aload iX0_takeBack_8 rfl ?_
    refine r_getfield iX0_takeBack_9 (flX0_22 _ rfl) (hset_eq _ _ _) rfl ?_
    refine r_iconst (v := 1) iX0_takeBack_12 rfl ?_
    refine r_isub iX0_takeBack_13 ?_
    refine r_goto iX0_takeBack_14 ?_
    exact tail _ (by rw [nxB, if_pos g2]; show nI nx - 1 = _; rw [show nx = nx - 1 + 1 by omega, nI_pred]; rfl) _
end
section
/-! the class's whole state: text, contest, acts, slots, seed; what is only scratch is some or other -/
theorem tAt.kept {h h' : Hp} {x : Nat} {T : Tx} (H : tAt h x T) (hd : ∀ a, x ≤ a → a < x + 2 → h' a = h a) : tAt h' x T := ⟨by rw [hd _ (by omega) (by omega)]; exact H.1, by rw [hd _ (by omega) (by omega)]; exact H.2⟩
theorem aAt.kept {h h' : Hp} {a sz nx : Nat} {W : Nat → Cn} (H : aAt h a sz nx W) (hd : ∀ x, a ≤ x → x < a + 98 → h' x = h x) : aAt h' a sz nx W := ⟨by rw [hd _ (by omega) (by omega)]; exact H.1, by rw [hd _ (by omega) (by omega)]; exact H.2.1, fun j hj => (H.2.2 j hj).kept fun x h1 h2 => hd x (by omega) (by omega)⟩
def slAt (h : Hp) (sl : Nat → Cn) : Prop := h 115 = some (.inl (.object "UpWithSheaf$Contest", 2, fun j => .ref (116 + 6 * j))) ∧ ∀ j, j < 2 → conAt h (116 + 6 * j) (sl j)
theorem slAt.kept {h h' : Hp} {sl : Nat → Cn} (H : slAt h sl) (hd : ∀ x, 115 ≤ x → x < 128 → h' x = h x) : slAt h' sl := ⟨by rw [hd _ (by omega) (by omega)]; exact H.1, fun j hj => (H.2 j hj).kept fun x h1 h2 => hd x (by omega) (by omega)⟩
def kpAt (h : Hp) (kp : Nat → Int32) : Prop := h 128 = some (.inl (.boolean, 2, fun j => .int (kp j)))
theorem kpAt.kept {h h' : Hp} {kp : Nat → Int32} (H : kpAt h kp) (hd : ∀ x, 128 ≤ x → x < 129 → h' x = h x) : kpAt h' kp := by unfold kpAt; rw [hd _ (by omega) (by omega)]; exact H
def ptAt (h : Hp) (pt : Nat → Nat → Int32) : Prop := h 129 = some (.inl (.object "UpWithSheaf$Thrower", 13, fun j => .ref (130 + j))) ∧ ∀ j, j < 13 → h (130 + j) = some (thr (pt j))
theorem ptAt.kept {h h' : Hp} {pt : Nat → Nat → Int32} (H : ptAt h pt) (hd : ∀ x, 129 ≤ x → x < 143 → h' x = h x) : ptAt h' pt := ⟨by rw [hd _ (by omega) (by omega)]; exact H.1, fun j hj => by rw [hd _ (by omega) (by omega)]; exact H.2 j hj⟩
def gridAt (h : Hp) (a : Nat) (G : Nat → Nat → Int32) : Prop := h a = some (.inl (.array .int, 3, fun j => .ref (a + 1 + j))) ∧ ∀ j, j < 3 → h (a + 1 + j) = some (.inl (.int, 19, fun i => .int (G j i)))
theorem gridAt.kept {h h' : Hp} {a : Nat} {G : Nat → Nat → Int32} (H : gridAt h a G) (hd : ∀ x, a ≤ x → x < a + 4 → h' x = h x) : gridAt h' a G := ⟨by rw [hd _ (by omega) (by omega)]; exact H.1, fun j hj => by rw [hd _ (by omega) (by omega)]; exact H.2 j hj⟩
def shAt (h : Hp) : Prop := h 143 = some (.inr (2, [.ref 144, .ref 148])) ∧ (∃ G, gridAt h 144 G) ∧ ∃ G, gridAt h 148 G
theorem shAt.kept {h h' : Hp} (H : shAt h) (hd : ∀ x, 143 ≤ x → x < 152 → h' x = h x) : shAt h' := by
  obtain ⟨h1, ⟨G, h2⟩, G2, h3⟩ := H
  exact ⟨by rw [hd _ (by omega) (by omega)]; exact h1, ⟨G, h2.kept fun x q1 q2 => hd x (by omega) (by omega)⟩, G2, h3.kept fun x q1 q2 => hd x (by omega) (by omega)⟩
def cls (h : Hp) (T : Tx) (K : Cn) (sz nx : Nat) (W : Nat → Cn) (sl : Nat → Cn) (kp : Nat → Int32) (seed : Int64) : Prop := ∃ (tr : Cn) (pt : Nat → Nat → Int32), h 2 = some (.inr (5, [.ref 3, .ref 5, .ref 11, .ref 17, .ref 115, .ref 128, .ref 129, .ref 143, .long seed])) ∧ tAt h 3 T ∧ conAt h 5 K ∧ conAt h 11 tr ∧ aAt h 17 sz nx W ∧ slAt h sl ∧ kpAt h kp ∧ ptAt h pt ∧ shAt h
theorem cls.obj {h h' : Hp} {T : Tx} {K : Cn} {sz nx : Nat} {W sl : Nat → Cn} {kp : Nat → Int32} {seed : Int64} {seed2 : Int64} (H : cls h T K sz nx W sl kp seed) (hout : ∀ a, (a < 2 ∨ 3 ≤ a) → h' a = h a) (hN : h' 2 = some (.inr (5, [.ref 3, .ref 5, .ref 11, .ref 17, .ref 115, .ref 128, .ref 129, .ref 143, .long seed2]))) : cls h' T K sz nx W sl kp seed2 := by
  obtain ⟨tr, pt, h_obj, h_tx, h_cu, h_tr, h_ac, h_sl, h_kp, h_pt, h_sh⟩ := H
  exact ⟨tr, pt, hN, (h_tx.kept fun a q1 q2 => hout a (by omega)), (h_cu.kept fun a q1 q2 => hout a (by omega)), (h_tr.kept fun a q1 q2 => hout a (by omega)), (h_ac.kept fun a q1 q2 => hout a (by omega)), (h_sl.kept fun a q1 q2 => hout a (by omega)), (h_kp.kept fun a q1 q2 => hout a (by omega)), (h_pt.kept fun a q1 q2 => hout a (by omega)), (h_sh.kept fun a q1 q2 => hout a (by omega))⟩
theorem cls.tx {h h' : Hp} {T : Tx} {K : Cn} {sz nx : Nat} {W sl : Nat → Cn} {kp : Nat → Int32} {seed : Int64} {T2 : Tx} (H : cls h T K sz nx W sl kp seed) (hout : ∀ a, (a < 3 ∨ 5 ≤ a) → h' a = h a) (hN : tAt h' 3 T2) : cls h' T2 K sz nx W sl kp seed := by
  obtain ⟨tr, pt, h_obj, h_tx, h_cu, h_tr, h_ac, h_sl, h_kp, h_pt, h_sh⟩ := H
  exact ⟨tr, pt, (by rw [hout 2 (by omega)]; exact h_obj), hN, (h_cu.kept fun a q1 q2 => hout a (by omega)), (h_tr.kept fun a q1 q2 => hout a (by omega)), (h_ac.kept fun a q1 q2 => hout a (by omega)), (h_sl.kept fun a q1 q2 => hout a (by omega)), (h_kp.kept fun a q1 q2 => hout a (by omega)), (h_pt.kept fun a q1 q2 => hout a (by omega)), (h_sh.kept fun a q1 q2 => hout a (by omega))⟩
theorem cls.cu {h h' : Hp} {T : Tx} {K : Cn} {sz nx : Nat} {W sl : Nat → Cn} {kp : Nat → Int32} {seed : Int64} {K2 : Cn} (H : cls h T K sz nx W sl kp seed) (hout : ∀ a, (a < 5 ∨ 11 ≤ a) → h' a = h a) (hN : conAt h' 5 K2) : cls h' T K2 sz nx W sl kp seed := by
  obtain ⟨tr, pt, h_obj, h_tx, h_cu, h_tr, h_ac, h_sl, h_kp, h_pt, h_sh⟩ := H
  exact ⟨tr, pt, (by rw [hout 2 (by omega)]; exact h_obj), (h_tx.kept fun a q1 q2 => hout a (by omega)), hN, (h_tr.kept fun a q1 q2 => hout a (by omega)), (h_ac.kept fun a q1 q2 => hout a (by omega)), (h_sl.kept fun a q1 q2 => hout a (by omega)), (h_kp.kept fun a q1 q2 => hout a (by omega)), (h_pt.kept fun a q1 q2 => hout a (by omega)), (h_sh.kept fun a q1 q2 => hout a (by omega))⟩
theorem cls.tr {h h' : Hp} {T : Tx} {K : Cn} {sz nx : Nat} {W sl : Nat → Cn} {kp : Nat → Int32} {seed : Int64}  {tr2 : Cn} (H : cls h T K sz nx W sl kp seed) (hout : ∀ a, (a < 11 ∨ 17 ≤ a) → h' a = h a) (hN : conAt h' 11 tr2) : cls h' T K sz nx W sl kp seed := by
  obtain ⟨tr, pt, h_obj, h_tx, h_cu, h_tr, h_ac, h_sl, h_kp, h_pt, h_sh⟩ := H
  exact ⟨tr2, pt, (by rw [hout 2 (by omega)]; exact h_obj), (h_tx.kept fun a q1 q2 => hout a (by omega)), (h_cu.kept fun a q1 q2 => hout a (by omega)), hN, (h_ac.kept fun a q1 q2 => hout a (by omega)), (h_sl.kept fun a q1 q2 => hout a (by omega)), (h_kp.kept fun a q1 q2 => hout a (by omega)), (h_pt.kept fun a q1 q2 => hout a (by omega)), (h_sh.kept fun a q1 q2 => hout a (by omega))⟩
theorem cls.ac {h h' : Hp} {T : Tx} {K : Cn} {sz nx : Nat} {W sl : Nat → Cn} {kp : Nat → Int32} {seed : Int64} {sz2 : Nat} {nx2 : Nat} {W2 : Nat → Cn} (H : cls h T K sz nx W sl kp seed) (hout : ∀ a, (a < 17 ∨ 115 ≤ a) → h' a = h a) (hN : aAt h' 17 sz2 nx2 W2) : cls h' T K sz2 nx2 W2 sl kp seed := by
  obtain ⟨tr, pt, h_obj, h_tx, h_cu, h_tr, h_ac, h_sl, h_kp, h_pt, h_sh⟩ := H
  exact ⟨tr, pt, (by rw [hout 2 (by omega)]; exact h_obj), (h_tx.kept fun a q1 q2 => hout a (by omega)), (h_cu.kept fun a q1 q2 => hout a (by omega)), (h_tr.kept fun a q1 q2 => hout a (by omega)), hN, (h_sl.kept fun a q1 q2 => hout a (by omega)), (h_kp.kept fun a q1 q2 => hout a (by omega)), (h_pt.kept fun a q1 q2 => hout a (by omega)), (h_sh.kept fun a q1 q2 => hout a (by omega))⟩
theorem cls.sl {h h' : Hp} {T : Tx} {K : Cn} {sz nx : Nat} {W sl : Nat → Cn} {kp : Nat → Int32} {seed : Int64} {sl2 : Nat → Cn} (H : cls h T K sz nx W sl kp seed) (hout : ∀ a, (a < 115 ∨ 128 ≤ a) → h' a = h a) (hN : slAt h' sl2) : cls h' T K sz nx W sl2 kp seed := by
  obtain ⟨tr, pt, h_obj, h_tx, h_cu, h_tr, h_ac, h_sl, h_kp, h_pt, h_sh⟩ := H
  exact ⟨tr, pt, (by rw [hout 2 (by omega)]; exact h_obj), (h_tx.kept fun a q1 q2 => hout a (by omega)), (h_cu.kept fun a q1 q2 => hout a (by omega)), (h_tr.kept fun a q1 q2 => hout a (by omega)), (h_ac.kept fun a q1 q2 => hout a (by omega)), hN, (h_kp.kept fun a q1 q2 => hout a (by omega)), (h_pt.kept fun a q1 q2 => hout a (by omega)), (h_sh.kept fun a q1 q2 => hout a (by omega))⟩
theorem cls.kp {h h' : Hp} {T : Tx} {K : Cn} {sz nx : Nat} {W sl : Nat → Cn} {kp : Nat → Int32} {seed : Int64} {kp2 : Nat → Int32} (H : cls h T K sz nx W sl kp seed) (hout : ∀ a, (a < 128 ∨ 129 ≤ a) → h' a = h a) (hN : kpAt h' kp2) : cls h' T K sz nx W sl kp2 seed := by
  obtain ⟨tr, pt, h_obj, h_tx, h_cu, h_tr, h_ac, h_sl, h_kp, h_pt, h_sh⟩ := H
  exact ⟨tr, pt, (by rw [hout 2 (by omega)]; exact h_obj), (h_tx.kept fun a q1 q2 => hout a (by omega)), (h_cu.kept fun a q1 q2 => hout a (by omega)), (h_tr.kept fun a q1 q2 => hout a (by omega)), (h_ac.kept fun a q1 q2 => hout a (by omega)), (h_sl.kept fun a q1 q2 => hout a (by omega)), hN, (h_pt.kept fun a q1 q2 => hout a (by omega)), (h_sh.kept fun a q1 q2 => hout a (by omega))⟩
theorem cls.pt {h h' : Hp} {T : Tx} {K : Cn} {sz nx : Nat} {W sl : Nat → Cn} {kp : Nat → Int32} {seed : Int64}  {pt2 : Nat → Nat → Int32} (H : cls h T K sz nx W sl kp seed) (hout : ∀ a, (a < 129 ∨ 143 ≤ a) → h' a = h a) (hN : ptAt h' pt2) : cls h' T K sz nx W sl kp seed := by
  obtain ⟨tr, pt, h_obj, h_tx, h_cu, h_tr, h_ac, h_sl, h_kp, h_pt, h_sh⟩ := H
  exact ⟨tr, pt2, (by rw [hout 2 (by omega)]; exact h_obj), (h_tx.kept fun a q1 q2 => hout a (by omega)), (h_cu.kept fun a q1 q2 => hout a (by omega)), (h_tr.kept fun a q1 q2 => hout a (by omega)), (h_ac.kept fun a q1 q2 => hout a (by omega)), (h_sl.kept fun a q1 q2 => hout a (by omega)), (h_kp.kept fun a q1 q2 => hout a (by omega)), hN, (h_sh.kept fun a q1 q2 => hout a (by omega))⟩
theorem cls.sh {h h' : Hp} {T : Tx} {K : Cn} {sz nx : Nat} {W sl : Nat → Cn} {kp : Nat → Int32} {seed : Int64}  (H : cls h T K sz nx W sl kp seed) (hout : ∀ a, (a < 143 ∨ 152 ≤ a) → h' a = h a) (hN : shAt h') : cls h' T K sz nx W sl kp seed := by
  obtain ⟨tr, pt, h_obj, h_tx, h_cu, h_tr, h_ac, h_sl, h_kp, h_pt, h_sh⟩ := H
  exact ⟨tr, pt, (by rw [hout 2 (by omega)]; exact h_obj), (h_tx.kept fun a q1 q2 => hout a (by omega)), (h_cu.kept fun a q1 q2 => hout a (by omega)), (h_tr.kept fun a q1 q2 => hout a (by omega)), (h_ac.kept fun a q1 q2 => hout a (by omega)), (h_sl.kept fun a q1 q2 => hout a (by omega)), (h_kp.kept fun a q1 q2 => hout a (by omega)), (h_pt.kept fun a q1 q2 => hout a (by omega)), hN⟩
/-- a public method: its answer, the state behind it; all else stays -/
def PU (M : MD) (d : Nat) (A : List Value) (h : Hp) (r : Value) (S : Hp → Prop) : Prop := ∀ z, Cal M d 0 0 A h z (fun v h' z' => v = some r ∧ z' = z ∧ S h' ∧ ∀ a, (a < 2 ∨ 152 ≤ a) → h' a = h a)
theorem PU_of {h h1 h' : Hp} {z z' : Nat} {v : Option Value} {r : Value} {S : Hp → Prop} (hv : v = some r) (hz : z' = z) (hh : h' = h1) (hS : S h1) (ho : ∀ a, (a < 2 ∨ 152 ≤ a) → h1 a = h a) : v = some r ∧ z' = z ∧ S h' ∧ ∀ a, (a < 2 ∨ 152 ≤ a) → h' a = h a := ⟨hv, hz, by rw [hh]; exact hS, by rw [hh]; exact ho⟩
end
section
/-! the class's public methods but those that look ahead -/
theorem nI_of1 {x : Int32} {lo hi : Nat} (h1 : ¬ x < nI lo) (h2 : x ≤ nI hi) (hh : hi < 2 ^ 31) (hl : lo < 2 ^ 31) : ∃ m, lo ≤ m ∧ m ≤ hi ∧ x = nI m := by
  obtain ⟨j, hj, rfl⟩ := nI_of (x := x) (fun q => h1 (Int32.lt_of_lt_of_le q (nI_pos' hl)))
  exact ⟨j, Nat.not_lt.mp fun q => h1 ((nI_ltI hj hl).mpr q), (nI_leI hj hh).mp h2, rfl⟩
theorem c6_write_no {h : Hp} {T : Tx} {K : Cn} {sz nx : Nat} {W sl : Nat → Cn} {kp : Nat → Int32} {seed : Int64} (H : cls h T K sz nx W sl kp seed) (n : Int32) (v : Int64) (hn : n < 1 ∨ 8 < n) : PU MX6_write 4 [.ref 2, .int n, .long v] h (.int (-2)) (fun h' => h' = h) := by
  intro z
  refine Cal_of_R (by decide +kernel) (L := [.ref 2, .int n, .long v, .null]) rfl (Nat.le_of_ble_eq_true rfl) ?_
  rcases hn with hn | hn
  · refine r_iload iX6_write_0 rfl ?_
    refine r_iconst (v := 1) iX6_write_1 rfl ?_
    refine r_icmp_lt iX6_write_2 (fun _ => ?_) (fun g9 => absurd (hn) g9)
    refine r_bipush (v := (-2)) iX6_write_11 rfl ?_
    refine r_iret iX6_write_13 rfl ?_
    exact ⟨rfl, rfl, rfl, fun _ _ => rfl⟩
  · have hn1 : ¬ n < 1 := fun q => Int32.lt_irrefl (Int32.lt_trans q (Int32.lt_trans (by decide) hn))
    refine r_iload iX6_write_0 rfl ?_
    refine r_iconst (v := 1) iX6_write_1 rfl ?_
    refine r_icmp_lt iX6_write_2 (fun g9 => absurd g9 (hn1)) (fun _ => ?_)
    refine r_iload iX6_write_5 rfl ?_
    refine r_bipush (v := 8) iX6_write_6 rfl ?_
    refine r_icmp_le iX6_write_8 (fun g9 => absurd g9 (Int32.not_le.mpr hn)) (fun _ => ?_)
    refine r_bipush (v := (-2)) iX6_write_11 rfl ?_
    refine r_iret iX6_write_13 rfl ?_
    exact ⟨rfl, rfl, rfl, fun _ _ => rfl⟩
theorem c6_write_full {h : Hp} {l : Nat} {B : Nat → Int32} {K : Cn} {sz nx : Nat} {W sl : Nat → Cn} {kp : Nat → Int32} {seed : Int64} (H : cls h (l, B) K sz nx W sl kp seed) (hl : l ≤ 16) (n : Nat) (v : Int64) (h1 : 1 ≤ n) (h8 : n ≤ 8) (hf : 16 < l + n) : PU MX6_write 4 [.ref 2, .int (nI n), .long v] h (.int (-4)) (fun h' => h' = h) := by
  obtain ⟨tr, pt, h_obj, h_tx, h_cu, h_tr, h_ac, h_sl, h_kp, h_pt, h_sh⟩ := id H
  intro z
  refine Cal_of_R (by decide +kernel) (L := [.ref 2, .int (nI n), .long v, .null]) rfl (Nat.le_of_ble_eq_true rfl) ?_
  refine r_iload iX6_write_0 rfl ?_
  refine r_iconst (v := 1) iX6_write_1 rfl ?_
  refine r_icmp_lt iX6_write_2 (fun g9 => absurd g9 (nI_nlt (b := 1) h1 (by omega))) (fun _ => ?_)
  refine r_iload iX6_write_5 rfl ?_
  refine r_bipush (v := 8) iX6_write_6 rfl ?_
  refine r_icmp_le iX6_write_8 (fun _ => ?_) (fun g9 => absurd (nI_le (b := 8) h8 (by omega)) g9)
  refine r_aload iX6_write_14 rfl ?_
  refine r_getfield iX6_write_15 (flX6_12 _ rfl) h_obj rfl ?_
  refine r_getfield iX6_write_18 (flX6_59 _ rfl) h_tx.1 rfl ?_
  refine r_iload iX6_write_21 rfl ?_
  refine r_iadd iX6_write_22 ?_
  rw [nI_add]
  refine r_bipush (v := 16) iX6_write_23 rfl ?_
  refine r_icmp_le iX6_write_25 (fun g9 => absurd g9 (nI_ge (a := 16) hf (by omega))) (fun _ => ?_)
  refine r_bipush (v := (-4)) iX6_write_28 rfl ?_
  refine r_iret iX6_write_30 rfl ?_
  exact ⟨rfl, rfl, rfl, fun _ _ => rfl⟩
theorem app_len (v : Int64) : ∀ (n : Nat) (T : Tx), (app v n T).1 = T.1 + n
  | 0, T => rfl
  | n + 1, T => by rw [app, app_len v n]; show T.1 + 1 + n = _; omega
theorem c6_write_ok {h : Hp} {l : Nat} {B : Nat → Int32} {K : Cn} {sz nx : Nat} {W sl : Nat → Cn} {kp : Nat → Int32} {seed : Int64} (H : cls h (l, B) K sz nx W sl kp seed) (n : Nat) (v : Int64) (h1 : 1 ≤ n) (h8 : n ≤ 8) (hf : l + n ≤ 16) : PU MX6_write 4 [.ref 2, .int (nI n), .long v] h (.int (nI (l + n))) (fun h' => cls h' (app v n (l, B)) K sz nx W sl kp seed) := by
  obtain ⟨tr, pt, h_obj, h_tx, h_cu, h_tr, h_ac, h_sl, h_kp, h_pt, h_sh⟩ := id H
  intro z
  have e0 : ∀ T, tOv h 3 T 2 = some (.inr (5, [.ref 3, .ref 5, .ref 11, .ref 17, .ref 115, .ref 128, .ref 129, .ref 143, .long seed])) := fun T => (tOv_out h 3 T (by omega)).trans h_obj
  have P := c4_append h 3 (by omega) l B n h8 hf v
  rw [h_tx.ov] at P
  refine Cal_of_R (by decide +kernel) (L := [.ref 2, .int (nI n), .long v, .null]) rfl (Nat.le_of_ble_eq_true rfl) ?_
  refine r_iload iX6_write_0 rfl ?_
  refine r_iconst (v := 1) iX6_write_1 rfl ?_
  refine r_icmp_lt iX6_write_2 (fun g9 => absurd g9 (nI_nlt (b := 1) h1 (by omega))) (fun _ => ?_)
  refine r_iload iX6_write_5 rfl ?_
  refine r_bipush (v := 8) iX6_write_6 rfl ?_
  refine r_icmp_le iX6_write_8 (fun _ => ?_) (fun g9 => absurd (nI_le (b := 8) h8 (by omega)) g9)
  refine r_aload iX6_write_14 rfl ?_
  refine r_getfield iX6_write_15 (flX6_12 _ rfl) h_obj rfl ?_
  refine r_getfield iX6_write_18 (flX6_59 _ rfl) h_tx.1 rfl ?_
  refine r_iload iX6_write_21 rfl ?_
  refine r_iadd iX6_write_22 ?_
  rw [nI_add]
  refine r_bipush (v := 16) iX6_write_23 rfl ?_
  refine r_icmp_le iX6_write_25 (fun _ => ?_) (fun g9 => absurd (nI_le (b := 16) hf (by omega)) g9)
  refine r_aload iX6_write_31 rfl ?_
  refine r_getfield iX6_write_32 (flX6_12 _ rfl) h_obj rfl ?_
  refine r_iload iX6_write_35 rfl ?_
  refine r_lload iX6_write_36 rfl ?_
  refine r_callV iX6_write_37 (cX6_63 _ rfl) (P _) (by omega) (h_tx.1) rfl rfl rfl (Nat.le_of_ble_eq_true rfl) (Nat.le_of_ble_eq_true rfl) (Nat.le_of_ble_eq_true rfl) ?_
  rintro v' h' z' ⟨rfl, rfl, rfl⟩
  refine r_aload iX6_write_40 rfl ?_
  refine r_getfield iX6_write_41 (flX6_12 _ rfl) (e0 _) rfl ?_
  refine r_getfield iX6_write_44 (flX6_59 _ rfl) (tOv_obj _ _ _) rfl ?_
  refine r_iret iX6_write_47 rfl ?_
  exact ⟨by rw [app_len], rfl, H.tx (fun a ha => tOv_out _ _ _ (by omega)) (tAt_ov _ _ _), fun a ha => tOv_out _ _ _ (by omega)⟩
theorem c6_wipe {h : Hp} {l : Nat} {B : Nat → Int32} {K : Cn} {sz nx : Nat} {W sl : Nat → Cn} {kp : Nat → Int32} {seed : Int64} (H : cls h (l, B) K sz nx W sl kp seed) : PU MX6_wipe 4 [.ref 2] h (.int (nI l)) (fun h' => cls h' (0, B) K sz nx W sl kp seed) := by
  obtain ⟨tr, pt, h_obj, h_tx, h_cu, h_tr, h_ac, h_sl, h_kp, h_pt, h_sh⟩ := id H
  intro z
  refine Cal_of_R (by decide +kernel) (L := [.ref 2, .null]) rfl (Nat.le_of_ble_eq_true rfl) ?_
  refine r_aload iX6_wipe_0 rfl ?_
  refine r_getfield iX6_wipe_1 (flX6_12 _ rfl) h_obj rfl ?_
  refine r_getfield iX6_wipe_4 (flX6_59 _ rfl) h_tx.1 rfl ?_
  refine r_istore_1 iX6_wipe_7 rfl ?_
  refine r_aload iX6_wipe_8 rfl ?_
  refine r_getfield iX6_wipe_9 (flX6_12 _ rfl) h_obj rfl ?_
  refine r_iconst (v := 0) iX6_wipe_12 rfl ?_
  refine R_heap h_tx.ov.symm ?_
  refine r_tlength (l' := 0) iX6_wipe_13 (fpX6_59 _ rfl) (by omega) ?_
  refine r_iload iX6_wipe_16 rfl ?_
  refine r_iret iX6_wipe_17 rfl ?_
  exact ⟨rfl, rfl, H.tx (fun a ha => tOv_out _ _ _ (by omega)) (tAt_ov _ _ _), fun a ha => tOv_out _ _ _ (by omega)⟩
theorem c6_fault {h : Hp} {l : Nat} {B : Nat → Int32} {K : Cn} {sz nx : Nat} {W sl : Nat → Cn} {kp : Nat → Int32} {seed : Int64} (H : cls h (l, B) K sz nx W sl kp seed) (hl : l ≤ 16) : PU MX6_fault 4 [.ref 2] h (.int (flt l B)) (fun h' => h' = h) := by
  obtain ⟨tr, pt, h_obj, h_tx, h_cu, h_tr, h_ac, h_sl, h_kp, h_pt, h_sh⟩ := id H
  intro z
  refine Cal_of_R (by decide +kernel) (L := [.ref 2]) rfl (Nat.le_of_ble_eq_true rfl) ?_
  refine r_aload iX6_fault_0 rfl ?_
  refine r_getfield iX6_fault_1 (flX6_12 _ rfl) h_obj rfl ?_
  refine r_callV iX6_fault_4 (cX6_67 _ rfl) (Fn_t h_tx (c4_firstFault h 3 l hl B) _) (by omega) (h_tx.1) rfl rfl rfl (Nat.le_of_ble_eq_true rfl) (Nat.le_of_ble_eq_true rfl) (Nat.le_of_ble_eq_true rfl) ?_
  rintro v' h' z' ⟨rfl, qh, rfl⟩
  rw [qh]
  refine r_iret iX6_fault_7 rfl ?_
  exact ⟨rfl, rfl, rfl, fun _ _ => rfl⟩
theorem c6_field_no {h : Hp} {l : Nat} {B : Nat → Int32} {K : Cn} {sz nx : Nat} {W sl : Nat → Cn} {kp : Nat → Int32} {seed : Int64} (H : cls h (l, B) K sz nx W sl kp seed) (hl : l ≤ 16) (hf : flt l B ≠ -9) : PU MX6_field 4 [.ref 2] h (.int (-3)) (fun h' => h' = h) := by
  obtain ⟨tr, pt, h_obj, h_tx, h_cu, h_tr, h_ac, h_sl, h_kp, h_pt, h_sh⟩ := id H
  intro z
  refine Cal_of_R (by decide +kernel) (L := [.ref 2, .null]) rfl (Nat.le_of_ble_eq_true rfl) ?_
  refine r_aload iX6_field_0 rfl ?_
  refine r_getfield iX6_field_1 (flX6_12 _ rfl) h_obj rfl ?_
  refine r_callV iX6_field_4 (cX6_67 _ rfl) (Fn_t h_tx (c4_firstFault h 3 l hl B) _) (by omega) (h_tx.1) rfl rfl rfl (Nat.le_of_ble_eq_true rfl) (Nat.le_of_ble_eq_true rfl) (Nat.le_of_ble_eq_true rfl) ?_
  rintro v' h' z' ⟨rfl, qh, rfl⟩
  rw [qh]
  refine r_bipush (v := (-9)) iX6_field_7 rfl ?_
  refine r_icmp_eq iX6_field_9 (fun g9 => absurd g9 (hf)) (fun _ => ?_)
  refine r_bipush (v := (-3)) iX6_field_12 rfl ?_
  refine r_iret iX6_field_14 rfl ?_
  exact ⟨rfl, rfl, rfl, fun _ _ => rfl⟩
theorem c6_field {h : Hp} {n : Nat} {B : Nat → Int32} {K : Cn} {sz nx : Nat} {W sl : Nat → Cn} {kp : Nat → Int32} {seed : Int64} (hn : n ≤ 4) (H : cls h (3 * n + 2, B) K sz nx W sl kp seed) (hf : flt (3 * n + 2) B = -9) : PU MX6_field 4 [.ref 2] h (.int (nI n)) (fun h' => cls h' (3 * n + 2, B) (startC B n K.2.2.2) 0 0 W sl (upd (upd kp 0 0) 1 0) seed) := by
  obtain ⟨tr, pt, h_obj, h_tx, h_cu, h_tr, h_ac, h_sl, h_kp, h_pt, h_sh⟩ := id H
  intro z
  have P := c2_startFrom h 5 3 (by omega) hn K B (by omega) h_tx
  rw [h_cu.ov] at P
  have H1 : cls (cOv h 5 (startC B n K.2.2.2)) (3 * n + 2, B) (startC B n K.2.2.2) sz nx W sl kp seed := H.cu (fun a ha => cOv_out _ _ _ (by omega)) (conAt_cOv _ _ _)
  have o1 : ∀ a, (a < 2 ∨ 152 ≤ a) → cOv h 5 (startC B n K.2.2.2) a = h a := fun a ha => cOv_out _ _ _ (by omega)
  generalize hh1 : cOv h 5 (startC B n K.2.2.2) = h1 at P H1 o1
  obtain ⟨tr1, pt1, g_obj, g_tx, g_cu, g_tr, g_ac, g_sl, g_kp, g_pt, g_sh⟩ := id H1
  have P2 := c0_forget h1 (a := 17) (by omega) 18 (nI sz) (nI nx)
  rw [hset_self g_ac.1] at P2
  have H2 : cls (hset h1 17 (.inr (0, [.ref 18, .int 0, .int 0]))) (3 * n + 2, B) (startC B n K.2.2.2) 0 0 W sl kp seed := H1.ac (fun a ha => hset_ne _ _ (by omega)) ⟨hset_eq _ _ _, by rw [hset_ne _ _ (by omega)]; exact g_ac.2.1, fun j hj => (g_ac.2.2 j hj).kept fun x q1 q2 => hset_ne _ _ (by omega)⟩
  have o2 : ∀ a, (a < 2 ∨ 152 ≤ a) → hset h1 17 (.inr (0, [.ref 18, .int 0, .int 0])) a = h a := fun a ha => (hset_ne _ _ (by omega)).trans (o1 a ha)
  generalize hh2 : hset h1 17 (.inr (0, [.ref 18, .int 0, .int 0])) = h2 at P2 H2 o2
  obtain ⟨tr2, pt2, k_obj, k_tx, k_cu, k_tr, k_ac, k_sl, k_kp, k_pt, k_sh⟩ := id H2
  refine Cal_of_R (by decide +kernel) (L := [.ref 2, .null]) rfl (Nat.le_of_ble_eq_true rfl) ?_
  refine r_aload iX6_field_0 rfl ?_
  refine r_getfield iX6_field_1 (flX6_12 _ rfl) h_obj rfl ?_
  refine r_callV iX6_field_4 (cX6_67 _ rfl) (Fn_t h_tx (c4_firstFault h 3 _ (by omega) B) _) (by omega) (h_tx.1) rfl rfl rfl (Nat.le_of_ble_eq_true rfl) (Nat.le_of_ble_eq_true rfl) (Nat.le_of_ble_eq_true rfl) ?_
  rintro v' h' z' ⟨rfl, qh, rfl⟩
  rw [qh]
  refine r_bipush (v := (-9)) iX6_field_7 rfl ?_
  refine r_icmp_eq iX6_field_9 (fun _ => ?_) (fun g9 => absurd (hf) g9)
  refine r_aload iX6_field_15 rfl ?_
  refine r_getfield iX6_field_16 (flX6_19 _ rfl) h_obj rfl ?_
  refine r_aload iX6_field_19 rfl ?_
  refine r_getfield iX6_field_20 (flX6_12 _ rfl) h_obj rfl ?_
  refine r_callV iX6_field_23 (cX6_71 _ rfl) (P _) (by omega) (h_cu.1) rfl rfl rfl (Nat.le_of_ble_eq_true rfl) (Nat.le_of_ble_eq_true rfl) (Nat.le_of_ble_eq_true rfl) ?_
  rintro v' h' z' ⟨rfl, qh, rfl⟩
  rw [qh]
  refine r_aload iX6_field_26 rfl ?_
  refine r_getfield iX6_field_27 (flX6_29 _ rfl) (g_obj) rfl ?_
  refine r_callV iX6_field_30 (cX6_75 _ rfl) (P2 _) (by omega) (g_ac.1) rfl rfl rfl (Nat.le_of_ble_eq_true rfl) (Nat.le_of_ble_eq_true rfl) (Nat.le_of_ble_eq_true rfl) ?_
  rintro v' h' z' ⟨rfl, qh, rfl⟩
  rw [qh]
  have st : ∀ (hh : Hp) (kk : Nat → Int32) (j : Nat), j < 2 → cls hh (3 * n + 2, B) (startC B n K.2.2.2) 0 0 W sl kk seed → (∀ a, (a < 2 ∨ 152 ≤ a) → hh a = h a) → ∀ z, (∀ hh2 : Hp, cls hh2 (3 * n + 2, B) (startC B n K.2.2.2) 0 0 W sl (upd kk j 0) seed → (∀ a, (a < 2 ∨ 152 ≤ a) → hh2 a = h a) → R MX6_field 4 0 0 (fun v h' z' => v = some (.int (nI n)) ∧ z' = z ∧ (cls h' (3 * n + 2, B) (startC B n K.2.2.2) 0 0 W sl (upd (upd kp 0 0) 1 0) seed) ∧ ∀ a, (a < 2 ∨ 152 ≤ a) → h' a = h a) 35 [.ref 2, .int (nI (j + 1))] [] hh2 z 0 0) → R MX6_field 4 0 0 (fun v h' z' => v = some (.int (nI n)) ∧ z' = z ∧ (cls h' (3 * n + 2, B) (startC B n K.2.2.2) 0 0 W sl (upd (upd kp 0 0) 1 0) seed) ∧ ∀ a, (a < 2 ∨ 152 ≤ a) → h' a = h a) 35 [.ref 2, .int (nI j)] [] hh z 0 0 := by
    intro hh kk j hj HH ho z K9
    obtain ⟨tr3, pt3, l_obj, l_tx, l_cu, l_tr, l_ac, l_sl, l_kp, l_pt, l_sh⟩ := id HH
    refine r_iload iX6_field_35 rfl ?_
    refine r_iconst (v := 2) iX6_field_36 rfl ?_
    refine r_icmp_ge iX6_field_37 (fun g9 => absurd g9 (nI_ge (b := 2) hj (by omega))) (fun _ => ?_)
    refine r_aload iX6_field_40 rfl ?_
    refine r_getfield iX6_field_41 (flX6_37 _ rfl) (l_obj) rfl ?_
    refine r_iload iX6_field_44 rfl ?_
    refine r_iconst (v := 0) iX6_field_45 rfl ?_
    refine r_bastore iX6_field_46 (by omega) (l_kp) (vp_in_nI hj (by decide)) (Or.inl rfl) ?_
    rw [updV_int, nI_clamp (by omega)]
    refine r_iinc_1 iX6_field_47 (by first | exact nI_inc _ | rfl) rfl ?_
    refine r_goto iX6_field_50 ?_
    exact K9 _ (HH.kp (fun a ha => hset_ne _ _ (by omega)) (hset_eq _ _ _)) (fun a ha => (hset_ne _ _ (by omega)).trans (ho a ha))
  refine r_iconst (v := 0) iX6_field_33 rfl ?_
  refine r_istore_1 iX6_field_34 rfl ?_
  refine st _ kp 0 (by omega) H2 o2 _ fun h3 H3 o3 => st _ _ 1 (by omega) H3 o3 _ fun h4 H4 o4 => ?_
  obtain ⟨tr3, pt3, l_obj, l_tx, l_cu, l_tr, l_ac, l_sl, l_kp, l_pt, l_sh⟩ := id H4
  refine r_iload iX6_field_35 rfl ?_
  refine r_iconst (v := 2) iX6_field_36 rfl ?_
  refine r_icmp_ge iX6_field_37 (fun _ => ?_) (fun g9 => absurd (nI_le (a := 2) (b := 1 + 1) (by omega) (by omega)) g9)
  refine r_aload iX6_field_53 rfl ?_
  refine r_getfield iX6_field_54 (flX6_19 _ rfl) (l_obj) rfl ?_
  refine r_getfield iX6_field_57 (flX6_78 _ rfl) (l_cu.1) rfl ?_
  refine r_iret iX6_field_60 rfl ?_
  exact ⟨rfl, rfl, H4, o4⟩
end
section
theorem i_no {n : Nat} {x : Int32} (hx : ¬ (0 ≤ x ∧ x < nI n)) : (if 0 ≤ x ∧ x < nI n then (1 : Int32) else 0) = 0 := if_neg hx
theorem c6_thrower_unk {h : Hp} {T : Tx} {n : Nat} {b u : Int32} {t : Nat → Nat → Int32} {sz nx : Nat} {W sl : Nat → Cn} {kp : Nat → Int32} {seed : Int64} (hn : n ≤ 4) (H : cls h T (n, b, u, t) sz nx W sl kp seed) (x w : Int32) (hx : ¬ (0 ≤ x ∧ x < nI n)) : PU MX6_thrower 4 [.ref 2, .int x, .int w] h (.int (-1)) (fun h' => h' = h) := by
  obtain ⟨tr, pt, h_obj, h_tx, h_cu, h_tr, h_ac, h_sl, h_kp, h_pt, h_sh⟩ := id H
  intro z
  refine Cal_of_R (by decide +kernel) (L := [.ref 2, .int x, .int w]) rfl (Nat.le_of_ble_eq_true rfl) ?_
  refine r_aload iX6_thrower_0 rfl ?_
  refine r_getfield iX6_thrower_1 (flX6_19 _ rfl) h_obj rfl ?_
  refine r_iload iX6_thrower_4 rfl ?_
  refine r_callV iX6_thrower_5 (cX6_81 _ rfl) (Fn_con h_cu (c2_knows h 5 hn b u t x) _) (by omega) (h_cu.1) rfl rfl rfl (Nat.le_of_ble_eq_true rfl) (Nat.le_of_ble_eq_true rfl) (Nat.le_of_ble_eq_true rfl) ?_
  rintro v' h' z' ⟨rfl, qh, rfl⟩
  rw [qh, i_no hx]
  refine r_if_ne iX6_thrower_8 (fun g9 => absurd (rfl) g9) (fun _ => ?_)
  refine r_iconst (v := (-1)) iX6_thrower_11 rfl ?_
  refine r_iret iX6_thrower_12 rfl ?_
  exact ⟨rfl, rfl, rfl, fun _ _ => rfl⟩
theorem c6_thrower_out {h : Hp} {T : Tx} {n : Nat} {b u : Int32} {t : Nat → Nat → Int32} {sz nx : Nat} {W sl : Nat → Cn} {kp : Nat → Int32} {seed : Int64} (hn : n ≤ 4) (H : cls h T (n, b, u, t) sz nx W sl kp seed) {i : Nat} (hi : i < n) (w : Int32) (hw : w < 0 ∨ 8 < w) : PU MX6_thrower 4 [.ref 2, .int (nI i), .int w] h (.int (-2)) (fun h' => h' = h) := by
  obtain ⟨tr, pt, h_obj, h_tx, h_cu, h_tr, h_ac, h_sl, h_kp, h_pt, h_sh⟩ := id H
  intro z
  refine Cal_of_R (by decide +kernel) (L := [.ref 2, .int (nI i), .int w]) rfl (Nat.le_of_ble_eq_true rfl) ?_
  refine r_aload iX6_thrower_0 rfl ?_
  refine r_getfield iX6_thrower_1 (flX6_19 _ rfl) h_obj rfl ?_
  refine r_iload iX6_thrower_4 rfl ?_
  refine r_callV iX6_thrower_5 (cX6_81 _ rfl) (Fn_con h_cu (c2_knows h 5 hn b u t _) _) (by omega) (h_cu.1) rfl rfl rfl (Nat.le_of_ble_eq_true rfl) (Nat.le_of_ble_eq_true rfl) (Nat.le_of_ble_eq_true rfl) ?_
  rintro v' h' z' ⟨rfl, qh, rfl⟩
  rw [qh, i_ks hn hi]
  rcases hw with hw | hw
  · refine r_if_ne iX6_thrower_8 (fun _ => ?_) (fun g9 => absurd g9 (by decide))
    refine r_iload iX6_thrower_13 rfl ?_
    refine r_if_lt iX6_thrower_14 (fun _ => ?_) (fun g9 => absurd (hw) g9)
    refine r_bipush (v := (-2)) iX6_thrower_23 rfl ?_
    refine r_iret iX6_thrower_25 rfl ?_
    exact ⟨rfl, rfl, rfl, fun _ _ => rfl⟩
  · have hw1 : ¬ w < 0 := fun q => Int32.lt_irrefl (Int32.lt_trans q (Int32.lt_trans (by decide) hw))
    refine r_if_ne iX6_thrower_8 (fun _ => ?_) (fun g9 => absurd g9 (by decide))
    refine r_iload iX6_thrower_13 rfl ?_
    refine r_if_lt iX6_thrower_14 (fun g9 => absurd g9 (hw1)) (fun _ => ?_)
    refine r_iload iX6_thrower_17 rfl ?_
    refine r_bipush (v := 8) iX6_thrower_18 rfl ?_
    refine r_icmp_le iX6_thrower_20 (fun g9 => absurd g9 (Int32.not_le.mpr hw)) (fun _ => ?_)
    refine r_bipush (v := (-2)) iX6_thrower_23 rfl ?_
    refine r_iret iX6_thrower_25 rfl ?_
    exact ⟨rfl, rfl, rfl, fun _ _ => rfl⟩
theorem c6_thrower {h : Hp} {T : Tx} {n : Nat} {b u : Int32} {t : Nat → Nat → Int32} {sz nx : Nat} {W sl : Nat → Cn} {kp : Nat → Int32} {seed : Int64} (hn : n ≤ 4) (H : cls h T (n, b, u, t) sz nx W sl kp seed) {i : Nat} (hi : i < n) {w : Nat} (hw : w < 9) : PU MX6_thrower 4 [.ref 2, .int (nI i), .int (nI w)] h (.int (t i w)) (fun h' => h' = h) := by
  obtain ⟨tr, pt, h_obj, h_tx, h_cu, h_tr, h_ac, h_sl, h_kp, h_pt, h_sh⟩ := id H
  intro z
  refine Cal_of_R (by decide +kernel) (L := [.ref 2, .int (nI i), .int (nI w)]) rfl (Nat.le_of_ble_eq_true rfl) ?_
  refine r_aload iX6_thrower_0 rfl ?_
  refine r_getfield iX6_thrower_1 (flX6_19 _ rfl) h_obj rfl ?_
  refine r_iload iX6_thrower_4 rfl ?_
  refine r_callV iX6_thrower_5 (cX6_81 _ rfl) (Fn_con h_cu (c2_knows h 5 hn b u t _) _) (by omega) (h_cu.1) rfl rfl rfl (Nat.le_of_ble_eq_true rfl) (Nat.le_of_ble_eq_true rfl) (Nat.le_of_ble_eq_true rfl) ?_
  rintro v' h' z' ⟨rfl, qh, rfl⟩
  rw [qh, i_ks hn hi]
  refine r_if_ne iX6_thrower_8 (fun _ => ?_) (fun g9 => absurd g9 (by decide))
  refine r_iload iX6_thrower_13 rfl ?_
  refine r_if_lt iX6_thrower_14 (fun g9 => absurd g9 (nI_pos (by omega))) (fun _ => ?_)
  refine r_iload iX6_thrower_17 rfl ?_
  refine r_bipush (v := 8) iX6_thrower_18 rfl ?_
  refine r_icmp_le iX6_thrower_20 (fun _ => ?_) (fun g9 => absurd (nI_le (b := 8) (by omega) (by omega)) g9)
  refine r_aload iX6_thrower_26 rfl ?_
  refine r_getfield iX6_thrower_27 (flX6_19 _ rfl) (h_obj) rfl ?_
  refine r_getfield iX6_thrower_30 (flX6_85 _ rfl) (h_cu.1) rfl ?_
  refine r_iload iX6_thrower_33 rfl ?_
  refine r_aaload iX6_thrower_34 rfl (h_cu.2.1) (in4 (by omega)) (thr_ix 5 (by omega)) ?_
  refine r_iload iX6_thrower_35 rfl ?_
  refine r_callV iX6_thrower_36 (cX6_88 _ rfl) (c5_told h (t i) (h_cu.2.2 i (by omega)) w hw _) (by omega) (h_cu.2.2 i (by omega)) rfl rfl rfl (Nat.le_of_ble_eq_true rfl) (Nat.le_of_ble_eq_true rfl) (Nat.le_of_ble_eq_true rfl) ?_
  rintro v' h' z' ⟨rfl, qh, rfl⟩
  rw [qh]
  refine r_iret iX6_thrower_39 rfl ?_
  exact ⟨rfl, rfl, rfl, fun _ _ => rfl⟩
theorem c6_on {h : Hp} {T : Tx} {n : Nat} {b u : Int32} {t : Nat → Nat → Int32} {sz nx : Nat} {W sl : Nat → Cn} {kp : Nat → Int32} {seed : Int64} (H : cls h T (n, b, u, t) sz nx W sl kp seed) : PU MX6_on 4 [.ref 2] h (.int u) (fun h' => h' = h) := by
  obtain ⟨tr, pt, h_obj, h_tx, h_cu, h_tr, h_ac, h_sl, h_kp, h_pt, h_sh⟩ := id H
  intro z
  refine Cal_of_R (by decide +kernel) (L := [.ref 2]) rfl (Nat.le_of_ble_eq_true rfl) ?_
  refine r_aload iX6_on_0 rfl ?_
  refine r_getfield iX6_on_1 (flX6_19 _ rfl) h_obj rfl ?_
  refine r_getfield iX6_on_4 (flX6_92 _ rfl) (h_cu.1) rfl ?_
  refine r_iret iX6_on_7 rfl ?_
  exact ⟨rfl, rfl, rfl, fun _ _ => rfl⟩
theorem c6_rank_unk {h : Hp} {T : Tx} {n : Nat} {b u : Int32} {t : Nat → Nat → Int32} {sz nx : Nat} {W sl : Nat → Cn} {kp : Nat → Int32} {seed : Int64} (hn : n ≤ 4) (H : cls h T (n, b, u, t) sz nx W sl kp seed) (x : Int32) (hx : ¬ (0 ≤ x ∧ x < nI n)) : PU MX6_rank 4 [.ref 2, .int x] h (.int (-1)) (fun h' => h' = h) := by
  obtain ⟨tr, pt, h_obj, h_tx, h_cu, h_tr, h_ac, h_sl, h_kp, h_pt, h_sh⟩ := id H
  intro z
  refine Cal_of_R (by decide +kernel) (L := [.ref 2, .int x]) rfl (Nat.le_of_ble_eq_true rfl) ?_
  refine r_aload iX6_rank_0 rfl ?_
  refine r_getfield iX6_rank_1 (flX6_19 _ rfl) h_obj rfl ?_
  refine r_iload iX6_rank_4 rfl ?_
  refine r_callV iX6_rank_5 (cX6_81 _ rfl) (Fn_con h_cu (c2_knows h 5 hn b u t x) _) (by omega) (h_cu.1) rfl rfl rfl (Nat.le_of_ble_eq_true rfl) (Nat.le_of_ble_eq_true rfl) (Nat.le_of_ble_eq_true rfl) ?_
  rintro v' h' z' ⟨rfl, qh, rfl⟩
  rw [qh, i_no hx]
  refine r_if_ne iX6_rank_8 (fun g9 => absurd (rfl) g9) (fun _ => ?_)
  refine r_iconst (v := (-1)) iX6_rank_11 rfl ?_
  refine r_iret iX6_rank_12 rfl ?_
  exact ⟨rfl, rfl, rfl, fun _ _ => rfl⟩
theorem c6_rank {h : Hp} {T : Tx} {n : Nat} {b u : Int32} {t : Nat → Nat → Int32} {sz nx : Nat} {W sl : Nat → Cn} {kp : Nat → Int32} {seed : Int64} (hn : n ≤ 4) (H : cls h T (n, b, u, t) sz nx W sl kp seed) {i : Nat} (hi : i < n) : PU MX6_rank 4 [.ref 2, .int (nI i)] h (.int (nI (cnt (fun j => kBetter (t j) (t i)) n))) (fun h' => h' = h) := by
  obtain ⟨tr, pt, h_obj, h_tx, h_cu, h_tr, h_ac, h_sl, h_kp, h_pt, h_sh⟩ := id H
  intro z
  have P := c2_betterThan h 5 hn b u t (a := 5 + 2 + i) (k := t i) (cOv_thr _ _ _ (by omega))
  rw [h_cu.ov] at P
  refine Cal_of_R (by decide +kernel) (L := [.ref 2, .int (nI i)]) rfl (Nat.le_of_ble_eq_true rfl) ?_
  refine r_aload iX6_rank_0 rfl ?_
  refine r_getfield iX6_rank_1 (flX6_19 _ rfl) h_obj rfl ?_
  refine r_iload iX6_rank_4 rfl ?_
  refine r_callV iX6_rank_5 (cX6_81 _ rfl) (Fn_con h_cu (c2_knows h 5 hn b u t _) _) (by omega) (h_cu.1) rfl rfl rfl (Nat.le_of_ble_eq_true rfl) (Nat.le_of_ble_eq_true rfl) (Nat.le_of_ble_eq_true rfl) ?_
  rintro v' h' z' ⟨rfl, qh, rfl⟩
  rw [qh, i_ks hn hi]
  refine r_if_ne iX6_rank_8 (fun _ => ?_) (fun g9 => absurd g9 (by decide))
  refine r_aload iX6_rank_13 rfl ?_
  refine r_getfield iX6_rank_14 (flX6_19 _ rfl) h_obj rfl ?_
  refine r_aload iX6_rank_17 rfl ?_
  refine r_getfield iX6_rank_18 (flX6_19 _ rfl) h_obj rfl ?_
  refine r_getfield iX6_rank_21 (flX6_85 _ rfl) (h_cu.1) rfl ?_
  refine r_iload iX6_rank_24 rfl ?_
  refine r_aaload iX6_rank_25 rfl (h_cu.2.1) (in4 (by omega)) (thr_ix 5 (by omega)) ?_
  refine r_callV iX6_rank_26 (cX6_95 _ rfl) (P _) (by omega) (h_cu.1) rfl rfl rfl (Nat.le_of_ble_eq_true rfl) (Nat.le_of_ble_eq_true rfl) (Nat.le_of_ble_eq_true rfl) ?_
  rintro v' h' z' ⟨rfl, qh, rfl⟩
  rw [qh]
  refine r_iret iX6_rank_29 rfl ?_
  exact ⟨rfl, rfl, rfl, fun _ _ => rfl⟩
theorem c6_odds_unk {h : Hp} {T : Tx} {n : Nat} {b u : Int32} {t : Nat → Nat → Int32} {sz nx : Nat} {W sl : Nat → Cn} {kp : Nat → Int32} {seed : Int64} (hn : n ≤ 4) (H : cls h T (n, b, u, t) sz nx W sl kp seed) (x w : Int32) (hx : ¬ (0 ≤ x ∧ x < nI n)) : PU MX6_odds 4 [.ref 2, .int x, .int w] h (.int (-1)) (fun h' => h' = h) := by
  obtain ⟨tr, pt, h_obj, h_tx, h_cu, h_tr, h_ac, h_sl, h_kp, h_pt, h_sh⟩ := id H
  intro z
  refine Cal_of_R (by decide +kernel) (L := [.ref 2, .int x, .int w]) rfl (Nat.le_of_ble_eq_true rfl) ?_
  refine r_aload iX6_odds_0 rfl ?_
  refine r_getfield iX6_odds_1 (flX6_19 _ rfl) h_obj rfl ?_
  refine r_iload iX6_odds_4 rfl ?_
  refine r_callV iX6_odds_5 (cX6_81 _ rfl) (Fn_con h_cu (c2_knows h 5 hn b u t x) _) (by omega) (h_cu.1) rfl rfl rfl (Nat.le_of_ble_eq_true rfl) (Nat.le_of_ble_eq_true rfl) (Nat.le_of_ble_eq_true rfl) ?_
  rintro v' h' z' ⟨rfl, qh, rfl⟩
  rw [qh, i_no hx]
  refine r_if_ne iX6_odds_8 (fun g9 => absurd (rfl) g9) (fun _ => ?_)
  refine r_iconst (v := (-1)) iX6_odds_11 rfl ?_
  refine r_iret iX6_odds_12 rfl ?_
  exact ⟨rfl, rfl, rfl, fun _ _ => rfl⟩
theorem c6_odds_out {h : Hp} {T : Tx} {n : Nat} {b u : Int32} {t : Nat → Nat → Int32} {sz nx : Nat} {W sl : Nat → Cn} {kp : Nat → Int32} {seed : Int64} (hn : n ≤ 4) (H : cls h T (n, b, u, t) sz nx W sl kp seed) {i : Nat} (hi : i < n) (w : Int32) (hw : w < 0 ∨ 11 < w) : PU MX6_odds 4 [.ref 2, .int (nI i), .int w] h (.int (-2)) (fun h' => h' = h) := by
  obtain ⟨tr, pt, h_obj, h_tx, h_cu, h_tr, h_ac, h_sl, h_kp, h_pt, h_sh⟩ := id H
  intro z
  refine Cal_of_R (by decide +kernel) (L := [.ref 2, .int (nI i), .int w]) rfl (Nat.le_of_ble_eq_true rfl) ?_
  refine r_aload iX6_odds_0 rfl ?_
  refine r_getfield iX6_odds_1 (flX6_19 _ rfl) h_obj rfl ?_
  refine r_iload iX6_odds_4 rfl ?_
  refine r_callV iX6_odds_5 (cX6_81 _ rfl) (Fn_con h_cu (c2_knows h 5 hn b u t _) _) (by omega) (h_cu.1) rfl rfl rfl (Nat.le_of_ble_eq_true rfl) (Nat.le_of_ble_eq_true rfl) (Nat.le_of_ble_eq_true rfl) ?_
  rintro v' h' z' ⟨rfl, qh, rfl⟩
  rw [qh, i_ks hn hi]
  rcases hw with hw | hw
  · refine r_if_ne iX6_odds_8 (fun _ => ?_) (fun g9 => absurd g9 (by decide))
    refine r_iload iX6_odds_13 rfl ?_
    refine r_if_lt iX6_odds_14 (fun _ => ?_) (fun g9 => absurd (hw) g9)
    refine r_bipush (v := (-2)) iX6_odds_23 rfl ?_
    refine r_iret iX6_odds_25 rfl ?_
    exact ⟨rfl, rfl, rfl, fun _ _ => rfl⟩
  · have hw1 : ¬ w < 0 := fun q => Int32.lt_irrefl (Int32.lt_trans q (Int32.lt_trans (by decide) hw))
    refine r_if_ne iX6_odds_8 (fun _ => ?_) (fun g9 => absurd g9 (by decide))
    refine r_iload iX6_odds_13 rfl ?_
    refine r_if_lt iX6_odds_14 (fun g9 => absurd g9 (hw1)) (fun _ => ?_)
    refine r_iload iX6_odds_17 rfl ?_
    refine r_bipush (v := 11) iX6_odds_18 rfl ?_
    refine r_icmp_le iX6_odds_20 (fun g9 => absurd g9 (Int32.not_le.mpr hw)) (fun _ => ?_)
    refine r_bipush (v := (-2)) iX6_odds_23 rfl ?_
    refine r_iret iX6_odds_25 rfl ?_
    exact ⟨rfl, rfl, rfl, fun _ _ => rfl⟩
theorem c6_odds {h : Hp} {T : Tx} {n : Nat} {b u : Int32} {t : Nat → Nat → Int32} {sz nx : Nat} {W sl : Nat → Cn} {kp : Nat → Int32} {seed : Int64} (hn : n ≤ 4) (H : cls h T (n, b, u, t) sz nx W sl kp seed) {i : Nat} (hi : i < n) {w : Nat} (hw : w ≤ 11) : PU MX6_odds 4 [.ref 2, .int (nI i), .int (nI w)] h (.int (kOdds (t i) (nI w) 0)) (fun h' => h' = h) := by
  obtain ⟨tr, pt, h_obj, h_tx, h_cu, h_tr, h_ac, h_sl, h_kp, h_pt, h_sh⟩ := id H
  intro z
  refine Cal_of_R (by decide +kernel) (L := [.ref 2, .int (nI i), .int (nI w)]) rfl (Nat.le_of_ble_eq_true rfl) ?_
  refine r_aload iX6_odds_0 rfl ?_
  refine r_getfield iX6_odds_1 (flX6_19 _ rfl) h_obj rfl ?_
  refine r_iload iX6_odds_4 rfl ?_
  refine r_callV iX6_odds_5 (cX6_81 _ rfl) (Fn_con h_cu (c2_knows h 5 hn b u t _) _) (by omega) (h_cu.1) rfl rfl rfl (Nat.le_of_ble_eq_true rfl) (Nat.le_of_ble_eq_true rfl) (Nat.le_of_ble_eq_true rfl) ?_
  rintro v' h' z' ⟨rfl, qh, rfl⟩
  rw [qh, i_ks hn hi]
  refine r_if_ne iX6_odds_8 (fun _ => ?_) (fun g9 => absurd g9 (by decide))
  refine r_iload iX6_odds_13 rfl ?_
  refine r_if_lt iX6_odds_14 (fun g9 => absurd g9 (nI_pos (by omega))) (fun _ => ?_)
  refine r_iload iX6_odds_17 rfl ?_
  refine r_bipush (v := 11) iX6_odds_18 rfl ?_
  refine r_icmp_le iX6_odds_20 (fun _ => ?_) (fun g9 => absurd (nI_le (b := 11) (by omega) (by omega)) g9)
  refine r_aload iX6_odds_26 rfl ?_
  refine r_getfield iX6_odds_27 (flX6_19 _ rfl) h_obj rfl ?_
  refine r_getfield iX6_odds_30 (flX6_85 _ rfl) (h_cu.1) rfl ?_
  refine r_iload iX6_odds_33 rfl ?_
  refine r_aaload iX6_odds_34 rfl (h_cu.2.1) (in4 (by omega)) (thr_ix 5 (by omega)) ?_
  refine r_iload iX6_odds_35 rfl ?_
  refine r_iconst (v := 0) iX6_odds_36 rfl ?_
  refine r_callV iX6_odds_37 (cX6_99 _ rfl) (c5_oddsAt h (t i) (h_cu.2.2 i (by omega)) _ _ _) (by omega) (h_cu.2.2 i (by omega)) rfl rfl rfl (Nat.le_of_ble_eq_true rfl) (Nat.le_of_ble_eq_true rfl) (Nat.le_of_ble_eq_true rfl) ?_
  rintro v' h' z' ⟨rfl, qh, rfl⟩
  rw [qh]
  refine r_iret iX6_odds_40 rfl ?_
  exact ⟨rfl, rfl, rfl, fun _ _ => rfl⟩
theorem i_end {n : Nat} : (if 0 ≤ (-9 : Int32) ∧ (-9 : Int32) < nI n then (0 : Int32) else 1) = 1 := if_neg (fun q => absurd q.1 (by decide))
theorem i_go {n i : Nat} (hn : n ≤ 4) (hi : i < n) : (if 0 ≤ nI i ∧ nI i < nI n then (0 : Int32) else 1) = 0 := if_pos ⟨nI_pos' (by omega), nI_lt hi (by omega)⟩
theorem c6_act_no {h : Hp} {T : Tx} {n : Nat} {b : Int32} {t : Nat → Nat → Int32} {sz nx : Nat} {W sl : Nat → Cn} {kp : Nat → Int32} {seed : Int64} (hn : n ≤ 4) (H : cls h T (n, b, -9, t) sz nx W sl kp seed) (w : Int32) : PU MX6_act 4 [.ref 2, .int w] h (.int (-3)) (fun h' => h' = h) := by
  obtain ⟨tr, pt, h_obj, h_tx, h_cu, h_tr, h_ac, h_sl, h_kp, h_pt, h_sh⟩ := id H
  intro z
  refine Cal_of_R (by decide +kernel) (L := [.ref 2, .int w]) rfl (Nat.le_of_ble_eq_true rfl) ?_
  refine r_aload iX6_act_0 rfl ?_
  refine r_getfield iX6_act_1 (flX6_19 _ rfl) h_obj rfl ?_
  refine r_callV iX6_act_4 (cX6_106 _ rfl) (Fn_con h_cu (c2_isEnded h 5 hn b _ t) _) (by omega) (h_cu.1) rfl rfl rfl (Nat.le_of_ble_eq_true rfl) (Nat.le_of_ble_eq_true rfl) (Nat.le_of_ble_eq_true rfl) ?_
  rintro v' h' z' ⟨rfl, qh, rfl⟩
  rw [qh, i_end]
  refine r_if_eq iX6_act_7 (fun g9 => absurd g9 (by decide)) (fun _ => ?_)
  refine r_bipush (v := (-3)) iX6_act_10 rfl ?_
  refine r_iret iX6_act_12 rfl ?_
  exact ⟨rfl, rfl, rfl, fun _ _ => rfl⟩
theorem goOnC_n (n : Nat) (b : Int32) (i : Nat) (t : Nat → Nat → Int32) : (goOnC n b i t).1 = n := by unfold goOnC; split <;> rfl
theorem c6_act {h : Hp} {T : Tx} {n i : Nat} {b : Int32} {t : Nat → Nat → Int32} {sz nx : Nat} {W sl : Nat → Cn} {kp : Nat → Int32} {seed : Int64} (hn : n ≤ 4) (hi : i < n) (hsz : sz ≤ 16) (hnx : nx < 16) (H : cls h T (n, b, nI i, t) sz nx W sl kp seed) {w : Nat} (hw : w < 3) : PU MX6_act 4 [.ref 2, .int (nI w)] h (.int (actC n b i t w).2.2.1) (fun h' => cls h' T (actC n b i t w) (sz1 sz) (nx1 nx) (upW W nx (copyC (n, b, nI i, t) (W nx).2.2.2)) sl kp seed) := by
  obtain ⟨tr, pt, h_obj, h_tx, h_cu, h_tr, h_ac, h_sl, h_kp, h_pt, h_sh⟩ := id H
  intro z
  have P := c0_remember h 17 5 (by omega) hsz hnx (K := (n, b, nI i, t)) hn h_ac h_cu (by omega)
  have H1 : cls (remH h 17 sz nx W (n, b, nI i, t)) T (n, b, nI i, t) (sz1 sz) (nx1 nx) (upW W nx (copyC (n, b, nI i, t) (W nx).2.2.2)) sl kp seed := H.ac (fun a ha => remH_out hnx (by omega)) (remH_at _ hnx h_ac)
  have o1 : ∀ a, (a < 2 ∨ 152 ≤ a) → remH h 17 sz nx W (n, b, nI i, t) a = h a := fun a ha => remH_out hnx (by omega)
  generalize remH h 17 sz nx W (n, b, nI i, t) = h1 at P H1 o1
  obtain ⟨tr1, pt1, g_obj, g_tx, g_cu, g_tr, g_ac, g_sl, g_kp, g_pt, g_sh⟩ := id H1
  have P2 := c2_act h1 5 (by omega) hn hi hw b t
  rw [g_cu.ov] at P2
  have H2 : cls (cOv h1 5 (actC n b i t w)) T (actC n b i t w) (sz1 sz) (nx1 nx) (upW W nx (copyC (n, b, nI i, t) (W nx).2.2.2)) sl kp seed := H1.cu (fun a ha => cOv_out _ _ _ (by omega)) (conAt_cOv _ _ _)
  have o2 : ∀ a, (a < 2 ∨ 152 ≤ a) → cOv h1 5 (actC n b i t w) a = h a := fun a ha => (cOv_out _ _ _ (by omega)).trans (o1 a ha)
  generalize cOv h1 5 (actC n b i t w) = h2 at P2 H2 o2
  obtain ⟨tr2, pt2, k_obj, k_tx, k_cu, k_tr, k_ac, k_sl, k_kp, k_pt, k_sh⟩ := id H2
  refine Cal_of_R (by decide +kernel) (L := [.ref 2, .int (nI w)]) rfl (Nat.le_of_ble_eq_true rfl) ?_
  refine r_aload iX6_act_0 rfl ?_
  refine r_getfield iX6_act_1 (flX6_19 _ rfl) h_obj rfl ?_
  refine r_callV iX6_act_4 (cX6_106 _ rfl) (Fn_con h_cu (c2_isEnded h 5 hn b _ t) _) (by omega) (h_cu.1) rfl rfl rfl (Nat.le_of_ble_eq_true rfl) (Nat.le_of_ble_eq_true rfl) (Nat.le_of_ble_eq_true rfl) ?_
  rintro v' h' z' ⟨rfl, qh, rfl⟩
  rw [qh, i_go hn hi]
  refine r_if_eq iX6_act_7 (fun _ => ?_) (fun g9 => absurd (rfl) g9)
  refine r_aload iX6_act_13 rfl ?_
  refine r_getfield iX6_act_14 (flX6_29 _ rfl) h_obj rfl ?_
  refine r_aload iX6_act_17 rfl ?_
  refine r_getfield iX6_act_18 (flX6_19 _ rfl) h_obj rfl ?_
  refine r_callV iX6_act_21 (cX6_110 _ rfl) (P _) (by omega) (h_ac.1) rfl rfl rfl (Nat.le_of_ble_eq_true rfl) (Nat.le_of_ble_eq_true rfl) (Nat.le_of_ble_eq_true rfl) ?_
  rintro v' h' z' ⟨rfl, qh, rfl⟩
  rw [qh]
  refine r_aload iX6_act_24 rfl ?_
  refine r_getfield iX6_act_25 (flX6_19 _ rfl) (g_obj) rfl ?_
  refine r_iload iX6_act_28 rfl ?_
  refine r_callV iX6_act_29 (cX6_114 _ rfl) (P2 _) (by omega) (g_cu.1) rfl rfl rfl (Nat.le_of_ble_eq_true rfl) (Nat.le_of_ble_eq_true rfl) (Nat.le_of_ble_eq_true rfl) ?_
  rintro v' h' z' ⟨rfl, qh, rfl⟩
  rw [qh]
  refine r_aload iX6_act_32 rfl ?_
  refine r_getfield iX6_act_33 (flX6_19 _ rfl) (k_obj) rfl ?_
  refine r_getfield iX6_act_36 (flX6_92 _ rfl) (k_cu.1) rfl ?_
  refine r_iret iX6_act_39 rfl ?_
  exact ⟨rfl, rfl, H2, o2⟩
theorem c6_toss {h : Hp} {x : Int32} {r : Value} {S : Hp → Prop} (hA : PU MX6_act 4 [.ref 2, .int (if x = 0 then nI 0 else nI 1)] h r S) (h_obj : ∃ fs, h 2 = some (.inr (5, fs))) (hr : ∃ q, r = .int q) : PU MX6_toss 5 [.ref 2, .int x] h r S := by
  obtain ⟨fs, h_obj⟩ := h_obj
  obtain ⟨q, rfl⟩ := hr
  intro z
  refine Cal_of_R (by decide +kernel) (L := [.ref 2, .int x]) rfl (Nat.le_of_ble_eq_true rfl) ?_
  refine r_aload iX6_toss_0 rfl ?_
  refine r_iload iX6_toss_1 rfl ?_
  refine r_if_eq iX6_toss_2 (fun g => ?_) (fun g => ?_)
  · rw [if_pos g] at hA
    refine r_iconst (v := 0) iX6_toss_9 rfl ?_
    refine r_callV iX6_toss_10 (cX6_103 _ rfl) (hA _) (by omega) (h_obj) rfl rfl rfl (Nat.le_of_ble_eq_true rfl) (Nat.le_of_ble_eq_true rfl) (Nat.le_of_ble_eq_true rfl) ?_
    rintro v' h' z' ⟨rfl, rfl, hS, ho⟩
    refine r_iret iX6_toss_13 rfl ?_
    exact ⟨rfl, rfl, hS, ho⟩
  · rw [if_neg g] at hA
    refine r_iconst (v := 1) iX6_toss_5 rfl ?_
    refine r_goto iX6_toss_6 ?_
    refine r_callV iX6_toss_10 (cX6_103 _ rfl) (hA _) (by omega) (h_obj) rfl rfl rfl (Nat.le_of_ble_eq_true rfl) (Nat.le_of_ble_eq_true rfl) (Nat.le_of_ble_eq_true rfl) ?_
    rintro v' h' z' ⟨rfl, rfl, hS, ho⟩
    refine r_iret iX6_toss_13 rfl ?_
    exact ⟨rfl, rfl, hS, ho⟩
theorem c6_spare {h : Hp} {r : Value} {S : Hp → Prop} (hA : PU MX6_act 4 [.ref 2, .int (nI 2)] h r S) (h_obj : ∃ fs, h 2 = some (.inr (5, fs))) (hr : ∃ q, r = .int q) : PU MX6_spare 5 [.ref 2] h r S := by
  obtain ⟨fs, h_obj⟩ := h_obj
  obtain ⟨q, rfl⟩ := hr
  intro z
  refine Cal_of_R (by decide +kernel) (L := [.ref 2]) rfl (Nat.le_of_ble_eq_true rfl) ?_
  refine r_aload iX6_spare_0 rfl ?_
  refine r_iconst (v := 2) iX6_spare_1 rfl ?_
  refine r_callV iX6_spare_2 (cX6_103 _ rfl) (hA _) (by omega) (h_obj) rfl rfl rfl (Nat.le_of_ble_eq_true rfl) (Nat.le_of_ble_eq_true rfl) (Nat.le_of_ble_eq_true rfl) ?_
  rintro v' h' z' ⟨rfl, rfl, hS, ho⟩
  refine r_iret iX6_spare_5 rfl ?_
  exact ⟨rfl, rfl, hS, ho⟩
theorem c6_undo_no {h : Hp} {T : Tx} {K : Cn} {nx : Nat} {W sl : Nat → Cn} {kp : Nat → Int32} {seed : Int64} (H : cls h T K 0 nx W sl kp seed) : PU MX6_undo 4 [.ref 2] h (.int (-3)) (fun h' => h' = h) := by
  obtain ⟨tr, pt, h_obj, h_tx, h_cu, h_tr, h_ac, h_sl, h_kp, h_pt, h_sh⟩ := id H
  intro z
  refine Cal_of_R (by decide +kernel) (L := [.ref 2]) rfl (Nat.le_of_ble_eq_true rfl) ?_
  refine r_aload iX6_undo_0 rfl ?_
  refine r_getfield iX6_undo_1 (flX6_29 _ rfl) h_obj rfl ?_
  refine r_getfield iX6_undo_4 (flX6_117 _ rfl) (h_ac.1) rfl ?_
  refine r_if_ne iX6_undo_7 (fun g9 => absurd (rfl) g9) (fun _ => ?_)
  refine r_bipush (v := (-3)) iX6_undo_10 rfl ?_
  refine r_iret iX6_undo_12 rfl ?_
  exact ⟨rfl, rfl, rfl, fun _ _ => rfl⟩
theorem takH_at {h : Hp} {a c sz nx : Nat} {W : Nat → Cn} {K : Cn} (hnx : nx < 16) (H : aAt h a sz nx W) (hd : c + 6 ≤ a ∨ a + 98 ≤ c) : aAt (takH h a c sz nx W K) a (sz - 1) (nxB nx) W := by
  unfold takH
  refine ⟨hset_eq _ _ _, ?_, fun j hj => ?_⟩
  · rw [hset_ne _ _ (by omega), cOv_out _ _ _ (by omega)]; exact H.2.1
  · exact ((H.2.2 j hj).out _ (by omega)).kept fun x h1 h2 => hset_ne _ _ (by omega)
theorem takH_con {h : Hp} {a c sz nx : Nat} {W : Nat → Cn} {K : Cn} (hd : c + 6 ≤ a ∨ a + 98 ≤ c) : conAt (takH h a c sz nx W K) c (copyC (W (nxB nx)) K.2.2.2) := by
  unfold takH
  exact (conAt_cOv _ _ _).kept fun x h1 h2 => hset_ne _ _ (by omega)
theorem takH_out {h : Hp} {a c sz nx : Nat} {W : Nat → Cn} {K : Cn} {x : Nat} (hx : x ≠ a) (hc : x < c ∨ c + 6 ≤ x) : takH h a c sz nx W K x = h x := by
  unfold takH
  rw [hset_ne _ _ hx, cOv_out _ _ _ hc]
theorem c6_undo {h : Hp} {T : Tx} {K : Cn} {sz nx : Nat} {W sl : Nat → Cn} {kp : Nat → Int32} {seed : Int64} (hs0 : 0 < sz) (hsz : sz ≤ 16) (hnx : nx < 16) (hn : (W (nxB nx)).1 ≤ 4) (H : cls h T K sz nx W sl kp seed) : PU MX6_undo 4 [.ref 2] h (.int (nI (sz - 1))) (fun h' => cls h' T (copyC (W (nxB nx)) K.2.2.2) (sz - 1) (nxB nx) W sl kp seed) := by
  obtain ⟨tr, pt, h_obj, h_tx, h_cu, h_tr, h_ac, h_sl, h_kp, h_pt, h_sh⟩ := id H
  intro z
  have P := c0_takeBack h 17 5 (by omega) (by omega) hs0 hsz hnx hn h_ac h_cu (by omega)
  have o9 : ∀ x, x ≠ 17 → (x < 5 ∨ 11 ≤ x) → takH h 17 5 sz nx W K x = h x := fun x h1 h2 => takH_out h1 (by omega)
  have H2 : cls (takH h 17 5 sz nx W K) T (copyC (W (nxB nx)) K.2.2.2) (sz - 1) (nxB nx) W sl kp seed := by
    refine ⟨tr, pt, by rw [o9 2 (by omega) (by omega)]; exact h_obj, h_tx.kept fun a q1 q2 => o9 a (by omega) (by omega), takH_con (by omega), h_tr.kept fun a q1 q2 => o9 a (by omega) (by omega), takH_at hnx h_ac (by omega), h_sl.kept fun a q1 q2 => o9 a (by omega) (by omega), h_kp.kept fun a q1 q2 => o9 a (by omega) (by omega), h_pt.kept fun a q1 q2 => o9 a (by omega) (by omega), h_sh.kept fun a q1 q2 => o9 a (by omega) (by omega)⟩
  have o2 : ∀ a, (a < 2 ∨ 152 ≤ a) → takH h 17 5 sz nx W K a = h a := fun a ha => o9 a (by omega) (by omega)
  generalize takH h 17 5 sz nx W K = h2 at P H2 o2
  obtain ⟨tr2, pt2, k_obj, k_tx, k_cu, k_tr, k_ac, k_sl, k_kp, k_pt, k_sh⟩ := id H2
  refine Cal_of_R (by decide +kernel) (L := [.ref 2]) rfl (Nat.le_of_ble_eq_true rfl) ?_
  refine r_aload iX6_undo_0 rfl ?_
  refine r_getfield iX6_undo_1 (flX6_29 _ rfl) h_obj rfl ?_
  refine r_getfield iX6_undo_4 (flX6_117 _ rfl) (h_ac.1) rfl ?_
  refine r_if_ne iX6_undo_7 (fun _ => ?_) (fun g9 => absurd g9 (nI_ne0 hs0 (by omega)))
  refine r_aload iX6_undo_13 rfl ?_
  refine r_getfield iX6_undo_14 (flX6_29 _ rfl) h_obj rfl ?_
  refine r_aload iX6_undo_17 rfl ?_
  refine r_getfield iX6_undo_18 (flX6_19 _ rfl) h_obj rfl ?_
  refine r_callV iX6_undo_21 (cX6_118 _ rfl) (P _) (by omega) (h_ac.1) rfl rfl rfl (Nat.le_of_ble_eq_true rfl) (Nat.le_of_ble_eq_true rfl) (Nat.le_of_ble_eq_true rfl) ?_
  rintro v' h' z' ⟨rfl, qh, rfl⟩
  rw [qh]
  refine r_aload iX6_undo_24 rfl ?_
  refine r_getfield iX6_undo_25 (flX6_29 _ rfl) (k_obj) rfl ?_
  refine r_getfield iX6_undo_28 (flX6_117 _ rfl) (k_ac.1) rfl ?_
  refine r_iret iX6_undo_31 rfl ?_
  exact ⟨rfl, rfl, H2, o2⟩
theorem c6_seed {h : Hp} {T : Tx} {K : Cn} {sz nx : Nat} {W sl : Nat → Cn} {kp : Nat → Int32} {seed : Int64} (H : cls h T K sz nx W sl kp seed) (v : Int64) : PU MX6_seed 4 [.ref 2, .long v] h (.long seed) (fun h' => cls h' T K sz nx W sl kp v) := by
  obtain ⟨tr, pt, h_obj, h_tx, h_cu, h_tr, h_ac, h_sl, h_kp, h_pt, h_sh⟩ := id H
  intro z
  refine Cal_of_R (by decide +kernel) (L := [.ref 2, .long v, .null, .null, .null]) rfl (Nat.le_of_ble_eq_true rfl) ?_
  refine r_aload iX6_seed_0 rfl ?_
  refine r_getfield iX6_seed_1 (flX6_55 _ rfl) h_obj rfl ?_
  refine r_lstore_3 iX6_seed_4 rfl ?_
  refine r_aload iX6_seed_5 rfl ?_
  refine r_lload iX6_seed_6 rfl ?_
  refine r_putfield iX6_seed_7 (fpX6_55 _ rfl) (by omega) (h_obj) (Nat.le_of_ble_eq_true rfl) ⟨rfl, rfl⟩ ?_
  refine r_lload iX6_seed_10 rfl ?_
  refine r_lret iX6_seed_11 rfl ?_
  exact ⟨rfl, rfl, H.obj (fun a ha => hset_ne _ _ (by omega)) (hset_eq _ _ _), fun a ha => hset_ne _ _ (by omega)⟩
end
section
theorem x_no2 {s : Int32} (hs : s < 0 ∨ 1 < s) (h0 : ¬ s < 0) : ¬ s < 2 := fun q => by
  rcases hs with g | g
  · exact h0 g
  · obtain ⟨j, hj, rfl⟩ := nI_of h0
    have h1 := (nI_ltI (a := 1) (by omega) hj).mp g
    have h2 := (nI_ltI (b := 2) hj (by omega)).mp q
    omega
theorem c6_keep_no {h : Hp} {T : Tx} {K : Cn} {sz nx : Nat} {W sl : Nat → Cn} {kp : Nat → Int32} {seed : Int64} (H : cls h T K sz nx W sl kp seed) (s : Int32) (hs : s < 0 ∨ 1 < s) : PU MX6_keep 4 [.ref 2, .int s] h (.int (-1)) (fun h' => h' = h) := by
  intro z
  refine Cal_of_R (by decide +kernel) (L := [.ref 2, .int s]) rfl (Nat.le_of_ble_eq_true rfl) ?_
  by_cases h0 : s < 0
  · refine r_iload iX6_keep_0 rfl ?_
    refine r_if_lt iX6_keep_1 (fun _ => ?_) (fun g9 => absurd (h0) g9)
    refine r_iconst (v := (-1)) iX6_keep_9 rfl ?_
    refine r_iret iX6_keep_10 rfl ?_
    exact ⟨rfl, rfl, rfl, fun _ _ => rfl⟩
  · refine r_iload iX6_keep_0 rfl ?_
    refine r_if_lt iX6_keep_1 (fun g9 => absurd g9 (h0)) (fun _ => ?_)
    refine r_iload iX6_keep_4 rfl ?_
    refine r_iconst (v := 2) iX6_keep_5 rfl ?_
    refine r_icmp_lt iX6_keep_6 (fun g9 => absurd g9 (x_no2 hs h0)) (fun _ => ?_)
    refine r_iconst (v := (-1)) iX6_keep_9 rfl ?_
    refine r_iret iX6_keep_10 rfl ?_
    exact ⟨rfl, rfl, rfl, fun _ _ => rfl⟩
theorem sl_ix {i : Nat} (hi : i < 2) : (fun j : Nat => Value.ref (116 + 6 * j)) (nI i).toNatClampNeg = .ref (116 + 6 * i) := by
  show Value.ref (116 + 6 * (nI i).toNatClampNeg) = _
  rw [nI_clamp (by omega)]
theorem c6_keep {h : Hp} {T : Tx} {n : Nat} {b u : Int32} {t : Nat → Nat → Int32} {sz nx : Nat} {W sl : Nat → Cn} {kp : Nat → Int32} {seed : Int64} (hn : n ≤ 4) (H : cls h T (n, b, u, t) sz nx W sl kp seed) {j : Nat} (hj : j < 2) : PU MX6_keep 4 [.ref 2, .int (nI j)] h (.int b) (fun h' => cls h' T (n, b, u, t) sz nx W (upW sl j (copyC (n, b, u, t) (sl j).2.2.2)) (upd kp j 1) seed) := by
  obtain ⟨tr, pt, h_obj, h_tx, h_cu, h_tr, h_ac, h_sl, h_kp, h_pt, h_sh⟩ := id H
  intro z
  have P := Pr_con (h_sl.2 j hj) (c2_copyFrom h (116 + 6 * j) 5 (by omega) (sl j) hn b u t (by omega) h_cu)
  have H1 : cls (cOv h (116 + 6 * j) (copyC (n, b, u, t) (sl j).2.2.2)) T (n, b, u, t) sz nx W (upW sl j (copyC (n, b, u, t) (sl j).2.2.2)) kp seed := H.sl (fun a ha => cOv_out _ _ _ (by omega)) ⟨by rw [cOv_out _ _ _ (by omega)]; exact h_sl.1, fun i hi => by
    by_cases g : i = j
    · subst g; rw [upW, if_pos rfl]; exact conAt_cOv _ _ _
    · rw [upW, if_neg g]; exact (h_sl.2 i hi).out _ (by omega)⟩
  have o1 : ∀ a, (a < 2 ∨ 152 ≤ a) → cOv h (116 + 6 * j) (copyC (n, b, u, t) (sl j).2.2.2) a = h a := fun a ha => cOv_out _ _ _ (by omega)
  have e9 : cOv h (116 + 6 * j) (n, b, u, mapT (fun j _ => t j) (sl j).2.2.2 n) = cOv h (116 + 6 * j) (copyC (n, b, u, t) (sl j).2.2.2) := rfl
  rw [e9] at P
  generalize cOv h (116 + 6 * j) (copyC (n, b, u, t) (sl j).2.2.2) = h1 at P H1 o1
  obtain ⟨tr1, pt1, g_obj, g_tx, g_cu, g_tr, g_ac, g_sl, g_kp, g_pt, g_sh⟩ := id H1
  refine Cal_of_R (by decide +kernel) (L := [.ref 2, .int (nI j)]) rfl (Nat.le_of_ble_eq_true rfl) ?_
  refine r_iload iX6_keep_0 rfl ?_
  refine r_if_lt iX6_keep_1 (fun g9 => absurd g9 (nI_pos (by omega))) (fun _ => ?_)
  refine r_iload iX6_keep_4 rfl ?_
  refine r_iconst (v := 2) iX6_keep_5 rfl ?_
  refine r_icmp_lt iX6_keep_6 (fun _ => ?_) (fun g9 => absurd (nI_lt (b := 2) hj (by omega)) g9)
  refine r_aload iX6_keep_11 rfl ?_
  refine r_getfield iX6_keep_12 (flX6_33 _ rfl) h_obj rfl ?_
  refine r_iload iX6_keep_15 rfl ?_
  refine r_aaload iX6_keep_16 rfl (h_sl.1) (vp_in_nI hj (by decide)) (sl_ix hj) ?_
  refine r_aload iX6_keep_17 rfl ?_
  refine r_getfield iX6_keep_18 (flX6_19 _ rfl) h_obj rfl ?_
  refine r_callV iX6_keep_21 (cX6_125 _ rfl) (P _) (by omega) ((h_sl.2 j hj).1) rfl rfl rfl (Nat.le_of_ble_eq_true rfl) (Nat.le_of_ble_eq_true rfl) (Nat.le_of_ble_eq_true rfl) ?_
  rintro v' h' z' ⟨rfl, qh, rfl⟩
  rw [qh]
  refine r_aload iX6_keep_24 rfl ?_
  refine r_getfield iX6_keep_25 (flX6_37 _ rfl) (g_obj) rfl ?_
  refine r_iload iX6_keep_28 rfl ?_
  refine r_iconst (v := 1) iX6_keep_29 rfl ?_
  refine r_bastore iX6_keep_30 (by omega) (g_kp) (vp_in_nI hj (by decide)) (Or.inr rfl) ?_
  rw [updV_int, nI_clamp (by omega)]
  have H2 : cls (hset h1 128 (.inl (.boolean, 2, fun i => .int (upd kp j 1 i)))) T (n, b, u, t) sz nx W (upW sl j (copyC (n, b, u, t) (sl j).2.2.2)) (upd kp j 1) seed := H1.kp (fun a ha => hset_ne _ _ (by omega)) (hset_eq _ _ _)
  have o2 : ∀ a, (a < 2 ∨ 152 ≤ a) → hset h1 128 (.inl (.boolean, 2, fun i => .int (upd kp j 1 i))) a = h a := fun a ha => (hset_ne _ _ (by omega)).trans (o1 a ha)
  generalize hset h1 128 (.inl (.boolean, 2, fun i => .int (upd kp j 1 i))) = h2 at H2 o2
  obtain ⟨tr2, pt2, k_obj, k_tx, k_cu, k_tr, k_ac, k_sl, k_kp, k_pt, k_sh⟩ := id H2
  refine r_aload iX6_keep_31 rfl ?_
  refine r_getfield iX6_keep_32 (flX6_19 _ rfl) (k_obj) rfl ?_
  refine r_getfield iX6_keep_35 (flX6_140 _ rfl) (k_cu.1) rfl ?_
  refine r_iret iX6_keep_38 rfl ?_
  exact ⟨rfl, rfl, H2, o2⟩
theorem c6_again_unk {h : Hp} {T : Tx} {K : Cn} {sz nx : Nat} {W sl : Nat → Cn} {kp : Nat → Int32} {seed : Int64} (H : cls h T K sz nx W sl kp seed) (s : Int32) (hs : s < 0 ∨ 1 < s) : PU MX6_again 4 [.ref 2, .int s] h (.int (-1)) (fun h' => h' = h) := by
  intro z
  refine Cal_of_R (by decide +kernel) (L := [.ref 2, .int s]) rfl (Nat.le_of_ble_eq_true rfl) ?_
  by_cases h0 : s < 0
  · refine r_iload iX6_again_0 rfl ?_
    refine r_if_lt iX6_again_1 (fun _ => ?_) (fun g9 => absurd (h0) g9)
    refine r_iconst (v := (-1)) iX6_again_9 rfl ?_
    refine r_iret iX6_again_10 rfl ?_
    exact ⟨rfl, rfl, rfl, fun _ _ => rfl⟩
  · refine r_iload iX6_again_0 rfl ?_
    refine r_if_lt iX6_again_1 (fun g9 => absurd g9 (h0)) (fun _ => ?_)
    refine r_iload iX6_again_4 rfl ?_
    refine r_iconst (v := 2) iX6_again_5 rfl ?_
    refine r_icmp_lt iX6_again_6 (fun g9 => absurd g9 (x_no2 hs h0)) (fun _ => ?_)
    refine r_iconst (v := (-1)) iX6_again_9 rfl ?_
    refine r_iret iX6_again_10 rfl ?_
    exact ⟨rfl, rfl, rfl, fun _ _ => rfl⟩
theorem c6_again_no {h : Hp} {T : Tx} {K : Cn} {sz nx : Nat} {W sl : Nat → Cn} {kp : Nat → Int32} {seed : Int64} (H : cls h T K sz nx W sl kp seed) {j : Nat} (hj : j < 2) (hk : kp j = 0) : PU MX6_again 4 [.ref 2, .int (nI j)] h (.int (-3)) (fun h' => h' = h) := by
  obtain ⟨tr, pt, h_obj, h_tx, h_cu, h_tr, h_ac, h_sl, h_kp, h_pt, h_sh⟩ := id H
  intro z
  refine Cal_of_R (by decide +kernel) (L := [.ref 2, .int (nI j)]) rfl (Nat.le_of_ble_eq_true rfl) ?_
  refine r_iload iX6_again_0 rfl ?_
  refine r_if_lt iX6_again_1 (fun g9 => absurd g9 (nI_pos (by omega))) (fun _ => ?_)
  refine r_iload iX6_again_4 rfl ?_
  refine r_iconst (v := 2) iX6_again_5 rfl ?_
  refine r_icmp_lt iX6_again_6 (fun _ => ?_) (fun g9 => absurd (nI_lt (b := 2) hj (by omega)) g9)
  refine r_aload iX6_again_11 rfl ?_
  refine r_getfield iX6_again_12 (flX6_37 _ rfl) h_obj rfl ?_
  refine r_iload iX6_again_15 rfl ?_
  refine r_baload iX6_again_16 (h_kp) (vp_in_nI hj (by decide)) (nI_at (by omega)) ?_
  refine r_if_ne iX6_again_17 (fun g9 => absurd (hk) g9) (fun _ => ?_)
  refine r_bipush (v := (-3)) iX6_again_20 rfl ?_
  refine r_iret iX6_again_22 rfl ?_
  exact ⟨rfl, rfl, rfl, fun _ _ => rfl⟩
theorem c6_again {h : Hp} {T : Tx} {K : Cn} {sz nx : Nat} {W sl : Nat → Cn} {kp : Nat → Int32} {seed : Int64} (H : cls h T K sz nx W sl kp seed) {j : Nat} (hj : j < 2) (hk : ¬ kp j = 0) (hn : (sl j).1 ≤ 4) : PU MX6_again 4 [.ref 2, .int (nI j)] h (.int (sl j).2.1) (fun h' => cls h' T (copyC (sl j) K.2.2.2) 0 0 W sl kp seed) := by
  obtain ⟨tr, pt, h_obj, h_tx, h_cu, h_tr, h_ac, h_sl, h_kp, h_pt, h_sh⟩ := id H
  intro z
  have P := Pr_con h_cu (c2_copyFrom h 5 (116 + 6 * j) (by omega) K hn (sl j).2.1 (sl j).2.2.1 (sl j).2.2.2 (by omega) (h_sl.2 j hj))
  have H1 : cls (cOv h 5 (copyC (sl j) K.2.2.2)) T (copyC (sl j) K.2.2.2) sz nx W sl kp seed := H.cu (fun a ha => cOv_out _ _ _ (by omega)) (conAt_cOv _ _ _)
  have o1 : ∀ a, (a < 2 ∨ 152 ≤ a) → cOv h 5 (copyC (sl j) K.2.2.2) a = h a := fun a ha => cOv_out _ _ _ (by omega)
  have e9 : cOv h 5 ((sl j).1, (sl j).2.1, (sl j).2.2.1, mapT (fun i _ => (sl j).2.2.2 i) K.2.2.2 (sl j).1) = cOv h 5 (copyC (sl j) K.2.2.2) := rfl
  rw [e9] at P
  generalize cOv h 5 (copyC (sl j) K.2.2.2) = h1 at P H1 o1
  obtain ⟨tr1, pt1, g_obj, g_tx, g_cu, g_tr, g_ac, g_sl, g_kp, g_pt, g_sh⟩ := id H1
  have P2 := c0_forget h1 (a := 17) (by omega) 18 (nI sz) (nI nx)
  rw [hset_self g_ac.1] at P2
  have H2 : cls (hset h1 17 (.inr (0, [.ref 18, .int 0, .int 0]))) T (copyC (sl j) K.2.2.2) 0 0 W sl kp seed := H1.ac (fun a ha => hset_ne _ _ (by omega)) ⟨hset_eq _ _ _, by rw [hset_ne _ _ (by omega)]; exact g_ac.2.1, fun j hj => (g_ac.2.2 j hj).kept fun x q1 q2 => hset_ne _ _ (by omega)⟩
  have o2 : ∀ a, (a < 2 ∨ 152 ≤ a) → hset h1 17 (.inr (0, [.ref 18, .int 0, .int 0])) a = h a := fun a ha => (hset_ne _ _ (by omega)).trans (o1 a ha)
  generalize hset h1 17 (.inr (0, [.ref 18, .int 0, .int 0])) = h2 at P2 H2 o2
  obtain ⟨tr2, pt2, k_obj, k_tx, k_cu, k_tr, k_ac, k_sl, k_kp, k_pt, k_sh⟩ := id H2
  refine Cal_of_R (by decide +kernel) (L := [.ref 2, .int (nI j)]) rfl (Nat.le_of_ble_eq_true rfl) ?_
  refine r_iload iX6_again_0 rfl ?_
  refine r_if_lt iX6_again_1 (fun g9 => absurd g9 (nI_pos (by omega))) (fun _ => ?_)
  refine r_iload iX6_again_4 rfl ?_
  refine r_iconst (v := 2) iX6_again_5 rfl ?_
  refine r_icmp_lt iX6_again_6 (fun _ => ?_) (fun g9 => absurd (nI_lt (b := 2) hj (by omega)) g9)
  refine r_aload iX6_again_11 rfl ?_
  refine r_getfield iX6_again_12 (flX6_37 _ rfl) h_obj rfl ?_
  refine r_iload iX6_again_15 rfl ?_
  refine r_baload iX6_again_16 (h_kp) (vp_in_nI hj (by decide)) (nI_at (by omega)) ?_
  refine r_if_ne iX6_again_17 (fun _ => ?_) (fun g9 => absurd g9 (hk))
  refine r_aload iX6_again_23 rfl ?_
  refine r_getfield iX6_again_24 (flX6_19 _ rfl) h_obj rfl ?_
  refine r_aload iX6_again_27 rfl ?_
  refine r_getfield iX6_again_28 (flX6_33 _ rfl) h_obj rfl ?_
  refine r_iload iX6_again_31 rfl ?_
  refine r_aaload iX6_again_32 rfl (h_sl.1) (vp_in_nI hj (by decide)) (sl_ix hj) ?_
  refine r_callV iX6_again_33 (cX6_125 _ rfl) (P _) (by omega) (h_cu.1) rfl rfl rfl (Nat.le_of_ble_eq_true rfl) (Nat.le_of_ble_eq_true rfl) (Nat.le_of_ble_eq_true rfl) ?_
  rintro v' h' z' ⟨rfl, qh, rfl⟩
  rw [qh]
  refine r_aload iX6_again_36 rfl ?_
  refine r_getfield iX6_again_37 (flX6_29 _ rfl) (g_obj) rfl ?_
  refine r_callV iX6_again_40 (cX6_75 _ rfl) (P2 _) (by omega) (g_ac.1) rfl rfl rfl (Nat.le_of_ble_eq_true rfl) (Nat.le_of_ble_eq_true rfl) (Nat.le_of_ble_eq_true rfl) ?_
  rintro v' h' z' ⟨rfl, qh, rfl⟩
  rw [qh]
  refine r_aload iX6_again_43 rfl ?_
  refine r_getfield iX6_again_44 (flX6_19 _ rfl) (k_obj) rfl ?_
  refine r_getfield iX6_again_47 (flX6_140 _ rfl) (k_cu.1) rfl ?_
  refine r_iret iX6_again_50 rfl ?_
  exact ⟨rfl, rfl, H2, o2⟩
theorem c6_count_out {h : Hp} (x : Int32) (hx : x < 0 ∨ 8 < x) : PU MX6_count 4 [.ref 2, .int x] h (.int (-2)) (fun h' => h' = h) := by
  intro z
  refine Cal_of_R (by decide +kernel) (L := [.ref 2, .int x]) rfl (Nat.le_of_ble_eq_true rfl) ?_
  rcases hx with hw | hw
  · refine r_iload iX6_count_0 rfl ?_
    refine r_if_lt iX6_count_1 (fun _ => ?_) (fun g9 => absurd (hw) g9)
    refine r_bipush (v := (-2)) iX6_count_10 rfl ?_
    refine r_iret iX6_count_12 rfl ?_
    exact ⟨rfl, rfl, rfl, fun _ _ => rfl⟩
  · have hw1 : ¬ x < 0 := fun q => Int32.lt_irrefl (Int32.lt_trans q (Int32.lt_trans (by decide) hw))
    refine r_iload iX6_count_0 rfl ?_
    refine r_if_lt iX6_count_1 (fun g9 => absurd g9 (hw1)) (fun _ => ?_)
    refine r_iload iX6_count_4 rfl ?_
    refine r_bipush (v := 8) iX6_count_5 rfl ?_
    refine r_icmp_le iX6_count_7 (fun g9 => absurd g9 (Int32.not_le.mpr hw)) (fun _ => ?_)
    refine r_bipush (v := (-2)) iX6_count_10 rfl ?_
    refine r_iret iX6_count_12 rfl ?_
    exact ⟨rfl, rfl, rfl, fun _ _ => rfl⟩
def cntC (l : Nat) (n : Nat) (b u : Int32) (t : Nat → Nat → Int32) (sz : Nat) (w : Nat) : Int32 := match w with
  | 0 => nI l
  | 1 => nI n
  | 2 => b
  | 3 => bitsI (notOutP t) n
  | 4 => bitsI (fun j => decide (t j 7 = 1)) n
  | 5 => bitsI (fun j => decide (t j 7 = 2)) n
  | 6 => nI sz
  | 7 => if 0 ≤ u ∧ u < nI n then 0 else 1
  | _ => bitsI (leadP n t) n
theorem c6_count {h : Hp} {l : Nat} {B : Nat → Int32} {n : Nat} {b u : Int32} {t : Nat → Nat → Int32} {sz nx : Nat} {W sl : Nat → Cn} {kp : Nat → Int32} {seed : Int64} (hn : n ≤ 4) (H : cls h (l, B) (n, b, u, t) sz nx W sl kp seed) {w : Nat} (hw : w < 9) : PU MX6_count 4 [.ref 2, .int (nI w)] h (.int (cntC l n b u t sz w)) (fun h' => h' = h) := by
  obtain ⟨tr, pt, h_obj, h_tx, h_cu, h_tr, h_ac, h_sl, h_kp, h_pt, h_sh⟩ := id H
  intro z
  refine Cal_of_R (by decide +kernel) (L := [.ref 2, .int (nI w)]) rfl (Nat.le_of_ble_eq_true rfl) ?_
  refine r_iload iX6_count_0 rfl ?_
  refine r_if_lt iX6_count_1 (fun g9 => absurd g9 (nI_pos (by omega))) (fun _ => ?_)
  refine r_iload iX6_count_4 rfl ?_
  refine r_bipush (v := 8) iX6_count_5 rfl ?_
  refine r_icmp_le iX6_count_7 (fun _ => ?_) (fun g9 => absurd (nI_le (b := 8) (by omega) (by omega)) g9)
  refine r_iload iX6_count_13 rfl ?_
  match w, hw with
  | 0, _ =>
    refine r_tabIn (tgt := 60) iX6_count_14 (by decide) (by decide) rfl rfl ?_
    refine r_aload iX6_count_60 rfl ?_
    refine r_getfield iX6_count_61 (flX6_12 _ rfl) h_obj rfl ?_
    refine r_getfield iX6_count_64 (flX6_59 _ rfl) (h_tx.1) rfl ?_
    refine r_iret iX6_count_67 rfl ?_
    exact ⟨rfl, rfl, rfl, fun _ _ => rfl⟩
  | 1, _ =>
    refine r_tabIn (tgt := 68) iX6_count_14 (by decide) (by decide) rfl rfl ?_
    refine r_aload iX6_count_68 rfl ?_
    refine r_getfield iX6_count_69 (flX6_19 _ rfl) h_obj rfl ?_
    refine r_getfield iX6_count_72 (flX6_78 _ rfl) (h_cu.1) rfl ?_
    refine r_iret iX6_count_75 rfl ?_
    exact ⟨rfl, rfl, rfl, fun _ _ => rfl⟩
  | 2, _ =>
    refine r_tabIn (tgt := 76) iX6_count_14 (by decide) (by decide) rfl rfl ?_
    refine r_aload iX6_count_76 rfl ?_
    refine r_getfield iX6_count_77 (flX6_19 _ rfl) h_obj rfl ?_
    refine r_getfield iX6_count_80 (flX6_140 _ rfl) (h_cu.1) rfl ?_
    refine r_iret iX6_count_83 rfl ?_
    exact ⟨rfl, rfl, rfl, fun _ _ => rfl⟩
  | 3, _ =>
    refine r_tabIn (tgt := 84) iX6_count_14 (by decide) (by decide) rfl rfl ?_
    refine r_aload iX6_count_84 rfl ?_
    refine r_getfield iX6_count_85 (flX6_19 _ rfl) h_obj rfl ?_
    refine r_callV iX6_count_88 (cX6_194 _ rfl) (Fn_con h_cu (c2_notOut h 5 hn b u t) _) (by omega) (h_cu.1) rfl rfl rfl (Nat.le_of_ble_eq_true rfl) (Nat.le_of_ble_eq_true rfl) (Nat.le_of_ble_eq_true rfl) ?_
    rintro v' h' z' ⟨rfl, qh, rfl⟩
    rw [qh]
    refine r_iret iX6_count_91 rfl ?_
    exact ⟨rfl, rfl, rfl, fun _ _ => rfl⟩
  | 4, _ =>
    refine r_tabIn (tgt := 92) iX6_count_14 (by decide) (by decide) rfl rfl ?_
    refine r_aload iX6_count_92 rfl ?_
    refine r_getfield iX6_count_93 (flX6_19 _ rfl) h_obj rfl ?_
    refine r_iconst (v := 1) iX6_count_96 rfl ?_
    refine r_callV iX6_count_97 (cX6_197 _ rfl) (Fn_con h_cu (c2_who h 5 hn b u t 1) _) (by omega) (h_cu.1) rfl rfl rfl (Nat.le_of_ble_eq_true rfl) (Nat.le_of_ble_eq_true rfl) (Nat.le_of_ble_eq_true rfl) ?_
    rintro v' h' z' ⟨rfl, qh, rfl⟩
    rw [qh]
    refine r_iret iX6_count_100 rfl ?_
    exact ⟨rfl, rfl, rfl, fun _ _ => rfl⟩
  | 5, _ =>
    refine r_tabIn (tgt := 101) iX6_count_14 (by decide) (by decide) rfl rfl ?_
    refine r_aload iX6_count_101 rfl ?_
    refine r_getfield iX6_count_102 (flX6_19 _ rfl) h_obj rfl ?_
    refine r_iconst (v := 2) iX6_count_105 rfl ?_
    refine r_callV iX6_count_106 (cX6_197 _ rfl) (Fn_con h_cu (c2_who h 5 hn b u t 2) _) (by omega) (h_cu.1) rfl rfl rfl (Nat.le_of_ble_eq_true rfl) (Nat.le_of_ble_eq_true rfl) (Nat.le_of_ble_eq_true rfl) ?_
    rintro v' h' z' ⟨rfl, qh, rfl⟩
    rw [qh]
    refine r_iret iX6_count_109 rfl ?_
    exact ⟨rfl, rfl, rfl, fun _ _ => rfl⟩
  | 6, _ =>
    refine r_tabIn (tgt := 110) iX6_count_14 (by decide) (by decide) rfl rfl ?_
    refine r_aload iX6_count_110 rfl ?_
    refine r_getfield iX6_count_111 (flX6_29 _ rfl) h_obj rfl ?_
    refine r_getfield iX6_count_114 (flX6_117 _ rfl) (h_ac.1) rfl ?_
    refine r_iret iX6_count_117 rfl ?_
    exact ⟨rfl, rfl, rfl, fun _ _ => rfl⟩
  | 7, _ =>
    refine r_tabIn (tgt := 118) iX6_count_14 (by decide) (by decide) rfl rfl ?_
    refine r_aload iX6_count_118 rfl ?_
    refine r_getfield iX6_count_119 (flX6_19 _ rfl) h_obj rfl ?_
    refine r_callV iX6_count_122 (cX6_106 _ rfl) (Fn_con h_cu (c2_isEnded h 5 hn b u t) _) (by omega) (h_cu.1) rfl rfl rfl (Nat.le_of_ble_eq_true rfl) (Nat.le_of_ble_eq_true rfl) (Nat.le_of_ble_eq_true rfl) ?_
    rintro v' h' z' ⟨rfl, qh, rfl⟩
    rw [qh]
    by_cases g : 0 ≤ u ∧ u < nI n
    · rw [if_pos g]
      refine r_if_eq iX6_count_125 (fun _ => ?_) (fun g9 => absurd (rfl) g9)
      refine r_iconst (v := 0) iX6_count_132 rfl ?_
      refine r_iret iX6_count_133 rfl ?_
      exact ⟨by show _ = some (Value.int (if 0 ≤ u ∧ u < nI n then 0 else 1)); rw [if_pos g], rfl, rfl, fun _ _ => rfl⟩
    · rw [if_neg g]
      refine r_if_eq iX6_count_125 (fun g9 => absurd g9 (by decide)) (fun _ => ?_)
      refine r_iconst (v := 1) iX6_count_128 rfl ?_
      refine r_goto iX6_count_129 ?_
      refine r_iret iX6_count_133 rfl ?_
      exact ⟨by show _ = some (Value.int (if 0 ≤ u ∧ u < nI n then 0 else 1)); rw [if_neg g], rfl, rfl, fun _ _ => rfl⟩
  | 8, _ =>
    refine r_tabOut (tgt := 134) iX6_count_14 (by decide) rfl ?_
    refine r_aload iX6_count_134 rfl ?_
    refine r_getfield iX6_count_135 (flX6_19 _ rfl) h_obj rfl ?_
    refine r_callV iX6_count_138 (cX6_191 _ rfl) (Fn_con h_cu (c2_leaders h 5 hn b u t) _) (by omega) (h_cu.1) rfl rfl rfl (Nat.le_of_ble_eq_true rfl) (Nat.le_of_ble_eq_true rfl) (Nat.le_of_ble_eq_true rfl) ?_
    rintro v' h' z' ⟨rfl, qh, rfl⟩
    rw [qh]
    refine r_iret iX6_count_141 rfl ?_
    exact ⟨rfl, rfl, rfl, fun _ _ => rfl⟩
theorem c6_figureOf (h : Hp) (R9 j : Nat) (hR : R9 < 2 ^ 31) (hj : j < 16) : Fn MX6_figureOf 0 [.int (nI R9), .int (nI j)] h (some (.int (nI (R9 / 10 ^ j % 10)))) := by
  intro z
  refine Cal_of_R (by decide +kernel) (L := [.int (nI R9), .int (nI j), .null, .null]) rfl (Nat.le_of_ble_eq_true rfl) ?_
  have loop : ∀ (i p : Nat), p + i = j → R MX6_figureOf 0 0 0 (fun v h' z' => v = some (.int (nI (R9 / 10 ^ j % 10))) ∧ h' = h ∧ z' = z) 4 [.int (nI R9), .int (nI j), .int (nI (R9 / 10 ^ p)), .int (nI p)] [] h z 0 0 := by
    intro i
    induction i with
    | zero =>
      intro p hp
      obtain rfl : p = j := by omega
      have hb : R9 / 10 ^ p < 2 ^ 31 := Nat.lt_of_le_of_lt (Nat.div_le_self _ _) hR
      have e : nI (R9 / 10 ^ p) - nI (R9 / 10 ^ p) / 10 * 10 = nI (R9 / 10 ^ p % 10) := pk_rem (d := 10) hb (by omega) (by omega)
      refine r_iload iX6_figureOf_4 rfl ?_
      refine r_iload iX6_figureOf_5 rfl ?_
      refine r_icmp_ge iX6_figureOf_6 (fun _ => ?_) (fun g9 => absurd (nI_le (by omega) (by omega)) g9)
      refine r_iload iX6_figureOf_20 rfl ?_
      refine r_bipush (v := 10) iX6_figureOf_21 rfl ?_
      refine r_irem iX6_figureOf_23 (by decide) ?_
      rw [e]
      refine r_iret iX6_figureOf_24 rfl ?_
      exact ⟨rfl, rfl, rfl⟩
    | succ i ih =>
      intro p hp
      have hb : R9 / 10 ^ p < 2 ^ 31 := Nat.lt_of_le_of_lt (Nat.div_le_self _ _) hR
      have e : nI (R9 / 10 ^ p) / 10 = nI (R9 / 10 ^ (p + 1)) := by
        rw [show nI (R9 / 10 ^ p) / 10 = nI (R9 / 10 ^ p / 10) from pk_div (d := 10) hb (by omega) (by omega), Nat.div_div_eq_div_mul, Nat.pow_succ]
      refine r_iload iX6_figureOf_4 rfl ?_
      refine r_iload iX6_figureOf_5 rfl ?_
      refine r_icmp_ge iX6_figureOf_6 (fun g9 => absurd g9 (nI_ge (by omega) (by omega))) (fun _ => ?_)
      refine r_iload iX6_figureOf_9 rfl ?_
      refine r_bipush (v := 10) iX6_figureOf_10 rfl ?_
      refine r_idiv iX6_figureOf_12 (by decide) ?_
      rw [e]
      refine r_istore_2 iX6_figureOf_13 rfl ?_
      refine r_iinc_3 iX6_figureOf_14 (by first | exact nI_inc _ | rfl) rfl ?_
      refine r_goto iX6_figureOf_17 ?_
      exact ih (p + 1) (by omega)
  refine r_iload iX6_figureOf_0 rfl ?_
  refine r_istore_2 iX6_figureOf_1 rfl ?_
  refine r_iconst (v := 0) iX6_figureOf_2 rfl ?_
  refine r_istore_3 iX6_figureOf_3 rfl ?_
  have := loop j 0 (by omega)
  rw [Nat.pow_zero, Nat.div_one] at this
  exact this
end
section
/-! acts told ahead, fairs -/
def okU (n : Nat) (u : Int32) : Prop := u = -9 ∨ ∃ i, i < n ∧ u = nI i
theorem nxt_ok (n : Nat) (t : Nat → Nat → Int32) (f : Nat) (hn : 0 < n) : ∀ j, nxt n t f j = -9 ∨ ∃ i, i < n ∧ t i 7 = 0 ∧ nxt n t f j = nI i
  | 0 => Or.inl rfl
  | j + 1 => by
    rw [nxt]
    by_cases g : t ((f + (n - (j + 1))) % n) 7 = 0
    · rw [if_pos g]; exact Or.inr ⟨_, Nat.mod_lt _ hn, g, rfl⟩
    · rw [if_neg g]; exact nxt_ok n t f hn j
theorem nxt_okU (n : Nat) (t : Nat → Nat → Int32) (f : Nat) : okU n (nxt n t f n) := by
  rcases Nat.eq_zero_or_pos n with h | h
  · subst h; exact Or.inl rfl
  · rcases nxt_ok n t f h n with g | ⟨i, hi, -, g⟩
    · exact Or.inl g
    · exact Or.inr ⟨i, hi, g⟩
theorem goOnC_okU (n : Nat) (b : Int32) (i : Nat) (t : Nat → Nat → Int32) : okU n (goOnC n b i t).2.2.1 := by
  unfold goOnC
  split
  · exact nxt_okU _ _ _
  · exact nxt_okU _ _ _
theorem nI_9 {i : Nat} (hi : i < 2 ^ 31) : nI i ≠ -9 := fun q => nI_pos hi (by rw [q]; decide)
theorem e_tn {i : Nat} (hi : i < 2 ^ 31) : (nI i).toNatClampNeg = i := nI_clamp hi
/-- the place of the first figure that can not be; the contest there -/
def jdg (R9 m : Nat) : Nat → Nat → Cn → Int32
  | 0, _, _ => -9
  | j + 1, p, K => if K.2.2.1 = -9 ∨ 2 < R9 / 10 ^ (m - 1 - p) % 10 then nI p else jdg R9 m j (p + 1) (actC K.1 K.2.1 K.2.2.1.toNatClampNeg K.2.2.2 (R9 / 10 ^ (m - 1 - p) % 10))
theorem mapT_id (t : Nat → Nat → Int32) (n : Nat) (t2 : Nat → Nat → Int32) {i : Nat} (hi : i < n) : mapT (fun j _ => t j) t2 n i = t i := by simp [mapT, hi]
theorem c6_judge_n {h : Hp} (x r : Int32) (hx : x < 1 ∨ 8 < x) : PU MX6_judge 5 [.ref 2, .int x, .int r] h (.int (-2)) (fun h' => h' = h) := by
  intro z
  refine Cal_of_R (by decide +kernel) (L := [.ref 2, .int x, .int r, .null, .null]) rfl (Nat.le_of_ble_eq_true rfl) ?_
  by_cases h0 : x < 1
  · refine r_iload iX6_judge_0 rfl ?_
    refine r_iconst (v := 1) iX6_judge_1 rfl ?_
    refine r_icmp_lt iX6_judge_2 (fun _ => ?_) (fun g9 => absurd (h0) g9)
    refine r_bipush (v := (-2)) iX6_judge_26 rfl ?_
    refine r_iret iX6_judge_28 rfl ?_
    exact ⟨rfl, rfl, rfl, fun _ _ => rfl⟩
  · refine r_iload iX6_judge_0 rfl ?_
    refine r_iconst (v := 1) iX6_judge_1 rfl ?_
    refine r_icmp_lt iX6_judge_2 (fun g9 => absurd g9 (h0)) (fun _ => ?_)
    refine r_iload iX6_judge_5 rfl ?_
    refine r_bipush (v := 8) iX6_judge_6 rfl ?_
    refine r_icmp_gt iX6_judge_8 (fun _ => ?_) (fun g9 => absurd ((hx.resolve_left h0)) g9)
    refine r_bipush (v := (-2)) iX6_judge_26 rfl ?_
    refine r_iret iX6_judge_28 rfl ?_
    exact ⟨rfl, rfl, rfl, fun _ _ => rfl⟩
theorem c6_judge_neg {h : Hp} {m : Nat} (h1 : 1 ≤ m) (h8 : m ≤ 8) (r : Int32) (hr : r < 0) : PU MX6_judge 5 [.ref 2, .int (nI m), .int r] h (.int (-2)) (fun h' => h' = h) := by
  intro z
  refine Cal_of_R (by decide +kernel) (L := [.ref 2, .int (nI m), .int r, .null, .null]) rfl (Nat.le_of_ble_eq_true rfl) ?_
  refine r_iload iX6_judge_0 rfl ?_
  refine r_iconst (v := 1) iX6_judge_1 rfl ?_
  refine r_icmp_lt iX6_judge_2 (fun g9 => absurd g9 (nI_nlt (b := 1) h1 (by omega))) (fun _ => ?_)
  refine r_iload iX6_judge_5 rfl ?_
  refine r_bipush (v := 8) iX6_judge_6 rfl ?_
  refine r_icmp_gt iX6_judge_8 (fun g9 => absurd g9 (nI_nlt (a := 8) h8 (by omega))) (fun _ => ?_)
  refine r_iload iX6_judge_11 rfl ?_
  refine r_if_lt iX6_judge_12 (fun _ => ?_) (fun g9 => absurd (hr) g9)
  refine r_bipush (v := (-2)) iX6_judge_26 rfl ?_
  refine r_iret iX6_judge_28 rfl ?_
  exact ⟨rfl, rfl, rfl, fun _ _ => rfl⟩
def tenAt (h : Hp) : Prop := h 1 = some (.inl (.long, 13, fun j => .long (lN (10 ^ j))))
theorem ten_at {m : Nat} (hm : m < 2 ^ 31) : (fun j : Nat => Value.long (lN (10 ^ j))) (nI m).toNatClampNeg = .long (lN (10 ^ m)) := by
  show Value.long (lN (10 ^ (nI m).toNatClampNeg)) = _
  rw [nI_clamp hm]
theorem ten_lt {m : Nat} (hm : m ≤ 12) : 10 ^ m < 2 ^ 63 := Nat.lt_of_le_of_lt (Nat.pow_le_pow_right (by decide) hm) (by decide)
theorem c6_judge_big {h : Hp} (hT : tenAt h) {m : Nat} (h1 : 1 ≤ m) (h8 : m ≤ 8) {R9 : Nat} (hR : R9 < 2 ^ 31) (hb : 10 ^ m ≤ R9) : PU MX6_judge 5 [.ref 2, .int (nI m), .int (nI R9)] h (.int (-2)) (fun h' => h' = h) := by
  intro z
  refine Cal_of_R (by decide +kernel) (L := [.ref 2, .int (nI m), .int (nI R9), .null, .null]) rfl (Nat.le_of_ble_eq_true rfl) ?_
  refine r_iload iX6_judge_0 rfl ?_
  refine r_iconst (v := 1) iX6_judge_1 rfl ?_
  refine r_icmp_lt iX6_judge_2 (fun g9 => absurd g9 (nI_nlt (b := 1) h1 (by omega))) (fun _ => ?_)
  refine r_iload iX6_judge_5 rfl ?_
  refine r_bipush (v := 8) iX6_judge_6 rfl ?_
  refine r_icmp_gt iX6_judge_8 (fun g9 => absurd g9 (nI_nlt (a := 8) h8 (by omega))) (fun _ => ?_)
  refine r_iload iX6_judge_11 rfl ?_
  refine r_if_lt iX6_judge_12 (fun g9 => absurd g9 (nI_pos hR)) (fun _ => ?_)
  refine r_iload iX6_judge_15 rfl ?_
  refine r_i2l iX6_judge_16 ?_
  refine r_getTENS iX6_judge_17 (gt_2 104 rfl rfl) ?_
  refine r_iload iX6_judge_20 rfl ?_
  refine r_laload iX6_judge_21 (hT) (vp_in_nI (by omega) (by decide)) (ten_at (by omega)) ?_
  refine r_lcmp iX6_judge_22 ?_
  have g : ¬ lg_cmp (nI R9).toInt64 (lN (10 ^ m)) < 0 := fun q => by
    rw [lg_cmp_lt, nI_l hR, pk_lLT (by omega) (ten_lt (by omega))] at q
    omega
  refine r_if_lt iX6_judge_23 (fun g9 => absurd g9 (g)) (fun _ => ?_)
  refine r_bipush (v := (-2)) iX6_judge_26 rfl ?_
  refine r_iret iX6_judge_28 rfl ?_
  exact ⟨rfl, rfl, rfl, fun _ _ => rfl⟩
theorem c6_judge {h : Hp} (hT : tenAt h) {T : Tx} {n : Nat} {b u : Int32} {t : Nat → Nat → Int32} {sz nx : Nat} {W sl : Nat → Cn} {kp : Nat → Int32} {seed : Int64} (hn : n ≤ 4) (hu : okU n u) (H : cls h T (n, b, u, t) sz nx W sl kp seed) {m : Nat} (h1 : 1 ≤ m) (h8 : m ≤ 8) {R9 : Nat} (hR : R9 < 10 ^ m) : ∃ t0, PU MX6_judge 5 [.ref 2, .int (nI m), .int (nI R9)] h (.int (jdg R9 m m 0 (copyC (n, b, u, t) t0))) (fun h' => cls h' T (n, b, u, t) sz nx W sl kp seed) := by
  obtain ⟨tr, pt, h_obj, h_tx, h_cu, h_tr, h_ac, h_sl, h_kp, h_pt, h_sh⟩ := id H
  have hR31 : R9 < 2 ^ 31 := Nat.lt_of_lt_of_le hR (Nat.le_trans (Nat.pow_le_pow_right (by decide) h8) (by decide))
  refine ⟨tr.2.2.2, ?_⟩
  intro z
  have P := Pr_con h_tr (c2_copyFrom h 11 5 (by omega) tr hn b u t (by omega) h_cu)
  refine Cal_of_R (by decide +kernel) (L := [.ref 2, .int (nI m), .int (nI R9), .null, .null]) rfl (Nat.le_of_ble_eq_true rfl) ?_
  refine r_iload iX6_judge_0 rfl ?_
  refine r_iconst (v := 1) iX6_judge_1 rfl ?_
  refine r_icmp_lt iX6_judge_2 (fun g9 => absurd g9 (nI_nlt (b := 1) h1 (by omega))) (fun _ => ?_)
  refine r_iload iX6_judge_5 rfl ?_
  refine r_bipush (v := 8) iX6_judge_6 rfl ?_
  refine r_icmp_gt iX6_judge_8 (fun g9 => absurd g9 (nI_nlt (a := 8) h8 (by omega))) (fun _ => ?_)
  refine r_iload iX6_judge_11 rfl ?_
  refine r_if_lt iX6_judge_12 (fun g9 => absurd g9 (nI_pos hR31)) (fun _ => ?_)
  refine r_iload iX6_judge_15 rfl ?_
  refine r_i2l iX6_judge_16 ?_
  refine r_getTENS iX6_judge_17 (gt_2 104 rfl rfl) ?_
  refine r_iload iX6_judge_20 rfl ?_
  refine r_laload iX6_judge_21 (hT) (vp_in_nI (by omega) (by decide)) (ten_at (by omega)) ?_
  refine r_lcmp iX6_judge_22 ?_
  have g : lg_cmp (nI R9).toInt64 (lN (10 ^ m)) < 0 := by rw [lg_cmp_lt, nI_l hR31, pk_lLT (by omega) (ten_lt (by omega))]; exact hR
  refine r_if_lt iX6_judge_23 (fun _ => ?_) (fun g9 => absurd (g) g9)
  refine r_aload iX6_judge_29 rfl ?_
  refine r_getfield iX6_judge_30 (flX6_23 _ rfl) h_obj rfl ?_
  refine r_aload iX6_judge_33 rfl ?_
  refine r_getfield iX6_judge_34 (flX6_19 _ rfl) h_obj rfl ?_
  refine r_callV iX6_judge_37 (cX6_125 _ rfl) (P _) (by omega) (h_tr.1) rfl rfl rfl (Nat.le_of_ble_eq_true rfl) (Nat.le_of_ble_eq_true rfl) (Nat.le_of_ble_eq_true rfl) ?_
  rintro v' h' z' ⟨rfl, rfl, rfl⟩
  have ho : ∀ (K9 : Cn) (a : Nat), (a < 2 ∨ 152 ≤ a) → cOv h 11 K9 a = h a := fun K9 a ha => cOv_out _ _ _ (by omega)
  have HH : ∀ K9 : Cn, cls (cOv h 11 K9) T (n, b, u, t) sz nx W sl kp seed := fun K9 => H.tr (fun a ha => cOv_out _ _ _ (by omega)) (conAt_cOv _ _ _)
  have hobj : ∀ K9 : Cn, cOv h 11 K9 2 = some (.inr (5, [.ref 3, .ref 5, .ref 11, .ref 17, .ref 115, .ref 128, .ref 129, .ref 143, .long seed])) := fun K9 => (cOv_out _ _ _ (by omega)).trans h_obj
  have loop : ∀ (j p : Nat) (w : Value) (b1 u1 : Int32) (t1 : Nat → Nat → Int32), p + j = m → okU n u1 → jdg R9 m j p (n, b1, u1, t1) = jdg R9 m m 0 (copyC (n, b, u, t) tr.2.2.2) → ∀ z, R MX6_judge 5 0 0 (fun v h' z' => v = some (.int (jdg R9 m m 0 (copyC (n, b, u, t) tr.2.2.2))) ∧ z' = z ∧ cls h' T (n, b, u, t) sz nx W sl kp seed ∧ ∀ a, (a < 2 ∨ 152 ≤ a) → h' a = h a) 42 [.ref 2, .int (nI m), .int (nI R9), .int (nI p), w] [] (cOv h 11 (n, b1, u1, t1)) z 0 0 := by
    intro j
    induction j with
    | zero =>
      intro p w b1 u1 t1 hp hu1 hj z
      refine r_iload iX6_judge_42 rfl ?_
      refine r_iload iX6_judge_43 rfl ?_
      refine r_icmp_ge iX6_judge_44 (fun _ => ?_) (fun g9 => absurd (nI_le (by omega) (by omega)) g9)
      refine r_bipush (v := (-9)) iX6_judge_91 rfl ?_
      refine r_iret iX6_judge_93 rfl ?_
      exact ⟨by rw [← hj]; rfl, rfl, HH _, ho _⟩
    | succ j ih =>
      intro p w b1 u1 t1 hp hu1 hj z
      rw [jdg] at hj
      dsimp only at hj
      have e1 : nI m - 1 - nI p = nI (m - 1 - p) := by
        rw [show nI m - 1 = nI (m - 1) from pk_sub (b := 1) h1, pk_sub (by omega)]
      refine r_iload iX6_judge_42 rfl ?_
      refine r_iload iX6_judge_43 rfl ?_
      refine r_icmp_ge iX6_judge_44 (fun g9 => absurd g9 (nI_ge (by omega) (by omega))) (fun _ => ?_)
      refine r_iload iX6_judge_47 rfl ?_
      refine r_iload iX6_judge_48 rfl ?_
      refine r_iconst (v := 1) iX6_judge_49 rfl ?_
      refine r_isub iX6_judge_50 ?_
      refine r_iload iX6_judge_51 rfl ?_
      refine r_isub iX6_judge_52 ?_
      rw [e1]
      refine r_callS iX6_judge_53 (cX6_128 _ rfl) (c6_figureOf _ R9 (m - 1 - p) hR31 (by omega) _) (by omega) rfl rfl (Nat.le_of_ble_eq_true rfl) (Nat.le_of_ble_eq_true rfl) (Nat.le_of_ble_eq_true rfl) ?_
      rintro v h' z' ⟨rfl, rfl, rfl⟩
      have hd10 : R9 / 10 ^ (m - 1 - p) % 10 < 10 := Nat.mod_lt _ (by decide)
      generalize R9 / 10 ^ (m - 1 - p) % 10 = dd at hj hd10
      refine r_istore_4 iX6_judge_56 rfl ?_
      refine r_aload iX6_judge_58 rfl ?_
      refine r_getfield iX6_judge_59 (flX6_23 _ rfl) (hobj _) rfl ?_
      refine r_callV iX6_judge_62 (cX6_106 _ rfl) (c2_isEnded h 11 hn b1 u1 t1 _) (by omega) (cOv_obj _ _ _) rfl rfl rfl (Nat.le_of_ble_eq_true rfl) (Nat.le_of_ble_eq_true rfl) (Nat.le_of_ble_eq_true rfl) ?_
      rintro v h' z' ⟨rfl, rfl, rfl⟩
      rcases hu1 with rfl | ⟨i, hi, rfl⟩
      · rw [if_pos (Or.inl rfl)] at hj
        rw [i_end]
        refine r_if_ne iX6_judge_65 (fun _ => ?_) (fun g9 => absurd g9 (by decide))
        refine r_iload iX6_judge_74 rfl ?_
        refine r_iret iX6_judge_75 rfl ?_
        exact ⟨by rw [← hj], rfl, HH _, ho _⟩
      · rw [i_go hn hi]
        by_cases hd : 2 < dd
        · rw [if_pos (Or.inr hd)] at hj
          refine r_if_ne iX6_judge_65 (fun g9 => absurd (rfl) g9) (fun _ => ?_)
          refine r_iload iX6_judge_68 rfl ?_
          refine r_iconst (v := 2) iX6_judge_70 rfl ?_
          refine r_icmp_le iX6_judge_71 (fun g9 => absurd g9 (nI_ge (a := 2) hd (by omega))) (fun _ => ?_)
          refine r_iload iX6_judge_74 rfl ?_
          refine r_iret iX6_judge_75 rfl ?_
          exact ⟨by rw [← hj], rfl, HH _, ho _⟩
        · rw [if_neg (fun q => q.elim (nI_9 (by omega)) hd), e_tn (by omega)] at hj
          refine r_if_ne iX6_judge_65 (fun g9 => absurd (rfl) g9) (fun _ => ?_)
          refine r_iload iX6_judge_68 rfl ?_
          refine r_iconst (v := 2) iX6_judge_70 rfl ?_
          refine r_icmp_le iX6_judge_71 (fun _ => ?_) (fun g9 => absurd (nI_le (b := 2) (by omega) (by omega)) g9)
          refine r_aload iX6_judge_76 rfl ?_
          refine r_getfield iX6_judge_77 (flX6_23 _ rfl) (hobj _) rfl ?_
          refine r_iload iX6_judge_80 rfl ?_
          refine r_callV iX6_judge_82 (cX6_114 _ rfl) (c2_act h 11 (by omega) hn hi (show dd < 3 by omega) b1 t1 _) (by omega) (cOv_obj _ _ _) rfl rfl rfl (Nat.le_of_ble_eq_true rfl) (Nat.le_of_ble_eq_true rfl) (Nat.le_of_ble_eq_true rfl) ?_
          rintro v h' z' ⟨rfl, rfl, rfl⟩
          refine r_iinc_3 iX6_judge_85 (by first | exact nI_inc _ | rfl) rfl ?_
          refine r_goto iX6_judge_88 ?_
          have hA : actC n b1 i t1 dd = (n, (actC n b1 i t1 dd).2.1, (actC n b1 i t1 dd).2.2.1, (actC n b1 i t1 dd).2.2.2) := by
            have := goOnC_n n b1 i (upT t1 i (kAct (t1 i) b1 dd))
            unfold actC
            rw [show goOnC n b1 i (upT t1 i (kAct (t1 i) b1 dd)) = ((goOnC n b1 i (upT t1 i (kAct (t1 i) b1 dd))).1, (goOnC n b1 i (upT t1 i (kAct (t1 i) b1 dd))).2.1, (goOnC n b1 i (upT t1 i (kAct (t1 i) b1 dd))).2.2.1, (goOnC n b1 i (upT t1 i (kAct (t1 i) b1 dd))).2.2.2) from rfl, this]
          rw [hA] at hj ⊢
          exact ih (p + 1) _ _ _ _ (by omega) (goOnC_okU _ _ _ _) hj _
  refine r_iconst (v := 0) iX6_judge_40 rfl ?_
  refine r_istore_3 iX6_judge_41 rfl ?_
  exact loop m 0 _ _ _ _ (by omega) hu rfl _
end
section
def dr (s : Int64) : Int64 := (s.toUInt64 >>> ((33 : Int32).toInt64.toUInt64 &&& Int64.toUInt64 63)).toInt64 - (s.toUInt64 >>> ((33 : Int32).toInt64.toUInt64 &&& Int64.toUInt64 63)).toInt64 / 10 * 10
def sNext (s : Int64) : Int64 := s * 6364136223846793005 + 1442695040888963407
def fairW (K : Cn) (s : Int64) : Nat := if dr (sNext s) < (kOdds (K.2.2.2 K.2.2.1.toNatClampNeg) K.2.1 0).toInt64 then 1 else 0
def fairRun : Nat → Cn → Int64 → Cn × Int64
  | 0, K, s => (K, s)
  | f + 1, K, s => if K.2.2.1 = -9 then (K, s) else fairRun f (actC K.1 K.2.1 K.2.2.1.toNatClampNeg K.2.2.2 (fairW K s)) (sNext s)
theorem actC_eta (n : Nat) (b : Int32) (i : Nat) (t : Nat → Nat → Int32) (w : Nat) : actC n b i t w = (n, (actC n b i t w).2.1, (actC n b i t w).2.2.1, (actC n b i t w).2.2.2) := by
  have := goOnC_n n b i (upT t i (kAct (t i) b w))
  unfold actC
  rw [show goOnC n b i (upT t i (kAct (t i) b w)) = ((goOnC n b i (upT t i (kAct (t i) b w))).1, (goOnC n b i (upT t i (kAct (t i) b w))).2.1, (goOnC n b i (upT t i (kAct (t i) b w))).2.2.1, (goOnC n b i (upT t i (kAct (t i) b w))).2.2.2) from rfl, this]
theorem c6_fair {h : Hp} {T : Tx} {n : Nat} {b u : Int32} {t : Nat → Nat → Int32} {sz nx : Nat} {W sl : Nat → Cn} {kp : Nat → Int32} {seed : Int64} (hn : n ≤ 4) (hu : okU n u) (H : cls h T (n, b, u, t) sz nx W sl kp seed) : ∃ t0, PU MX6_fair 5 [.ref 2] h (.int (bitsI (leadP n (fairRun 1000 (copyC (n, b, u, t) t0) seed).1.2.2.2) n)) (fun h' => cls h' T (n, b, u, t) sz nx W sl kp (fairRun 1000 (copyC (n, b, u, t) t0) seed).2) := by
  obtain ⟨tr, pt, h_obj, h_tx, h_cu, h_tr, h_ac, h_sl, h_kp, h_pt, h_sh⟩ := id H
  refine ⟨tr.2.2.2, ?_⟩
  intro z
  have P := Pr_con h_tr (c2_copyFrom h 11 5 (by omega) tr hn b u t (by omega) h_cu)
  generalize hF : fairRun 1000 (copyC (n, b, u, t) tr.2.2.2) seed = F
  refine Cal_of_R (by decide +kernel) (L := [.ref 2, .null, .null, .null]) rfl (Nat.le_of_ble_eq_true rfl) ?_
  refine r_aload iX6_fair_0 rfl ?_
  refine r_getfield iX6_fair_1 (flX6_23 _ rfl) h_obj rfl ?_
  refine r_aload iX6_fair_4 rfl ?_
  refine r_getfield iX6_fair_5 (flX6_19 _ rfl) h_obj rfl ?_
  refine r_callV iX6_fair_8 (cX6_125 _ rfl) (P _) (by omega) (h_tr.1) rfl rfl rfl (Nat.le_of_ble_eq_true rfl) (Nat.le_of_ble_eq_true rfl) (Nat.le_of_ble_eq_true rfl) ?_
  rintro v' h' z' ⟨rfl, rfl, rfl⟩
  have fin : ∀ (hh : Hp) (b1 u1 : Int32) (t1 : Nat → Nat → Int32) (s1 : Int64) (x w : Value), cls hh T (n, b, u, t) sz nx W sl kp s1 → conAt hh 11 (n, b1, u1, t1) → (∀ a, (a < 2 ∨ 152 ≤ a) → hh a = h a) → F = ((n, b1, u1, t1), s1) → ∀ z, R MX6_fair 5 0 0 (fun v h' z' => v = some (.int (bitsI (leadP n F.1.2.2.2) n)) ∧ z' = z ∧ cls h' T (n, b, u, t) sz nx W sl kp F.2 ∧ ∀ a, (a < 2 ∨ 152 ≤ a) → h' a = h a) 89 [.ref 2, x, w, .null] [] hh z 0 0 := by
    intro hh b1 u1 t1 s1 x w HH HK ho hf z
    obtain ⟨tr2, pt2, k_obj, k_tx, k_cu, k_tr, k_ac, k_sl, k_kp, k_pt, k_sh⟩ := id HH
    refine r_aload iX6_fair_89 rfl ?_
    refine r_getfield iX6_fair_90 (flX6_23 _ rfl) (k_obj) rfl ?_
    refine r_callV iX6_fair_93 (cX6_191 _ rfl) (Fn_con HK (c2_leaders hh 11 hn b1 u1 t1) _) (by omega) (HK.1) rfl rfl rfl (Nat.le_of_ble_eq_true rfl) (Nat.le_of_ble_eq_true rfl) (Nat.le_of_ble_eq_true rfl) ?_
    rintro v' h' z' ⟨rfl, qh, rfl⟩
    rw [qh]
    refine r_iret iX6_fair_96 rfl ?_
    exact ⟨by rw [hf], rfl, by rw [hf]; exact HH, ho⟩
  have loop : ∀ (j p : Nat) (hh : Hp) (b1 u1 : Int32) (t1 : Nat → Nat → Int32) (s1 : Int64) (w : Value), p + j = 1000 → okU n u1 → clr (.int (nI p)) = .int (nI p) → cls hh T (n, b, u, t) sz nx W sl kp s1 → conAt hh 11 (n, b1, u1, t1) → (∀ a, (a < 2 ∨ 152 ≤ a) → hh a = h a) → fairRun j (n, b1, u1, t1) s1 = F → ∀ z, R MX6_fair 5 0 0 (fun v h' z' => v = some (.int (bitsI (leadP n F.1.2.2.2) n)) ∧ z' = z ∧ cls h' T (n, b, u, t) sz nx W sl kp F.2 ∧ ∀ a, (a < 2 ∨ 152 ≤ a) → h' a = h a) 13 [.ref 2, .int (nI p), w, .null] [] hh z 0 0 := by
    intro j
    induction j with
    | zero =>
      intro p hh b1 u1 t1 s1 w hp hu1 hc HH HK ho hj z
      refine r_iload iX6_fair_13 rfl ?_
      refine r_sipush (v := 1000) iX6_fair_14 rfl ?_
      refine r_icmp_ge iX6_fair_17 (fun _ => ?_) (fun g9 => absurd (nI_le (a := 1000) (by omega) (by omega)) g9)
      exact fin hh b1 u1 t1 s1 _ _ HH HK ho hj.symm z
    | succ j ih =>
      intro p hh b1 u1 t1 s1 w hp hu1 hc HH HK ho hj z
      obtain ⟨tr2, pt2, k_obj, k_tx, k_cu, k_tr, k_ac, k_sl, k_kp, k_pt, k_sh⟩ := id HH
      rw [fairRun] at hj
      dsimp only at hj
      refine r_iload iX6_fair_13 rfl ?_
      refine r_sipush (v := 1000) iX6_fair_14 rfl ?_
      refine r_icmp_ge iX6_fair_17 (fun g9 => absurd g9 (nI_ge (b := 1000) (by omega) (by omega))) (fun _ => ?_)
      refine r_aload iX6_fair_20 rfl ?_
      refine r_getfield iX6_fair_21 (flX6_23 _ rfl) (k_obj) rfl ?_
      refine r_callV iX6_fair_24 (cX6_106 _ rfl) (Fn_con HK (c2_isEnded hh 11 hn b1 u1 t1) _) (by omega) (HK.1) rfl rfl rfl (Nat.le_of_ble_eq_true rfl) (Nat.le_of_ble_eq_true rfl) (Nat.le_of_ble_eq_true rfl) ?_
      rintro v' h' z' ⟨rfl, qh, rfl⟩
      rw [qh]
      rcases hu1 with rfl | ⟨i, hi, rfl⟩
      · rw [if_pos rfl] at hj
        rw [i_end]
        refine r_if_ne iX6_fair_27 (fun _ => ?_) (fun g9 => absurd g9 (by decide))
        exact fin hh b1 _ t1 s1 _ _ HH HK ho hj.symm _
      · rw [if_neg (nI_9 (by omega)), e_tn (by omega)] at hj
        rw [i_go hn hi]
        refine r_if_ne iX6_fair_27 (fun g9 => absurd (rfl) g9) (fun _ => ?_)
        refine r_aload iX6_fair_30 rfl ?_
        refine r_aload iX6_fair_31 rfl ?_
        refine r_getfield iX6_fair_32 (flX6_55 _ rfl) (k_obj) rfl ?_
        refine r_ldc2 (v := 6364136223846793005) iX6_fair_35 (gt_2 214 rfl rfl) ?_
        refine r_lmul iX6_fair_38 ?_
        refine r_ldc2 (v := 1442695040888963407) iX6_fair_39 (gt_2 215 rfl rfl) ?_
        refine r_ladd iX6_fair_42 ?_
        refine r_putfield iX6_fair_43 (fpX6_55 _ rfl) (by omega) (k_obj) (Nat.le_of_ble_eq_true rfl) ⟨rfl, rfl⟩ ?_
        have H2 : cls (hset hh 2 (.inr (5, [.ref 3, .ref 5, .ref 11, .ref 17, .ref 115, .ref 128, .ref 129, .ref 143, .long (sNext s1)]))) T (n, b, u, t) sz nx W sl kp (sNext s1) := HH.obj (fun a ha => hset_ne _ _ (by omega)) (hset_eq _ _ _)
        have HK2 : conAt (hset hh 2 (.inr (5, [.ref 3, .ref 5, .ref 11, .ref 17, .ref 115, .ref 128, .ref 129, .ref 143, .long (sNext s1)]))) 11 (n, b1, nI i, t1) := HK.kept fun a q1 q2 => hset_ne _ _ (by omega)
        have ho2 : ∀ a, (a < 2 ∨ 152 ≤ a) → hset hh 2 (.inr (5, [.ref 3, .ref 5, .ref 11, .ref 17, .ref 115, .ref 128, .ref 129, .ref 143, .long (sNext s1)])) a = h a := fun a ha => (hset_ne _ _ (by omega)).trans (ho a ha)
        refine R_heap (show _ = hset hh 2 (.inr (5, [.ref 3, .ref 5, .ref 11, .ref 17, .ref 115, .ref 128, .ref 129, .ref 143, .long (sNext s1)])) from rfl) ?_
        generalize hset hh 2 (.inr (5, [.ref 3, .ref 5, .ref 11, .ref 17, .ref 115, .ref 128, .ref 129, .ref 143, .long (sNext s1)])) = h2 at H2 HK2 ho2
        obtain ⟨tr3, pt3, l_obj, l_tx, l_cu, l_tr, l_ac, l_sl, l_kp, l_pt, l_sh⟩ := id H2
        have hodd := Fn_con HK2 (c2_oddsOfTurn h2 11 hn hi b1 t1)
        refine r_aload iX6_fair_46 rfl ?_
        refine r_getfield iX6_fair_47 (flX6_55 _ rfl) (l_obj) rfl ?_
        refine r_bipush (v := 33) iX6_fair_50 rfl ?_
        refine r_lushr iX6_fair_52 ?_
        refine r_ldc2 (v := 10) iX6_fair_53 (gt_2 216 rfl rfl) ?_
        refine r_lrem iX6_fair_56 (by decide) ?_
        refine r_lstore_2 iX6_fair_57 rfl ?_
        refine r_aload iX6_fair_58 rfl ?_
        refine r_getfield iX6_fair_59 (flX6_23 _ rfl) (l_obj) rfl ?_
        refine r_lload iX6_fair_62 rfl ?_
        refine r_aload iX6_fair_63 rfl ?_
        refine r_getfield iX6_fair_64 (flX6_23 _ rfl) (l_obj) rfl ?_
        refine r_callV iX6_fair_67 (cX6_188 _ rfl) (hodd _) (by omega) (HK2.1) rfl rfl rfl (Nat.le_of_ble_eq_true rfl) (Nat.le_of_ble_eq_true rfl) (Nat.le_of_ble_eq_true rfl) ?_
        rintro v' h' z' ⟨rfl, qh, rfl⟩
        rw [qh]
        have acts : ∀ (w9 : Nat), w9 < 2 → w9 = fairW (n, b1, nI i, t1) s1 → ∀ z, R MX6_fair 5 0 0 (fun v h' z' => v = some (.int (bitsI (leadP n F.1.2.2.2) n)) ∧ z' = z ∧ cls h' T (n, b, u, t) sz nx W sl kp F.2 ∧ ∀ a, (a < 2 ∨ 152 ≤ a) → h' a = h a) 80 [.ref 2, .int (nI p), .long (dr (sNext s1)), .null] [.int (nI w9), .ref 11] h2 z 0 0 := by
          intro w9 hw9 hww z
          have P2 := Pr_con HK2 (c2_act h2 11 (by omega) hn hi (show w9 < 3 by omega) b1 t1)
          refine r_callV iX6_fair_80 (cX6_114 _ rfl) (P2 _) (by omega) (HK2.1) rfl rfl rfl (Nat.le_of_ble_eq_true rfl) (Nat.le_of_ble_eq_true rfl) (Nat.le_of_ble_eq_true rfl) ?_
          rintro v' h' z' ⟨rfl, rfl, rfl⟩
          refine r_iinc_1 iX6_fair_83 (by first | exact nI_inc _ | rfl) rfl ?_
          refine r_goto iX6_fair_86 ?_
          have hA := actC_eta n b1 i t1 w9
          rw [← hww] at hj
          rw [hA] at hj ⊢
          exact ih (p + 1) _ _ _ _ _ _ (by omega) (goOnC_okU _ _ _ _) rfl (H2.tr (fun a ha => cOv_out _ _ _ (by omega)) (conAt_cOv _ _ _)) (conAt_cOv _ _ _) (fun a ha => (cOv_out _ _ _ (by omega)).trans (ho2 a ha)) hj _
        by_cases g : dr (sNext s1) < (kOdds (t1 i) b1 0).toInt64
        · have hw : (1 : Nat) = fairW (n, b1, nI i, t1) s1 := by
            unfold fairW
            dsimp only
            rw [e_tn (by omega), if_pos g]
          refine r_i2l iX6_fair_70 ?_
          refine r_lcmp iX6_fair_71 ?_
          refine r_if_ge iX6_fair_72 (fun q => absurd ((lg_cmp_ge _ _).mp q) (Int64.not_le.mpr g)) (fun _ => ?_)
          refine r_iconst (v := 1) iX6_fair_75 rfl ?_
          refine r_goto iX6_fair_76 ?_
          exact acts 1 (by omega) hw _
        · have hw : (0 : Nat) = fairW (n, b1, nI i, t1) s1 := by
            unfold fairW
            dsimp only
            rw [e_tn (by omega), if_neg g]
          refine r_i2l iX6_fair_70 ?_
          refine r_lcmp iX6_fair_71 ?_
          refine r_if_ge iX6_fair_72 (fun _ => ?_) (fun q => absurd ((lg_cmp_ge _ _).mpr (Int64.not_lt.mp g)) q)
          refine r_iconst (v := 0) iX6_fair_79 rfl ?_
          exact acts 0 (by omega) hw _
  refine r_iconst (v := 0) iX6_fair_11 rfl ?_
  refine r_istore_1 iX6_fair_12 rfl ?_
  exact loop 1000 0 _ b u _ seed _ (by omega) hu rfl (H.tr (fun a ha => cOv_out _ _ _ (by omega)) (conAt_cOv _ _ _)) (conAt_cOv _ _ _) (fun a ha => cOv_out _ _ _ (by omega)) hF _
end
section
/-! looking ahead: odds as numbers, wholes, Euclid's steps -/
def pN (k : Nat → Int32) (height : Int32) (more : Int32) : Nat := (kOdds k height more).toNatClampNeg
theorem imx (x : Int32) : ∃ q, q ≤ 9 ∧ imax 0 (imin 9 x) = nI q := by
  unfold imax imin
  by_cases h : x < 9
  · rw [if_pos h]
    by_cases h0 : 0 < x
    · rw [if_pos h0]
      obtain ⟨j, hj, rfl⟩ := nI_of (x := x) (fun q => Int32.lt_irrefl (Int32.lt_trans h0 q))
      exact ⟨j, by have := (nI_ltI (b := 9) hj (by omega)).mp h; omega, rfl⟩
    · rw [if_neg h0]; exact ⟨0, by omega, rfl⟩
  · rw [if_neg h, if_pos (by decide)]; exact ⟨9, by omega, rfl⟩
theorem pN_le (k : Nat → Int32) (height more : Int32) : pN k height more ≤ 9 := by
  obtain ⟨q, hq, e⟩ := imx (9 + k 0 - height - kTired k more)
  unfold pN kOdds
  rw [e, nI_clamp (by omega)]; exact hq
theorem pN_eq (k : Nat → Int32) (height more : Int32) : kOdds k height more = nI (pN k height more) := by
  obtain ⟨q, hq, e⟩ := imx (9 + k 0 - height - kTired k more)
  unfold pN kOdds
  rw [e, nI_clamp (by omega)]
theorem ten_at12 {m : Nat} (hm : m ≤ 12) : vp_in (nI m) 13 := vp_in_nI (by omega) (by decide)
theorem c1_unitsLeft {h : Hp} (hT : tenAt h) {q : Nat} (hq : q ≤ 12) : Fn MX1_unitsLeft 0 [.int (nI q)] h (some (.long (lN (10 ^ (12 - q))))) := by
  intro z
  refine Cal_of_R (by decide +kernel) (L := [.int (nI q), .null]) rfl (Nat.le_of_ble_eq_true rfl) ?_
  refine r_bipush (v := 12) iX1_unitsLeft_0 rfl ?_
  refine r_iload iX1_unitsLeft_2 rfl ?_
  refine r_isub iX1_unitsLeft_3 ?_
  rw [show (12 : Int32) - nI q = nI (12 - q) from pk_sub (a := 12) hq]
  refine r_istore_1 iX1_unitsLeft_4 rfl ?_
  refine r_iload iX1_unitsLeft_5 rfl ?_
  refine r_if_lt iX1_unitsLeft_6 (fun g9 => absurd g9 (nI_pos (by omega))) (fun _ => ?_)
  refine r_iload iX1_unitsLeft_9 rfl ?_
  refine r_getTENSN iX1_unitsLeft_10 rfl rfl ?_
  refine r_arraylength iX1_unitsLeft_13 (hT) rfl ?_
  refine r_icmp_ge iX1_unitsLeft_14 (fun g9 => absurd g9 (nI_ge (b := 13) (by omega) (by omega))) (fun _ => ?_)
  refine r_getTENSN iX1_unitsLeft_17 rfl rfl ?_
  refine r_iload iX1_unitsLeft_20 rfl ?_
  refine r_laload iX1_unitsLeft_21 (hT) (ten_at12 (by omega)) (ten_at (by omega)) ?_
  refine r_goto iX1_unitsLeft_22 ?_
  refine r_lret iX1_unitsLeft_26 rfl ?_
  exact ⟨rfl, rfl, rfl⟩
theorem c1_wholeOf {h : Hp} {a : Nat} {k : Nat → Int32} (hk : h a = some (thr k)) {r : Nat} (hr : k 3 = nI r) (hr3 : r ≤ 3) : Fn MX1_wholeOf 0 [.ref a] h (some (.long (lN (10 ^ (3 - r))))) := by
  intro z
  refine Cal_of_R (by decide +kernel) (L := [.ref a, .null, .null, .null]) rfl (Nat.le_of_ble_eq_true rfl) ?_
  have loop : ∀ (j p : Nat) (w : Value), clr w = w → r + p + j = 3 → R MX1_wholeOf 0 0 0 (fun v h' z' => v = some (.long (lN (10 ^ (3 - r)))) ∧ h' = h ∧ z' = z) 7 [.ref a, .long (lN (10 ^ p)), .null, .int (nI (r + p))] [] h z 0 0 := by
    intro j
    induction j with
    | zero =>
      intro p w hw hp
      refine r_iload iX1_wholeOf_7 rfl ?_
      refine r_iconst (v := 3) iX1_wholeOf_8 rfl ?_
      refine r_icmp_ge iX1_wholeOf_9 (fun _ => ?_) (fun g9 => absurd (nI_le (a := 3) (by omega) (by omega)) g9)
      refine r_lload iX1_wholeOf_24 rfl ?_
      refine r_lret iX1_wholeOf_25 rfl ?_
      exact ⟨by rw [show p = 3 - r by omega], rfl, rfl⟩
    | succ j ih =>
      intro p w hw hp
      refine r_iload iX1_wholeOf_7 rfl ?_
      refine r_iconst (v := 3) iX1_wholeOf_8 rfl ?_
      refine r_icmp_ge iX1_wholeOf_9 (fun g9 => absurd g9 (nI_ge (b := 3) (by omega) (by omega))) (fun _ => ?_)
      refine r_lload iX1_wholeOf_12 rfl ?_
      refine r_ldc2 (v := 10) iX1_wholeOf_13 (gt_2 121 rfl rfl) ?_
      refine r_lmul iX1_wholeOf_16 ?_
      rw [show lN (10 ^ p) * 10 = lN (10 ^ (p + 1)) by rw [show lN (10 ^ p) * 10 = lN (10 ^ p * 10) from lN_mul _ 10, Nat.pow_succ]]
      refine r_lstore_1 iX1_wholeOf_17 rfl ?_
      refine r_iinc_3 iX1_wholeOf_18 (by first | exact nI_inc _ | rfl) rfl ?_
      refine r_goto iX1_wholeOf_21 ?_
      exact ih (p + 1) w hw (by omega)
  refine r_lconst (v := 1) iX1_wholeOf_0 rfl ?_
  refine r_lstore_1 iX1_wholeOf_1 rfl ?_
  refine r_aload iX1_wholeOf_2 rfl ?_
  refine r_getfield iX1_wholeOf_3 (flX1_9 _ rfl) hk rfl ?_
  rw [hr]
  refine r_istore_3 iX1_wholeOf_6 rfl ?_
  exact loop (3 - r) 0 .null rfl (by omega)
/-- the tenths of missing, multiplied, of m tries -/
def prodF (k : Nat → Int32) (b : Int32) : Nat → Nat
  | 0 => 1
  | m + 1 => prodF k b m * (10 - pN k b (nI m))
theorem prodF_le (k : Nat → Int32) (b : Int32) : ∀ m, prodF k b m ≤ 10 ^ m
  | 0 => Nat.le_refl _
  | m + 1 => by rw [prodF, Nat.pow_succ]; exact Nat.mul_le_mul (prodF_le k b m) (Nat.sub_le _ _)
theorem c1_failing {h : Hp} {a : Nat} {k : Nat → Int32} (hk : h a = some (thr k)) (b : Int32) {r : Nat} (hr : k 3 = nI r) (hr3 : r ≤ 3) : Fn MX1_failing 2 [.ref a, .int b] h (some (.long (lN (prodF k b (3 - r))))) := by
  intro z
  refine Cal_of_R (by decide +kernel) (L := [.ref a, .int b, .null, .null, .null, .null]) rfl (Nat.le_of_ble_eq_true rfl) ?_
  have loop : ∀ (j p : Nat), r + p + j = 3 → ∀ z, R MX1_failing 2 0 0 (fun v h' z' => v = some (.long (lN (prodF k b (3 - r)))) ∧ h' = h ∧ z' = z) 11 [.ref a, .int b, .long (lN (prodF k b p)), .null, .int (nI p), .int (nI (r + p))] [] h z 0 0 := by
    intro j
    induction j with
    | zero =>
      intro p hp z
      refine r_iload iX1_failing_11 rfl ?_
      refine r_iconst (v := 3) iX1_failing_13 rfl ?_
      refine r_icmp_ge iX1_failing_14 (fun _ => ?_) (fun g9 => absurd (nI_le (a := 3) (by omega) (by omega)) g9)
      refine r_lload iX1_failing_40 rfl ?_
      refine r_lret iX1_failing_41 rfl ?_
      exact ⟨by rw [show p = 3 - r by omega], rfl, rfl⟩
    | succ j ih =>
      intro p hp z
      refine r_iload iX1_failing_11 rfl ?_
      refine r_iconst (v := 3) iX1_failing_13 rfl ?_
      refine r_icmp_ge iX1_failing_14 (fun g9 => absurd g9 (nI_ge (b := 3) (by omega) (by omega))) (fun _ => ?_)
      refine r_lload iX1_failing_17 rfl ?_
      refine r_bipush (v := 10) iX1_failing_18 rfl ?_
      refine r_aload iX1_failing_20 rfl ?_
      refine r_iload iX1_failing_21 rfl ?_
      refine r_iload iX1_failing_22 rfl ?_
      refine r_callV iX1_failing_24 (cX1_17 _ rfl) (c5_oddsAt h k hk b (nI p) _) (by omega) (hk) rfl rfl rfl (Nat.le_of_ble_eq_true rfl) (Nat.le_of_ble_eq_true rfl) (Nat.le_of_ble_eq_true rfl) ?_
      rintro v h' z' ⟨rfl, qh, rfl⟩
      rw [qh, pN_eq]
      refine r_isub iX1_failing_27 ?_
      have hp9 := pN_le k b (nI p)
      rw [show (10 : Int32) - nI (pN k b (nI p)) = nI (10 - pN k b (nI p)) from pk_sub (a := 10) (by omega)]
      refine r_i2l iX1_failing_28 ?_
      refine r_lmul iX1_failing_29 ?_
      rw [nI_l (by omega), lN_mul]
      refine r_lstore_2 iX1_failing_30 rfl ?_
      refine r_iinc_4 iX1_failing_31 (by first | exact nI_inc _ | rfl) rfl ?_
      refine r_iinc_5 iX1_failing_34 (by first | exact nI_inc _ | rfl) rfl ?_
      refine r_goto iX1_failing_37 ?_
      exact ih (p + 1) (by omega) _
  refine r_lconst (v := 1) iX1_failing_0 rfl ?_
  refine r_lstore_2 iX1_failing_1 rfl ?_
  refine r_iconst (v := 0) iX1_failing_2 rfl ?_
  refine r_istore_4 iX1_failing_3 rfl ?_
  refine r_aload iX1_failing_5 rfl ?_
  refine r_getfield iX1_failing_6 (flX1_9 _ rfl) hk rfl ?_
  rw [hr]
  refine r_istore_5 iX1_failing_9 rfl ?_
  exact loop (3 - r) 0 (by omega) z
/-- Euclid's steps -/
def eu : Nat → Nat → Nat → Nat
  | 0, a, _ => a
  | f + 1, a, b => if b = 0 then a else eu f b (a % b)
theorem eu_gcd : ∀ (j f a b : Nat), b < 2 ^ j → 2 * j + 1 ≤ f → eu f a b = Nat.gcd a b
  | 0, f, a, b, hb, hf => by
    obtain ⟨f, rfl⟩ : ∃ g, f = g + 1 := ⟨f - 1, by omega⟩
    have : b = 0 := by simpa using hb
    subst this
    rw [eu, if_pos rfl, Nat.gcd_zero_right]
  | j + 1, f, a, b, hb, hf => by
    obtain ⟨f, rfl⟩ : ∃ g, f = g + 2 := ⟨f - 2, by omega⟩
    rw [eu]
    by_cases h0 : b = 0
    · rw [if_pos h0, h0, Nat.gcd_zero_right]
    · rw [if_neg h0, eu]
      have hc : a % b < b := Nat.mod_lt _ (Nat.pos_of_ne_zero h0)
      by_cases h1 : a % b = 0
      · rw [if_pos h1, Nat.gcd_comm, Nat.gcd_rec, h1, Nat.gcd_zero_left]
      · rw [if_neg h1]
        have hlt : b % (a % b) < 2 ^ j := by
          generalize a % b = c at hc h1
          have h2 : b % c < c := Nat.mod_lt _ (Nat.pos_of_ne_zero h1)
          have h3 : b % c + c ≤ b := by
            have := Nat.div_add_mod b c
            have h4 : 1 ≤ b / c := (Nat.le_div_iff_mul_le (Nat.pos_of_ne_zero h1)).mpr (by omega)
            have h5 : c * 1 ≤ c * (b / c) := Nat.mul_le_mul_left c h4
            omega
          have h6 : 2 ^ (j + 1) = 2 * 2 ^ j := by rw [Nat.pow_succ, Nat.mul_comm]
          omega
        rw [eu_gcd j f _ _ hlt (by omega), Nat.gcd_comm a b, Nat.gcd_rec b a, Nat.gcd_comm (a % b) (b % (a % b)), ← Nat.gcd_rec (a % b) b]
theorem c6_commonDivisor (h : Hp) (x y : Nat) (hx : x < 2 ^ 63) (hy : y < 2 ^ 49) : Fn MX6_commonDivisor 0 [.long (lN x), .long (lN y)] h (some (.long (lN (Nat.gcd x y)))) := by
  intro z
  have hg : eu 100 x y = Nat.gcd x y := eu_gcd 49 100 x y hy (by omega)
  rw [← hg]
  refine Cal_of_R (by decide +kernel) (L := [.long (lN x), .null, .long (lN y), .null, .null, .null, .null, .null, .null, .null, .null]) rfl (Nat.le_of_ble_eq_true rfl) ?_
  have loop : ∀ (j p a b : Nat) (w : Value), p + j = 100 → a < 2 ^ 63 → b < 2 ^ 63 → eu j a b = eu 100 x y → R MX6_commonDivisor 0 0 0 (fun v h' z' => v = some (.long (lN (eu 100 x y))) ∧ h' = h ∧ z' = z) 9 [.long (lN x), .null, .long (lN y), .null, .long (lN a), .null, .long (lN b), .null, .int (nI p), w, .null] [] h z 0 0 := by
    intro j
    induction j with
    | zero =>
      intro p a b w hp ha hb he
      refine r_iload iX6_commonDivisor_9 rfl ?_
      refine r_bipush (v := 100) iX6_commonDivisor_11 rfl ?_
      refine r_icmp_ge iX6_commonDivisor_13 (fun _ => ?_) (fun g9 => absurd (nI_le (a := 100) (by omega) (by omega)) g9)
      refine r_lload iX6_commonDivisor_44 rfl ?_
      refine r_lret iX6_commonDivisor_46 rfl ?_
      exact ⟨by rw [← he]; rfl, rfl, rfl⟩
    | succ j ih =>
      intro p a b w hp ha hb he
      rw [eu] at he
      refine r_iload iX6_commonDivisor_9 rfl ?_
      refine r_bipush (v := 100) iX6_commonDivisor_11 rfl ?_
      refine r_icmp_ge iX6_commonDivisor_13 (fun g9 => absurd g9 (nI_ge (b := 100) (by omega) (by omega))) (fun _ => ?_)
      refine r_lload iX6_commonDivisor_16 rfl ?_
      refine r_lconst (v := 0) iX6_commonDivisor_18 rfl ?_
      refine r_lcmp iX6_commonDivisor_19 ?_
      by_cases h0 : b = 0
      · rw [if_pos h0] at he
        have g : lg_cmp (lN b) 0 = 0 := (lg_cmp_eq _ _).mpr (by rw [h0]; rfl)
        refine r_if_eq iX6_commonDivisor_20 (fun _ => ?_) (fun g9 => absurd (g) g9)
        refine r_lload iX6_commonDivisor_44 rfl ?_
        refine r_lret iX6_commonDivisor_46 rfl ?_
        exact ⟨by rw [← he], rfl, rfl⟩
      · rw [if_neg h0] at he
        have g0 : ¬ lN b = 0 := fun q => h0 ((pk_lEQ (b := 0) hb (by omega)).mp q)
        have g : ¬ lg_cmp (lN b) 0 = 0 := fun q => g0 ((lg_cmp_eq _ _).mp q)
        refine r_if_eq iX6_commonDivisor_20 (fun g9 => absurd g9 (g)) (fun _ => ?_)
        refine r_lload iX6_commonDivisor_23 rfl ?_
        refine r_lload iX6_commonDivisor_25 rfl ?_
        refine r_lrem iX6_commonDivisor_27 (g0) ?_
        rw [pk_lRem ha (Nat.pos_of_ne_zero h0) hb]
        refine r_lstore_9 iX6_commonDivisor_28 rfl ?_
        refine r_lload iX6_commonDivisor_30 rfl ?_
        refine r_lstore_4 iX6_commonDivisor_32 rfl ?_
        refine r_lload iX6_commonDivisor_34 rfl ?_
        refine r_lstore_6 iX6_commonDivisor_36 rfl ?_
        refine r_iinc_8 iX6_commonDivisor_38 (by first | exact nI_inc _ | rfl) rfl ?_
        refine r_goto iX6_commonDivisor_41 ?_
        exact ih (p + 1) b (a % b) _ (by omega) hb (Nat.lt_of_lt_of_le (Nat.mod_lt _ (Nat.pos_of_ne_zero h0)) (Nat.le_of_lt hb)) he
  refine r_lload iX6_commonDivisor_0 rfl ?_
  refine r_lstore_4 iX6_commonDivisor_1 rfl ?_
  refine r_lload iX6_commonDivisor_3 rfl ?_
  refine r_lstore_6 iX6_commonDivisor_4 rfl ?_
  refine r_iconst (v := 0) iX6_commonDivisor_6 rfl ?_
  refine r_istore_8 iX6_commonDivisor_7 rfl ?_
  exact loop 100 0 x y _ (by omega) hx (by omega) rfl
theorem c6_leastTerms (h : Hp) (x y : Nat) (u : Int32) (hx : x < 2 ^ 63) (hy : y < 2 ^ 49) (h0 : 0 < y) : Fn MX6_leastTerms 1 [.long (lN x), .long (lN y), .int u] h (some (.long (lN ((if u = 0 then y else x) / Nat.gcd x y)))) := by
  intro z
  have hgp : 0 < Nat.gcd x y := Nat.gcd_pos_of_pos_right _ h0
  have hgl : Nat.gcd x y ≤ y := Nat.gcd_le_right _ h0
  refine Cal_of_R (by decide +kernel) (L := [.long (lN x), .null, .long (lN y), .null, .int u, .null, .null, .null, .null]) rfl (Nat.le_of_ble_eq_true rfl) ?_
  have tail : ∀ w : Nat, w < 2 ^ 63 → w = (if u = 0 then y else x) → ∀ z, R MX6_leastTerms 1 0 0 (fun v h' z' => v = some (.long (lN ((if u = 0 then y else x) / Nat.gcd x y))) ∧ h' = h ∧ z' = z) 17 [.long (lN x), .null, .long (lN y), .null, .int u, .long (lN (Nat.gcd x y)), .null, .null, .null] [.long (lN w)] h z 0 0 := by
    intro w hw e z
    rw [← e]
    refine r_lstore_7 iX6_leastTerms_17 rfl ?_
    refine r_lload iX6_leastTerms_19 rfl ?_
    refine r_lconst (v := 1) iX6_leastTerms_21 rfl ?_
    refine r_lcmp iX6_leastTerms_22 ?_
    by_cases g : 1 < Nat.gcd x y
    · have g2 : ¬ lg_cmp (lN (Nat.gcd x y)) 1 ≤ 0 := fun q => by
        rw [lg_cmp_le] at q
        exact absurd ((pk_lLE (b := 1) (by omega) (by omega)).mp q) (by omega)
      refine r_if_le iX6_leastTerms_23 (fun g9 => absurd g9 (g2)) (fun _ => ?_)
      refine r_lload iX6_leastTerms_26 rfl ?_
      refine r_lload iX6_leastTerms_28 rfl ?_
      refine r_ldiv iX6_leastTerms_30 (fun q => absurd ((pk_lEQ (b := 0) (by omega) (by omega)).mp q) (by omega)) ?_
      rw [pk_lDiv hw hgp (by omega)]
      refine r_goto iX6_leastTerms_31 ?_
      refine r_lret iX6_leastTerms_36 rfl ?_
      exact ⟨rfl, rfl, rfl⟩
    · have g1 : Nat.gcd x y = 1 := by omega
      have g2 : lg_cmp (lN (Nat.gcd x y)) 1 ≤ 0 := (lg_cmp_le _ _).mpr (by rw [g1]; decide)
      refine r_if_le iX6_leastTerms_23 (fun _ => ?_) (fun g9 => absurd (g2) g9)
      refine r_lload iX6_leastTerms_34 rfl ?_
      refine r_lret iX6_leastTerms_36 rfl ?_
      exact ⟨by rw [g1, Nat.div_one], rfl, rfl⟩
  refine r_lload iX6_leastTerms_0 rfl ?_
  refine r_lload iX6_leastTerms_1 rfl ?_
  refine r_callS iX6_leastTerms_2 (cX6_174 _ rfl) (c6_commonDivisor h x y hx hy _) (by omega) rfl rfl (Nat.le_of_ble_eq_true rfl) (Nat.le_of_ble_eq_true rfl) (Nat.le_of_ble_eq_true rfl) ?_
  rintro v h' z' ⟨rfl, qh, rfl⟩
  rw [qh]
  refine r_lstore_5 iX6_leastTerms_5 rfl ?_
  refine r_iload iX6_leastTerms_7 rfl ?_
  refine r_if_eq iX6_leastTerms_9 (fun g => ?_) (fun g => ?_)
  · refine r_lload iX6_leastTerms_16 rfl ?_
    exact tail y (by omega) (by rw [if_pos g]) _
  · refine r_lload iX6_leastTerms_12 rfl ?_
    refine r_goto iX6_leastTerms_13 ?_
    exact tail x hx (by rw [if_neg g]) _
end
section
/-! the greatest mean -/
def grt (k : Nat → Int32) (b : Int32) (n : Nat) : Nat → Nat → Nat → Nat → Nat → Nat
  | 0, _, _, q, last => last * 10 ^ (12 - q)
  | f + 1, st, r, q, last => if n ≤ st ∨ 3 ≤ r ∨ 12 ≤ q then last * 10 ^ (12 - q) else max (pN k (b + nI st) (nI q) * grt k b n f (st + 1) 0 (q + 1) (st + 1) + (10 - pN k (b + nI st) (nI q)) * grt k b n f st (r + 1) (q + 1) last) (grt k b n f (st + 1) r q last)
def tryN (k : Nat → Int32) (b : Int32) (n f st r q last : Nat) : Nat := pN k (b + nI st) (nI q) * grt k b n f (st + 1) 0 (q + 1) (st + 1) + (10 - pN k (b + nI st) (nI q)) * grt k b n f st (r + 1) (q + 1) last
theorem mix_le {p x y c : Nat} (hp : p ≤ 9) (hx : x ≤ c) (hy : y ≤ c) : p * x + (10 - p) * y ≤ 10 * c := by
  have h1 : p * x ≤ p * c := Nat.mul_le_mul_left _ hx
  have h2 : (10 - p) * y ≤ (10 - p) * c := Nat.mul_le_mul_left _ hy
  have h3 : p * c + (10 - p) * c = 10 * c := by rw [← Nat.add_mul]; congr 1; omega
  omega
theorem grt_le (k : Nat → Int32) (b : Int32) {n : Nat} (hn : n ≤ 4) : ∀ (f st r q last : Nat), last ≤ 4 → grt k b n f st r q last ≤ 4 * 10 ^ (12 - q)
  | 0, st, r, q, last, h => Nat.mul_le_mul_right _ h
  | f + 1, st, r, q, last, h => by
    rw [grt]
    split
    · exact Nat.mul_le_mul_right _ h
    · rename_i g
      have hq : q < 12 := by omega
      have e : 4 * 10 ^ (12 - q) = 10 * (4 * 10 ^ (12 - (q + 1))) := by
        rw [show 12 - q = 12 - (q + 1) + 1 by omega, Nat.pow_succ]; omega
      refine Nat.max_le.mpr ⟨?_, grt_le k b hn f _ _ _ _ h⟩
      rw [e]
      exact mix_le (pN_le _ _ _) (grt_le k b hn f _ _ _ _ (by omega)) (grt_le k b hn f _ _ _ _ h)
theorem small12 {x q : Nat} (h : x ≤ 4 * 10 ^ (12 - q)) : x < 2 ^ 63 := by
  have : 10 ^ (12 - q) ≤ 10 ^ 12 := Nat.pow_le_pow_right (by decide) (Nat.sub_le _ _)
  omega
theorem lmax_lN {x y : Nat} (hx : x < 2 ^ 63) (hy : y < 2 ^ 63) : lmax (lN x) (lN y) = lN (max x y) := by
  unfold lmax
  by_cases g : y < x
  · rw [if_pos ((pk_lLT hy hx).mpr g), Nat.max_eq_left (by omega)]
  · rw [if_neg (fun q => g ((pk_lLT hy hx).mp q)), Nat.max_eq_right (by omega)]
def PG (h : Hp) (a : Nat) (k : Nat → Int32) (b : Int32) (n f : Nat) : Prop := ∀ st r q last, st ≤ n → r ≤ 3 → q ≤ 12 → last ≤ 4 → (n - st) + (12 - q) ≤ f → Fn MX1_greatest (2 * f + 4) [.ref a, .int b, .int (nI n), .int (nI st), .int (nI r), .int (nI q), .int (nI last)] h (some (.long (lN (grt k b n f st r q last))))
theorem c1_byTrying {h : Hp} {a : Nat} {k : Nat → Int32} (hk : h a = some (thr k)) (b : Int32) {n f : Nat} (hn : n ≤ 4) (hG : PG h a k b n f) {st r q last : Nat} (hst : st < n) (hr : r < 3) (hq : q < 12) (hl : last ≤ 4) (hf : (n - st) + (12 - q) ≤ f + 1) : Fn MX1_byTrying (2 * f + 5) [.ref a, .int b, .int (nI n), .int (nI st), .int (nI r), .int (nI q), .int (nI last)] h (some (.long (lN (tryN k b n f st r q last)))) := by
  intro z
  have hp9 := pN_le k (b + nI st) (nI q)
  refine Cal_of_R (by decide +kernel) (L := [.ref a, .int b, .int (nI n), .int (nI st), .int (nI r), .int (nI q), .int (nI last), .null, .null, .null, .null, .null]) rfl (Nat.le_of_ble_eq_true rfl) ?_
  refine r_iload iX1_byTrying_0 rfl ?_
  refine r_bipush (v := 12) iX1_byTrying_2 rfl ?_
  refine r_icmp_lt iX1_byTrying_4 (fun _ => ?_) (fun g9 => absurd (nI_lt (b := 12) hq (by omega)) g9)
  refine r_aload iX1_byTrying_9 rfl ?_
  refine r_iload iX1_byTrying_10 rfl ?_
  refine r_iload iX1_byTrying_11 rfl ?_
  refine r_iadd iX1_byTrying_12 ?_
  refine r_iload iX1_byTrying_13 rfl ?_
  refine r_callV iX1_byTrying_15 (cX1_17 _ rfl) (c5_oddsAt h k hk _ _ _) (by omega) (hk) rfl rfl rfl (Nat.le_of_ble_eq_true rfl) (Nat.le_of_ble_eq_true rfl) (Nat.le_of_ble_eq_true rfl) ?_
  rintro v h' z' ⟨rfl, qh, rfl⟩
  rw [qh, pN_eq]
  have e1 : nI st + 1 = nI (st + 1) := nI_1 st
  have e2 : nI q + 1 = nI (q + 1) := nI_1 q
  have e3 : nI r + 1 = nI (r + 1) := nI_1 r
  refine r_istore_7 iX1_byTrying_18 rfl ?_
  refine r_aload iX1_byTrying_20 rfl ?_
  refine r_iload iX1_byTrying_21 rfl ?_
  refine r_iload iX1_byTrying_22 rfl ?_
  refine r_iload iX1_byTrying_23 rfl ?_
  refine r_iconst (v := 1) iX1_byTrying_24 rfl ?_
  refine r_iadd iX1_byTrying_25 ?_
  refine r_iconst (v := 0) iX1_byTrying_26 rfl ?_
  refine r_iload iX1_byTrying_27 rfl ?_
  refine r_iconst (v := 1) iX1_byTrying_29 rfl ?_
  refine r_iadd iX1_byTrying_30 ?_
  refine r_iload iX1_byTrying_31 rfl ?_
  refine r_iconst (v := 1) iX1_byTrying_32 rfl ?_
  refine r_iadd iX1_byTrying_33 ?_
  rw [e1, e2]
  refine r_callS iX1_byTrying_34 (cX1_40 _ rfl) (hG (st + 1) 0 (q + 1) (st + 1) (by omega) (by omega) (by omega) (by omega) (by omega) _) (by omega) rfl rfl (Nat.le_of_ble_eq_true rfl) (Nat.le_of_ble_eq_true rfl) (Nat.le_of_ble_eq_true rfl) ?_
  rintro v h' z' ⟨rfl, qh, rfl⟩
  rw [qh]
  refine r_lstore_8 iX1_byTrying_37 rfl ?_
  refine r_aload iX1_byTrying_39 rfl ?_
  refine r_iload iX1_byTrying_40 rfl ?_
  refine r_iload iX1_byTrying_41 rfl ?_
  refine r_iload iX1_byTrying_42 rfl ?_
  refine r_iload iX1_byTrying_43 rfl ?_
  refine r_iconst (v := 1) iX1_byTrying_45 rfl ?_
  refine r_iadd iX1_byTrying_46 ?_
  refine r_iload iX1_byTrying_47 rfl ?_
  refine r_iconst (v := 1) iX1_byTrying_49 rfl ?_
  refine r_iadd iX1_byTrying_50 ?_
  refine r_iload iX1_byTrying_51 rfl ?_
  rw [e2, e3]
  refine r_callS iX1_byTrying_53 (cX1_40 _ rfl) (hG st (r + 1) (q + 1) last (by omega) (by omega) (by omega) (by omega) (by omega) _) (by omega) rfl rfl (Nat.le_of_ble_eq_true rfl) (Nat.le_of_ble_eq_true rfl) (Nat.le_of_ble_eq_true rfl) ?_
  rintro v h' z' ⟨rfl, qh, rfl⟩
  rw [qh]
  refine r_lstore_10 iX1_byTrying_56 rfl ?_
  refine r_iload iX1_byTrying_58 rfl ?_
  refine r_i2l iX1_byTrying_60 ?_
  refine r_lload iX1_byTrying_61 rfl ?_
  refine r_lmul iX1_byTrying_63 ?_
  refine r_bipush (v := 10) iX1_byTrying_64 rfl ?_
  refine r_iload iX1_byTrying_66 rfl ?_
  refine r_isub iX1_byTrying_68 ?_
  rw [show (10 : Int32) - nI (pN k (b + nI st) (nI q)) = nI (10 - pN k (b + nI st) (nI q)) from pk_sub (a := 10) (by omega)]
  refine r_i2l iX1_byTrying_69 ?_
  refine r_lload iX1_byTrying_70 rfl ?_
  refine r_lmul iX1_byTrying_72 ?_
  refine r_ladd iX1_byTrying_73 ?_
  refine r_lret iX1_byTrying_74 rfl ?_
  refine ⟨?_, rfl, rfl⟩
  rw [nI_l (by omega), nI_l (by omega), lN_mul, lN_mul, lN_add]
  rfl
theorem c1_bySparing {h : Hp} {a : Nat} {k : Nat → Int32} (b : Int32) {n f : Nat} (hn : n ≤ 4) (hG : PG h a k b n f) {st r q last : Nat} (hst : st < n) (hr : r ≤ 3) (hq : q ≤ 12) (hl : last ≤ 4) (hf : (n - st) + (12 - q) ≤ f + 1) : Fn MX1_bySparing (2 * f + 5) [.ref a, .int b, .int (nI n), .int (nI st), .int (nI r), .int (nI q), .int (nI last)] h (some (.long (lN (grt k b n f (st + 1) r q last)))) := by
  intro z
  have e1 : nI st + 1 = nI (st + 1) := nI_1 st
  refine Cal_of_R (by decide +kernel) (L := [.ref a, .int b, .int (nI n), .int (nI st), .int (nI r), .int (nI q), .int (nI last)]) rfl (Nat.le_of_ble_eq_true rfl) ?_
  refine r_iload iX1_bySparing_0 rfl ?_
  refine r_iload iX1_bySparing_1 rfl ?_
  refine r_icmp_lt iX1_bySparing_2 (fun _ => ?_) (fun g9 => absurd (nI_lt hst (by omega)) g9)
  refine r_aload iX1_bySparing_7 rfl ?_
  refine r_iload iX1_bySparing_8 rfl ?_
  refine r_iload iX1_bySparing_9 rfl ?_
  refine r_iload iX1_bySparing_10 rfl ?_
  refine r_iconst (v := 1) iX1_bySparing_11 rfl ?_
  refine r_iadd iX1_bySparing_12 ?_
  rw [e1]
  refine r_iload iX1_bySparing_13 rfl ?_
  refine r_iload iX1_bySparing_15 rfl ?_
  refine r_iload iX1_bySparing_17 rfl ?_
  refine r_callS iX1_bySparing_19 (cX1_40 _ rfl) (hG (st + 1) r q last (by omega) (by omega) (by omega) (by omega) (by omega) _) (by omega) rfl rfl (Nat.le_of_ble_eq_true rfl) (Nat.le_of_ble_eq_true rfl) (Nat.le_of_ble_eq_true rfl) ?_
  rintro v h' z' ⟨rfl, qh, rfl⟩
  rw [qh]
  refine r_lret iX1_bySparing_22 rfl ?_
  exact ⟨rfl, rfl, rfl⟩
theorem c1_greatest {h : Hp} (hT : tenAt h) {a : Nat} {k : Nat → Int32} (hk : h a = some (thr k)) (b : Int32) {n : Nat} (hn : n ≤ 4) : ∀ f, PG h a k b n f := by
  have base : ∀ (f st r q last d : Nat) (w1 : Value), 1 ≤ d → q ≤ 12 → last ≤ 4 → ∀ z, R MX1_greatest d 0 0 (fun v h' z' => v = some (.long (lN (last * 10 ^ (12 - q)))) ∧ h' = h ∧ z' = z) 18 [.ref a, .int b, .int (nI n), .int (nI st), .int (nI r), .int (nI q), .int (nI last), .null, .null] [] h z 0 0 := by
    intro f st r q last d w1 hd hq hl z
    refine r_iload iX1_greatest_18 rfl ?_
    refine r_i2l iX1_greatest_20 ?_
    refine r_iload iX1_greatest_21 rfl ?_
    refine r_callS iX1_greatest_23 (cX1_21 _ rfl) (c1_unitsLeft hT hq _) (by omega) rfl rfl (Nat.le_of_ble_eq_true rfl) (Nat.le_of_ble_eq_true rfl) (Nat.le_of_ble_eq_true rfl) ?_
    rintro v h' z' ⟨rfl, qh, rfl⟩
    rw [qh]
    refine r_lmul iX1_greatest_26 ?_
    refine r_lret iX1_greatest_27 rfl ?_
    refine ⟨?_, rfl, rfl⟩
    rw [nI_l (by omega), lN_mul]
  intro f
  induction f with
  | zero =>
    intro st r q last hst hr hq hl hf z
    refine Cal_of_R (by decide +kernel) (L := [.ref a, .int b, .int (nI n), .int (nI st), .int (nI r), .int (nI q), .int (nI last), .null, .null]) rfl (Nat.le_of_ble_eq_true rfl) ?_
    refine r_iload iX1_greatest_0 rfl ?_
    refine r_iload iX1_greatest_1 rfl ?_
    refine r_icmp_ge iX1_greatest_2 (fun _ => ?_) (fun g9 => absurd (nI_le (by omega) (by omega)) g9)
    exact base 0 st r q last _ .null (by omega) hq hl z
  | succ f ih =>
    intro st r q last hst hr hq hl hf z
    rw [grt]
    by_cases g1 : n ≤ st
    · rw [if_pos (Or.inl g1)]
      refine Cal_of_R (by decide +kernel) (L := [.ref a, .int b, .int (nI n), .int (nI st), .int (nI r), .int (nI q), .int (nI last), .null, .null]) rfl (Nat.le_of_ble_eq_true rfl) ?_
      refine r_iload iX1_greatest_0 rfl ?_
      refine r_iload iX1_greatest_1 rfl ?_
      refine r_icmp_ge iX1_greatest_2 (fun _ => ?_) (fun g9 => absurd (nI_le g1 (by omega)) g9)
      exact base 0 st r q last _ .null (by omega) hq hl z
    · by_cases g2 : 3 ≤ r
      · rw [if_pos (Or.inr (Or.inl g2))]
        refine Cal_of_R (by decide +kernel) (L := [.ref a, .int b, .int (nI n), .int (nI st), .int (nI r), .int (nI q), .int (nI last), .null, .null]) rfl (Nat.le_of_ble_eq_true rfl) ?_
        refine r_iload iX1_greatest_0 rfl ?_
        refine r_iload iX1_greatest_1 rfl ?_
        refine r_icmp_ge iX1_greatest_2 (fun g9 => absurd g9 (nI_ge (by omega) (by omega))) (fun _ => ?_)
        refine r_iload iX1_greatest_5 rfl ?_
        refine r_iconst (v := 3) iX1_greatest_7 rfl ?_
        refine r_icmp_ge iX1_greatest_8 (fun _ => ?_) (fun g9 => absurd (nI_le (a := 3) g2 (by omega)) g9)
        exact base 0 st r q last _ .null (by omega) hq hl z
      · by_cases g3 : 12 ≤ q
        · rw [if_pos (Or.inr (Or.inr g3))]
          refine Cal_of_R (by decide +kernel) (L := [.ref a, .int b, .int (nI n), .int (nI st), .int (nI r), .int (nI q), .int (nI last), .null, .null]) rfl (Nat.le_of_ble_eq_true rfl) ?_
          refine r_iload iX1_greatest_0 rfl ?_
          refine r_iload iX1_greatest_1 rfl ?_
          refine r_icmp_ge iX1_greatest_2 (fun g9 => absurd g9 (nI_ge (by omega) (by omega))) (fun _ => ?_)
          refine r_iload iX1_greatest_5 rfl ?_
          refine r_iconst (v := 3) iX1_greatest_7 rfl ?_
          refine r_icmp_ge iX1_greatest_8 (fun g9 => absurd g9 (nI_ge (b := 3) (by omega) (by omega))) (fun _ => ?_)
          refine r_iload iX1_greatest_11 rfl ?_
          refine r_bipush (v := 12) iX1_greatest_13 rfl ?_
          refine r_icmp_lt iX1_greatest_15 (fun g9 => absurd g9 (nI_nlt (b := 12) g3 (by omega))) (fun _ => ?_)
          exact base 0 st r q last _ .null (by omega) hq hl z
        · rw [if_neg (by omega)]
          have P1 := c1_byTrying hk b hn ih (st := st) (r := r) (q := q) (last := last) (by omega) (by omega) (by omega) hl hf
          have P2 := c1_bySparing (a := a) b hn ih (st := st) (r := r) (q := q) (last := last) (by omega) hr hq hl (by omega)
          have b1 : tryN k b n f st r q last < 2 ^ 63 := by
            refine small12 (q := q) ?_
            have e : 4 * 10 ^ (12 - q) = 10 * (4 * 10 ^ (12 - (q + 1))) := by
              rw [show 12 - q = 12 - (q + 1) + 1 by omega, Nat.pow_succ]; omega
            rw [e]
            exact mix_le (pN_le _ _ _) (grt_le k b hn f _ _ _ _ (by omega)) (grt_le k b hn f _ _ _ _ hl)
          have b2 : grt k b n f (st + 1) r q last < 2 ^ 63 := small12 (grt_le k b hn f _ _ _ _ hl)
          refine Cal_of_R (by decide +kernel) (L := [.ref a, .int b, .int (nI n), .int (nI st), .int (nI r), .int (nI q), .int (nI last), .null, .null]) rfl (Nat.le_of_ble_eq_true rfl) ?_
          refine r_iload iX1_greatest_0 rfl ?_
          refine r_iload iX1_greatest_1 rfl ?_
          refine r_icmp_ge iX1_greatest_2 (fun g9 => absurd g9 (nI_ge (by omega) (by omega))) (fun _ => ?_)
          refine r_iload iX1_greatest_5 rfl ?_
          refine r_iconst (v := 3) iX1_greatest_7 rfl ?_
          refine r_icmp_ge iX1_greatest_8 (fun g9 => absurd g9 (nI_ge (b := 3) (by omega) (by omega))) (fun _ => ?_)
          refine r_iload iX1_greatest_11 rfl ?_
          refine r_bipush (v := 12) iX1_greatest_13 rfl ?_
          refine r_icmp_lt iX1_greatest_15 (fun _ => ?_) (fun g9 => absurd (nI_lt (b := 12) (by omega) (by omega)) g9)
          refine r_aload iX1_greatest_28 rfl ?_
          refine r_iload iX1_greatest_29 rfl ?_
          refine r_iload iX1_greatest_30 rfl ?_
          refine r_iload iX1_greatest_31 rfl ?_
          refine r_iload iX1_greatest_32 rfl ?_
          refine r_iload iX1_greatest_34 rfl ?_
          refine r_iload iX1_greatest_36 rfl ?_
          refine r_callS iX1_greatest_38 (cX1_27 _ rfl) (P1 _) (by omega) rfl rfl (Nat.le_of_ble_eq_true rfl) (Nat.le_of_ble_eq_true rfl) (Nat.le_of_ble_eq_true rfl) ?_
          rintro v h' z' ⟨rfl, qh, rfl⟩
          rw [qh]
          refine r_lstore_7 iX1_greatest_41 rfl ?_
          refine r_lload iX1_greatest_43 rfl ?_
          refine r_aload iX1_greatest_45 rfl ?_
          refine r_iload iX1_greatest_46 rfl ?_
          refine r_iload iX1_greatest_47 rfl ?_
          refine r_iload iX1_greatest_48 rfl ?_
          refine r_iload iX1_greatest_49 rfl ?_
          refine r_iload iX1_greatest_51 rfl ?_
          refine r_iload iX1_greatest_53 rfl ?_
          refine r_callS iX1_greatest_55 (cX1_31 _ rfl) (P2 _) (by omega) rfl rfl (Nat.le_of_ble_eq_true rfl) (Nat.le_of_ble_eq_true rfl) (Nat.le_of_ble_eq_true rfl) ?_
          rintro v h' z' ⟨rfl, qh, rfl⟩
          rw [qh]
          refine r_mmaxL iX1_greatest_58 (cX1_34 _ rfl) (by omega) (Nat.le_of_ble_eq_true rfl) ?_
          refine r_lret iX1_greatest_61 rfl ?_
          exact ⟨by rw [lmax_lN b1 b2]; rfl, rfl, rfl⟩
end
