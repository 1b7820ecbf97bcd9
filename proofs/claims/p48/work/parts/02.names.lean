-- ===== PART A: goes FIRST, ahead of the names: the tables' words, and 'selects' of the private methods out of them =====
/-- a private method of a class that the tables say can be made, by its rows of tables_1 -/
def lw_okq (q : MethodName × Nat) : Prop := (q.1.cls ≠ "java/lang/invoke/MethodHandle" ∧ q.1.cls ≠ "java/lang/invoke/VarHandle") ∧ Cond.instantiable q.1.cls q.2 ∈ tables_1 ∧ Cond.privateMethod q.1 ∈ tables_1 ∧ Cond.instanceMethod q.1 ∈ tables_1
theorem lw_p0 : lw_okq (⟨"Ironbark", "requireStation", "(I)V"⟩, 16) := ⟨⟨by decide +kernel, by decide +kernel⟩, List.mem_of_getElem? (i := 26) (by decide +kernel), List.mem_of_getElem? (i := 226) (by decide +kernel), List.mem_of_getElem? (i := 227) (by decide +kernel)⟩
theorem lw_p1 : lw_okq (⟨"java/lang/Throwable", "fillInStackTrace", "(I)Ljava/lang/Throwable;"⟩, 6) := ⟨⟨by decide +kernel, by decide +kernel⟩, List.mem_of_getElem? (i := 271) (by decide +kernel), List.mem_of_getElem? (i := 269) (by decide +kernel), List.mem_of_getElem? (i := 270) (by decide +kernel)⟩
theorem lw_p2 : lw_okq (⟨"java/util/ArrayList", "add", "(Ljava/lang/Object;[Ljava/lang/Object;I)V"⟩, 3) := ⟨⟨by decide +kernel, by decide +kernel⟩, List.mem_of_getElem? (i := 36) (by decide +kernel), List.mem_of_getElem? (i := 406) (by decide +kernel), List.mem_of_getElem? (i := 407) (by decide +kernel)⟩
theorem lw_p3 : lw_okq (⟨"java/util/ArrayList", "grow", "()[Ljava/lang/Object;"⟩, 3) := ⟨⟨by decide +kernel, by decide +kernel⟩, List.mem_of_getElem? (i := 36) (by decide +kernel), List.mem_of_getElem? (i := 410) (by decide +kernel), List.mem_of_getElem? (i := 411) (by decide +kernel)⟩
theorem lw_p4 : lw_okq (⟨"java/util/ArrayList", "grow", "(I)[Ljava/lang/Object;"⟩, 3) := ⟨⟨by decide +kernel, by decide +kernel⟩, List.mem_of_getElem? (i := 36) (by decide +kernel), List.mem_of_getElem? (i := 414) (by decide +kernel), List.mem_of_getElem? (i := 415) (by decide +kernel)⟩
theorem lw_p5 : lw_okq (⟨"Ironbark", "blockOf", "(I)LIronbark$Block;"⟩, 16) := ⟨⟨by decide +kernel, by decide +kernel⟩, List.mem_of_getElem? (i := 26) (by decide +kernel), List.mem_of_getElem? (i := 465) (by decide +kernel), List.mem_of_getElem? (i := 466) (by decide +kernel)⟩
theorem lw_p6 : lw_okq (⟨"Ironbark", "crewOf", "(I)LIronbark$Crew;"⟩, 16) := ⟨⟨by decide +kernel, by decide +kernel⟩, List.mem_of_getElem? (i := 26) (by decide +kernel), List.mem_of_getElem? (i := 549) (by decide +kernel), List.mem_of_getElem? (i := 550) (by decide +kernel)⟩
theorem lw_p7 : lw_okq (⟨"Ironbark", "requireBlock", "(I)V"⟩, 16) := ⟨⟨by decide +kernel, by decide +kernel⟩, List.mem_of_getElem? (i := 26) (by decide +kernel), List.mem_of_getElem? (i := 553) (by decide +kernel), List.mem_of_getElem? (i := 554) (by decide +kernel)⟩
theorem lw_p8 : lw_okq (⟨"Ironbark", "stationOf", "(I)LIronbark$Station;"⟩, 16) := ⟨⟨by decide +kernel, by decide +kernel⟩, List.mem_of_getElem? (i := 26) (by decide +kernel), List.mem_of_getElem? (i := 567) (by decide +kernel), List.mem_of_getElem? (i := 568) (by decide +kernel)⟩
theorem lw_p9 : lw_okq (⟨"Ironbark", "trainOf", "(I)LIronbark$Train;"⟩, 16) := ⟨⟨by decide +kernel, by decide +kernel⟩, List.mem_of_getElem? (i := 26) (by decide +kernel), List.mem_of_getElem? (i := 621) (by decide +kernel), List.mem_of_getElem? (i := 622) (by decide +kernel)⟩
theorem lw_p10 : lw_okq (⟨"Ironbark", "requireTrain", "(I)V"⟩, 16) := ⟨⟨by decide +kernel, by decide +kernel⟩, List.mem_of_getElem? (i := 26) (by decide +kernel), List.mem_of_getElem? (i := 625) (by decide +kernel), List.mem_of_getElem? (i := 626) (by decide +kernel)⟩
theorem lw_p11 : lw_okq (⟨"Ironbark", "arriveAll", "()V"⟩, 16) := ⟨⟨by decide +kernel, by decide +kernel⟩, List.mem_of_getElem? (i := 26) (by decide +kernel), List.mem_of_getElem? (i := 634) (by decide +kernel), List.mem_of_getElem? (i := 635) (by decide +kernel)⟩
theorem lw_p12 : lw_okq (⟨"Ironbark", "arrive", "(LIronbark$Train;)V"⟩, 16) := ⟨⟨by decide +kernel, by decide +kernel⟩, List.mem_of_getElem? (i := 26) (by decide +kernel), List.mem_of_getElem? (i := 638) (by decide +kernel), List.mem_of_getElem? (i := 639) (by decide +kernel)⟩
theorem lw_p13 : lw_okq (⟨"Ironbark", "beginDay", "()V"⟩, 16) := ⟨⟨by decide +kernel, by decide +kernel⟩, List.mem_of_getElem? (i := 26) (by decide +kernel), List.mem_of_getElem? (i := 658) (by decide +kernel), List.mem_of_getElem? (i := 659) (by decide +kernel)⟩
theorem lw_p14 : lw_okq (⟨"Ironbark", "billNumbered", "(I)LIronbark$Bill;"⟩, 16) := ⟨⟨by decide +kernel, by decide +kernel⟩, List.mem_of_getElem? (i := 26) (by decide +kernel), List.mem_of_getElem? (i := 662) (by decide +kernel), List.mem_of_getElem? (i := 663) (by decide +kernel)⟩
theorem lw_p15 : lw_okq (⟨"Ironbark", "enterAll", "()I"⟩, 16) := ⟨⟨by decide +kernel, by decide +kernel⟩, List.mem_of_getElem? (i := 26) (by decide +kernel), List.mem_of_getElem? (i := 667) (by decide +kernel), List.mem_of_getElem? (i := 668) (by decide +kernel)⟩
def lw_privs_1 : List (MethodName × Nat) := [(⟨"Ironbark", "requireStation", "(I)V"⟩, 16), (⟨"java/lang/Throwable", "fillInStackTrace", "(I)Ljava/lang/Throwable;"⟩, 6), (⟨"java/util/ArrayList", "add", "(Ljava/lang/Object;[Ljava/lang/Object;I)V"⟩, 3), (⟨"java/util/ArrayList", "grow", "()[Ljava/lang/Object;"⟩, 3), (⟨"java/util/ArrayList", "grow", "(I)[Ljava/lang/Object;"⟩, 3), (⟨"Ironbark", "blockOf", "(I)LIronbark$Block;"⟩, 16), (⟨"Ironbark", "crewOf", "(I)LIronbark$Crew;"⟩, 16), (⟨"Ironbark", "requireBlock", "(I)V"⟩, 16), (⟨"Ironbark", "stationOf", "(I)LIronbark$Station;"⟩, 16), (⟨"Ironbark", "trainOf", "(I)LIronbark$Train;"⟩, 16), (⟨"Ironbark", "requireTrain", "(I)V"⟩, 16), (⟨"Ironbark", "arriveAll", "()V"⟩, 16), (⟨"Ironbark", "arrive", "(LIronbark$Train;)V"⟩, 16), (⟨"Ironbark", "beginDay", "()V"⟩, 16), (⟨"Ironbark", "billNumbered", "(I)LIronbark$Bill;"⟩, 16), (⟨"Ironbark", "enterAll", "()I"⟩, 16)]
theorem lw_r1 : ∀ q ∈ lw_privs_1, lw_okq q := List.forall_mem_cons.mpr ⟨lw_p0, List.forall_mem_cons.mpr ⟨lw_p1, List.forall_mem_cons.mpr ⟨lw_p2, List.forall_mem_cons.mpr ⟨lw_p3, List.forall_mem_cons.mpr ⟨lw_p4, List.forall_mem_cons.mpr ⟨lw_p5, List.forall_mem_cons.mpr ⟨lw_p6, List.forall_mem_cons.mpr ⟨lw_p7, List.forall_mem_cons.mpr ⟨lw_p8, List.forall_mem_cons.mpr ⟨lw_p9, List.forall_mem_cons.mpr ⟨lw_p10, List.forall_mem_cons.mpr ⟨lw_p11, List.forall_mem_cons.mpr ⟨lw_p12, List.forall_mem_cons.mpr ⟨lw_p13, List.forall_mem_cons.mpr ⟨lw_p14, List.forall_mem_cons.mpr ⟨lw_p15, fun _ h => absurd h List.not_mem_nil⟩⟩⟩⟩⟩⟩⟩⟩⟩⟩⟩⟩⟩⟩⟩⟩
theorem lw_p16 : lw_okq (⟨"Ironbark", "nextToEnter", "(I)I"⟩, 16) := ⟨⟨by decide +kernel, by decide +kernel⟩, List.mem_of_getElem? (i := 26) (by decide +kernel), List.mem_of_getElem? (i := 671) (by decide +kernel), List.mem_of_getElem? (i := 672) (by decide +kernel)⟩
theorem lw_p17 : lw_okq (⟨"Ironbark", "barOf", "(LIronbark$Train;)I"⟩, 16) := ⟨⟨by decide +kernel, by decide +kernel⟩, List.mem_of_getElem? (i := 26) (by decide +kernel), List.mem_of_getElem? (i := 675) (by decide +kernel), List.mem_of_getElem? (i := 676) (by decide +kernel)⟩
theorem lw_p18 : lw_okq (⟨"Ironbark", "barOfStart", "(LIronbark$Train;LIronbark$Block;)I"⟩, 16) := ⟨⟨by decide +kernel, by decide +kernel⟩, List.mem_of_getElem? (i := 26) (by decide +kernel), List.mem_of_getElem? (i := 679) (by decide +kernel), List.mem_of_getElem? (i := 680) (by decide +kernel)⟩
theorem lw_p19 : lw_okq (⟨"Ironbark", "isWaiting", "(LIronbark$Train;)Z"⟩, 16) := ⟨⟨by decide +kernel, by decide +kernel⟩, List.mem_of_getElem? (i := 26) (by decide +kernel), List.mem_of_getElem? (i := 683) (by decide +kernel), List.mem_of_getElem? (i := 684) (by decide +kernel)⟩
theorem lw_p20 : lw_okq (⟨"Ironbark", "barOfRun", "(LIronbark$Train;LIronbark$Block;I)I"⟩, 16) := ⟨⟨by decide +kernel, by decide +kernel⟩, List.mem_of_getElem? (i := 26) (by decide +kernel), List.mem_of_getElem? (i := 699) (by decide +kernel), List.mem_of_getElem? (i := 700) (by decide +kernel)⟩
theorem lw_p21 : lw_okq (⟨"Ironbark", "freeTracksAt", "(I)I"⟩, 16) := ⟨⟨by decide +kernel, by decide +kernel⟩, List.mem_of_getElem? (i := 26) (by decide +kernel), List.mem_of_getElem? (i := 718) (by decide +kernel), List.mem_of_getElem? (i := 719) (by decide +kernel)⟩
theorem lw_p22 : lw_okq (⟨"Ironbark", "takenTracks", "(I)I"⟩, 16) := ⟨⟨by decide +kernel, by decide +kernel⟩, List.mem_of_getElem? (i := 26) (by decide +kernel), List.mem_of_getElem? (i := 722) (by decide +kernel), List.mem_of_getElem? (i := 723) (by decide +kernel)⟩
theorem lw_p23 : lw_okq (⟨"Ironbark", "enter", "(LIronbark$Train;LIronbark$Block;I)V"⟩, 16) := ⟨⟨by decide +kernel, by decide +kernel⟩, List.mem_of_getElem? (i := 26) (by decide +kernel), List.mem_of_getElem? (i := 730) (by decide +kernel), List.mem_of_getElem? (i := 731) (by decide +kernel)⟩
theorem lw_p24 : lw_okq (⟨"Ironbark", "engineOf", "(I)LIronbark$Engine;"⟩, 16) := ⟨⟨by decide +kernel, by decide +kernel⟩, List.mem_of_getElem? (i := 26) (by decide +kernel), List.mem_of_getElem? (i := 751) (by decide +kernel), List.mem_of_getElem? (i := 752) (by decide +kernel)⟩
theorem lw_p25 : lw_okq (⟨"Ironbark", "leastFreeNumber", "()I"⟩, 16) := ⟨⟨by decide +kernel, by decide +kernel⟩, List.mem_of_getElem? (i := 26) (by decide +kernel), List.mem_of_getElem? (i := 755) (by decide +kernel), List.mem_of_getElem? (i := 756) (by decide +kernel)⟩
theorem lw_p26 : lw_okq (⟨"Ironbark", "endOfDraft", "(I)I"⟩, 16) := ⟨⟨by decide +kernel, by decide +kernel⟩, List.mem_of_getElem? (i := 26) (by decide +kernel), List.mem_of_getElem? (i := 772) (by decide +kernel), List.mem_of_getElem? (i := 773) (by decide +kernel)⟩
theorem lw_p27 : lw_okq (⟨"Ironbark", "carOf", "(I)LIronbark$Car;"⟩, 16) := ⟨⟨by decide +kernel, by decide +kernel⟩, List.mem_of_getElem? (i := 26) (by decide +kernel), List.mem_of_getElem? (i := 801) (by decide +kernel), List.mem_of_getElem? (i := 802) (by decide +kernel)⟩
def lw_privs_2 : List (MethodName × Nat) := [(⟨"Ironbark", "nextToEnter", "(I)I"⟩, 16), (⟨"Ironbark", "barOf", "(LIronbark$Train;)I"⟩, 16), (⟨"Ironbark", "barOfStart", "(LIronbark$Train;LIronbark$Block;)I"⟩, 16), (⟨"Ironbark", "isWaiting", "(LIronbark$Train;)Z"⟩, 16), (⟨"Ironbark", "barOfRun", "(LIronbark$Train;LIronbark$Block;I)I"⟩, 16), (⟨"Ironbark", "freeTracksAt", "(I)I"⟩, 16), (⟨"Ironbark", "takenTracks", "(I)I"⟩, 16), (⟨"Ironbark", "enter", "(LIronbark$Train;LIronbark$Block;I)V"⟩, 16), (⟨"Ironbark", "engineOf", "(I)LIronbark$Engine;"⟩, 16), (⟨"Ironbark", "leastFreeNumber", "()I"⟩, 16), (⟨"Ironbark", "endOfDraft", "(I)I"⟩, 16), (⟨"Ironbark", "carOf", "(I)LIronbark$Car;"⟩, 16)]
theorem lw_r2 : ∀ q ∈ lw_privs_2, lw_okq q := List.forall_mem_cons.mpr ⟨lw_p16, List.forall_mem_cons.mpr ⟨lw_p17, List.forall_mem_cons.mpr ⟨lw_p18, List.forall_mem_cons.mpr ⟨lw_p19, List.forall_mem_cons.mpr ⟨lw_p20, List.forall_mem_cons.mpr ⟨lw_p21, List.forall_mem_cons.mpr ⟨lw_p22, List.forall_mem_cons.mpr ⟨lw_p23, List.forall_mem_cons.mpr ⟨lw_p24, List.forall_mem_cons.mpr ⟨lw_p25, List.forall_mem_cons.mpr ⟨lw_p26, List.forall_mem_cons.mpr ⟨lw_p27, fun _ h => absurd h List.not_mem_nil⟩⟩⟩⟩⟩⟩⟩⟩⟩⟩⟩⟩
def lw_privs : List (MethodName × Nat) := lw_privs_1 ++ (lw_privs_2)
def lw_tbl : List Cond := k2_sels lw_privs ++ tables_1
theorem lw_privs_ok : ∀ q ∈ lw_privs, lw_okq q := by
  show ∀ q ∈ lw_privs_1 ++ (lw_privs_2), lw_okq q
  exact List.forall_mem_append.mpr ⟨lw_r1, lw_r2⟩
-- ===== end of PART A; then your names; then what follows =====
def RX0 : String := "Ironbark$Bill"
def TX0 : u_T := fun k => match k with
  | _ => ("", "", "", false)
def tyX0 : Nat → FieldType := fun k => match k with
  | _ => .int
abbrev wsX00 : List Cond := u_ws RX0 TX0 0
theorem nmX0 : ∀ a, a < 0 → ∀ b, b < 0 → a ≠ b → (TX0 a).2.1 ≠ (TX0 b).2.1 := by decide +kernel
theorem tyX0_ok : ∀ k, k < 0 → parseFieldDescriptor (TX0 k).2.2.1 = some (tyX0 k) := by decide +kernel
def RX1 : String := "Ironbark$Block"
def TX1 : u_T := fun k => match k with
  | 0 => ("Ironbark$Block", "first", "I", true)
  | 1 => ("Ironbark$Block", "second", "I", true)
  | 2 => ("Ironbark$Block", "minutes", "I", true)
  | 3 => ("Ironbark$Block", "grade", "I", true)
  | 4 => ("Ironbark$Block", "wear", "I", false)
  | 5 => ("Ironbark$Block", "failed", "Z", false)
  | 6 => ("Ironbark$Block", "flagged", "Z", false)
  | 7 => ("Ironbark$Block", "othersFrom", "I", false)
  | 8 => ("Ironbark$Block", "othersTo", "I", false)
  | 9 => ("Ironbark$Block", "closedUntil", "I", false)
  | 10 => ("Ironbark$Block", "hasWrecks", "Z", false)
  | 11 => ("Ironbark$Block", "holder", "I", false)
  | _ => ("Ironbark$Block", "clearAt", "I", false)
def tyX1 : Nat → FieldType := fun k => match k with
  | 0 => .int
  | 1 => .int
  | 2 => .int
  | 3 => .int
  | 4 => .int
  | 5 => .boolean
  | 6 => .boolean
  | 7 => .int
  | 8 => .int
  | 9 => .int
  | 10 => .boolean
  | 11 => .int
  | _ => .int
abbrev wsX10 : List Cond := u_ws RX1 TX1 13
theorem nmX1 : ∀ a, a < 13 → ∀ b, b < 13 → a ≠ b → (TX1 a).2.1 ≠ (TX1 b).2.1 := by decide +kernel
theorem tyX1_ok : ∀ k, k < 13 → parseFieldDescriptor (TX1 k).2.2.1 = some (tyX1 k) := by decide +kernel
abbrev cX1_init : ByteArray := prog_3_method_1_code
def yX1_init : MethodName := ⟨RX1, "<init>", "(IIII)V"⟩
abbrev cX1_otherEnd : ByteArray := prog_3_method_2_code
def yX1_otherEnd : MethodName := ⟨RX1, "otherEnd", "(I)I"⟩
abbrev cX1_holderAt : ByteArray := prog_3_method_3_code
def yX1_holderAt : MethodName := ⟨RX1, "holderAt", "(I)I"⟩
abbrev cX1_isClosedAt : ByteArray := prog_3_method_4_code
def yX1_isClosedAt : MethodName := ⟨RX1, "isClosedAt", "(I)Z"⟩
abbrev cX1_isOfOthers : ByteArray := prog_3_method_5_code
def yX1_isOfOthers : MethodName := ⟨RX1, "isOfOthers", "(II)Z"⟩
def RX2 : String := "Ironbark$Car"
def TX2 : u_T := fun k => match k with
  | 0 => ("Ironbark$Car", "home", "I", true)
  | 1 => ("Ironbark$Car", "station", "I", false)
  | 2 => ("Ironbark$Car", "train", "I", false)
  | 3 => ("Ironbark$Car", "bill", "I", false)
  | _ => ("Ironbark$Car", "papers", "LIronbark$Row;", true)
def tyX2 : Nat → FieldType := fun k => match k with
  | 0 => .int
  | 1 => .int
  | 2 => .int
  | 3 => .int
  | _ => .object "Ironbark$Row"
abbrev wsX20 : List Cond := u_ws RX2 TX2 5
theorem nmX2 : ∀ a, a < 5 → ∀ b, b < 5 → a ≠ b → (TX2 a).2.1 ≠ (TX2 b).2.1 := by decide +kernel
theorem tyX2_ok : ∀ k, k < 5 → parseFieldDescriptor (TX2 k).2.2.1 = some (tyX2 k) := by decide +kernel
abbrev cX2_init : ByteArray := prog_4_method_1_code
def yX2_init : MethodName := ⟨RX2, "<init>", "(I)V"⟩
abbrev cX2_weight : ByteArray := prog_4_method_2_code
def yX2_weight : MethodName := ⟨RX2, "weight", "()I"⟩
abbrev cX2_write : ByteArray := prog_4_method_3_code
def yX2_write : MethodName := ⟨RX2, "write", "(II)V"⟩
def RX3 : String := "Ironbark$Crew"
def TX3 : u_T := fun k => match k with
  | 0 => ("Ironbark$Crew", "station", "I", false)
  | 1 => ("Ironbark$Crew", "train", "I", false)
  | 2 => ("Ironbark$Crew", "known", "I", false)
  | 3 => ("Ironbark$Crew", "duty", "I", false)
  | _ => ("Ironbark$Crew", "restEnd", "I", false)
def tyX3 : Nat → FieldType := fun k => match k with
  | 0 => .int
  | 1 => .int
  | 2 => .int
  | 3 => .int
  | _ => .int
abbrev wsX30 : List Cond := u_ws RX3 TX3 5
theorem nmX3 : ∀ a, a < 5 → ∀ b, b < 5 → a ≠ b → (TX3 a).2.1 ≠ (TX3 b).2.1 := by decide +kernel
theorem tyX3_ok : ∀ k, k < 5 → parseFieldDescriptor (TX3 k).2.2.1 = some (tyX3 k) := by decide +kernel
abbrev cX3_init : ByteArray := prog_5_method_1_code
def yX3_init : MethodName := ⟨RX3, "<init>", "(I)V"⟩
abbrev cX3_isRestingAt : ByteArray := prog_5_method_2_code
def yX3_isRestingAt : MethodName := ⟨RX3, "isRestingAt", "(I)Z"⟩
def RX4 : String := "Ironbark$Engine"
def TX4 : u_T := fun k => match k with
  | 0 => ("Ironbark$Engine", "power", "I", true)
  | 1 => ("Ironbark$Engine", "station", "I", false)
  | _ => ("Ironbark$Engine", "train", "I", false)
def tyX4 : Nat → FieldType := fun k => match k with
  | 0 => .int
  | 1 => .int
  | _ => .int
abbrev wsX40 : List Cond := u_ws RX4 TX4 3
theorem nmX4 : ∀ a, a < 3 → ∀ b, b < 3 → a ≠ b → (TX4 a).2.1 ≠ (TX4 b).2.1 := by decide +kernel
theorem tyX4_ok : ∀ k, k < 3 → parseFieldDescriptor (TX4 k).2.2.1 = some (tyX4 k) := by decide +kernel
abbrev cX4_init : ByteArray := prog_6_method_1_code
def yX4_init : MethodName := ⟨RX4, "<init>", "(II)V"⟩
def RX5 : String := "Ironbark$Row"
def TX5 : u_T := fun k => match k with
  | 0 => ("Ironbark$Row", "items", "[I", false)
  | _ => ("Ironbark$Row", "count", "I", false)
def tyX5 : Nat → FieldType := fun k => match k with
  | 0 => .array .int
  | _ => .int
abbrev wsX50 : List Cond := u_ws RX5 TX5 2
theorem nmX5 : ∀ a, a < 2 → ∀ b, b < 2 → a ≠ b → (TX5 a).2.1 ≠ (TX5 b).2.1 := by decide +kernel
theorem tyX5_ok : ∀ k, k < 2 → parseFieldDescriptor (TX5 k).2.2.1 = some (tyX5 k) := by decide +kernel
abbrev cX5_init : ByteArray := prog_7_method_1_code
def yX5_init : MethodName := ⟨RX5, "<init>", "(I)V"⟩
abbrev cX5_at : ByteArray := prog_7_method_2_code
def yX5_at : MethodName := ⟨RX5, "at", "(I)I"⟩
abbrev cX5_append : ByteArray := prog_7_method_3_code
def yX5_append : MethodName := ⟨RX5, "append", "(I)V"⟩
abbrev cX5_drop : ByteArray := prog_7_method_4_code
def yX5_drop : MethodName := ⟨RX5, "drop", "(I)V"⟩
abbrev cX5_copy : ByteArray := prog_7_method_5_code
def yX5_copy : MethodName := ⟨RX5, "copy", "(LIronbark$Row;)V"⟩
abbrev cX5_empty : ByteArray := prog_7_method_6_code
def yX5_empty : MethodName := ⟨RX5, "empty", "()V"⟩
def RX6 : String := "Ironbark$Station"
def TX6 : u_T := fun k => match k with
  | 0 => ("Ironbark$Station", "tracks", "I", false)
  | _ => ("Ironbark$Station", "yard", "LIronbark$Row;", true)
def tyX6 : Nat → FieldType := fun k => match k with
  | 0 => .int
  | _ => .object "Ironbark$Row"
abbrev wsX60 : List Cond := u_ws RX6 TX6 2
theorem nmX6 : ∀ a, a < 2 → ∀ b, b < 2 → a ≠ b → (TX6 a).2.1 ≠ (TX6 b).2.1 := by decide +kernel
theorem tyX6_ok : ∀ k, k < 2 → parseFieldDescriptor (TX6 k).2.2.1 = some (tyX6 k) := by decide +kernel
abbrev cX6_init : ByteArray := prog_8_method_1_code
def yX6_init : MethodName := ⟨RX6, "<init>", "()V"⟩
def RX7 : String := "Ironbark$Train"
def TX7 : u_T := fun k => match k with
  | 0 => ("Ironbark$Train", "number", "I", true)
  | 1 => ("Ironbark$Train", "state", "I", false)
  | 2 => ("Ironbark$Train", "engine", "I", false)
  | 3 => ("Ironbark$Train", "crew", "I", false)
  | 4 => ("Ironbark$Train", "power", "I", false)
  | 5 => ("Ironbark$Train", "station", "I", false)
  | 6 => ("Ironbark$Train", "block", "I", false)
  | 7 => ("Ironbark$Train", "arrival", "I", false)
  | 8 => ("Ironbark$Train", "weight", "I", false)
  | 9 => ("Ironbark$Train", "cars", "LIronbark$Row;", true)
  | 10 => ("Ironbark$Train", "way", "LIronbark$Row;", true)
  | 11 => ("Ironbark$Train", "entered", "I", false)
  | 12 => ("Ironbark$Train", "minute", "I", false)
  | 13 => ("Ironbark$Train", "rank", "I", false)
  | 14 => ("Ironbark$Train", "awaited", "I", false)
  | 15 => ("Ironbark$Train", "awaitedAt", "I", false)
  | _ => ("Ironbark$Train", "clearAt", "[I", true)
def tyX7 : Nat → FieldType := fun k => match k with
  | 0 => .int
  | 1 => .int
  | 2 => .int
  | 3 => .int
  | 4 => .int
  | 5 => .int
  | 6 => .int
  | 7 => .int
  | 8 => .int
  | 9 => .object "Ironbark$Row"
  | 10 => .object "Ironbark$Row"
  | 11 => .int
  | 12 => .int
  | 13 => .int
  | 14 => .int
  | 15 => .int
  | _ => .array .int
abbrev wsX70 : List Cond := u_ws RX7 TX7 17
theorem nmX7 : ∀ a, a < 17 → ∀ b, b < 17 → a ≠ b → (TX7 a).2.1 ≠ (TX7 b).2.1 := by decide +kernel
theorem tyX7_ok : ∀ k, k < 17 → parseFieldDescriptor (TX7 k).2.2.1 = some (tyX7 k) := by decide +kernel
abbrev cX7_init : ByteArray := prog_9_method_1_code
def yX7_init : MethodName := ⟨RX7, "<init>", "(I)V"⟩
abbrev cX7_start : ByteArray := prog_9_method_2_code
def yX7_start : MethodName := ⟨RX7, "start", "(IIII)V"⟩
abbrev cX7_stands : ByteArray := prog_9_method_4_code
def yX7_stands : MethodName := ⟨RX7, "stands", "()Z"⟩
abbrev cX7_takesTrackAt : ByteArray := prog_9_method_5_code
def yX7_takesTrackAt : MethodName := ⟨RX7, "takesTrackAt", "(I)Z"⟩
abbrev cX7_nextBlock : ByteArray := prog_9_method_6_code
def yX7_nextBlock : MethodName := ⟨RX7, "nextBlock", "()I"⟩
abbrev cX7_minutesToClear : ByteArray := prog_9_method_7_code
def yX7_minutesToClear : MethodName := ⟨RX7, "minutesToClear", "()I"⟩
abbrev cX7_notClear : ByteArray := prog_9_method_8_code
def yX7_notClear : MethodName := ⟨RX7, "notClear", "(II)V"⟩
abbrev cX7_holds : ByteArray := prog_9_method_10_code
def yX7_holds : MethodName := ⟨RX7, "holds", "(II)Z"⟩
def RX8 : String := "Ironbark"
def TX8 : u_T := fun k => match k with
  | 0 => ("Ironbark", "stations", "[LIronbark$Station;", true)
  | 1 => ("Ironbark", "blocks", "Ljava/util/ArrayList;", true)
  | 2 => ("Ironbark", "engines", "Ljava/util/ArrayList;", true)
  | 3 => ("Ironbark", "crews", "Ljava/util/ArrayList;", true)
  | 4 => ("Ironbark", "cars", "Ljava/util/ArrayList;", true)
  | 5 => ("Ironbark", "bills", "Ljava/util/ArrayList;", true)
  | 6 => ("Ironbark", "trains", "[LIronbark$Train;", true)
  | 7 => ("Ironbark", "ownRates", "[I", true)
  | 8 => ("Ironbark", "rivalRates", "[I", true)
  | 9 => ("Ironbark", "draft", "LIronbark$Row;", true)
  | 10 => ("Ironbark", "sorted", "LIronbark$Row;", true)
  | 11 => ("Ironbark", "distances", "[I", true)
  | 12 => ("Ironbark", "now", "I", false)
  | 13 => ("Ironbark", "money", "I", false)
  | 14 => ("Ironbark", "owed", "I", false)
  | _ => ("Ironbark", "lastBroken", "I", false)
def tyX8 : Nat → FieldType := fun k => match k with
  | 0 => .array (.object "Ironbark$Station")
  | 1 => .object "java/util/ArrayList"
  | 2 => .object "java/util/ArrayList"
  | 3 => .object "java/util/ArrayList"
  | 4 => .object "java/util/ArrayList"
  | 5 => .object "java/util/ArrayList"
  | 6 => .array (.object "Ironbark$Train")
  | 7 => .array .int
  | 8 => .array .int
  | 9 => .object "Ironbark$Row"
  | 10 => .object "Ironbark$Row"
  | 11 => .array .int
  | 12 => .int
  | 13 => .int
  | 14 => .int
  | _ => .int
abbrev wsX80 : List Cond := u_ws RX8 TX8 16
theorem nmX8 : ∀ a, a < 16 → ∀ b, b < 16 → a ≠ b → (TX8 a).2.1 ≠ (TX8 b).2.1 := by decide +kernel
theorem tyX8_ok : ∀ k, k < 16 → parseFieldDescriptor (TX8 k).2.2.1 = some (tyX8 k) := by decide +kernel
abbrev cX8_init : ByteArray := prog_1_method_1_code
def yX8_init : MethodName := ⟨RX8, "<init>", "()V"⟩
abbrev cX8_tracks : ByteArray := prog_1_method_2_code
def yX8_tracks : MethodName := ⟨RX8, "tracks", "(II)I"⟩
abbrev cX8_lay : ByteArray := prog_1_method_3_code
def yX8_lay : MethodName := ⟨RX8, "lay", "(IIII)I"⟩
abbrev cX8_fail : ByteArray := prog_1_method_4_code
def yX8_fail : MethodName := ⟨RX8, "fail", "(IZ)Z"⟩
abbrev cX8_flag : ByteArray := prog_1_method_5_code
def yX8_flag : MethodName := ⟨RX8, "flag", "(I)V"⟩
abbrev cX8_hours : ByteArray := prog_1_method_6_code
def yX8_hours : MethodName := ⟨RX8, "hours", "(III)V"⟩
abbrev cX8_repair : ByteArray := prog_1_method_7_code
def yX8_repair : MethodName := ⟨RX8, "repair", "(I)I"⟩
abbrev cX8_engine : ByteArray := prog_1_method_8_code
def yX8_engine : MethodName := ⟨RX8, "engine", "(II)I"⟩
abbrev cX8_crew : ByteArray := prog_1_method_9_code
def yX8_crew : MethodName := ⟨RX8, "crew", "(I)I"⟩
abbrev cX8_learn : ByteArray := prog_1_method_10_code
def yX8_learn : MethodName := ⟨RX8, "learn", "(II)I"⟩
abbrev cX8_rest : ByteArray := prog_1_method_11_code
def yX8_rest : MethodName := ⟨RX8, "rest", "(I)I"⟩
abbrev cX8_car : ByteArray := prog_1_method_12_code
def yX8_car : MethodName := ⟨RX8, "car", "(I)I"⟩
abbrev cX8_form : ByteArray := prog_1_method_15_code
def yX8_form : MethodName := ⟨RX8, "form", "(II)I"⟩
abbrev cX8_couple : ByteArray := prog_1_method_17_code
def yX8_couple : MethodName := ⟨RX8, "couple", "(II)I"⟩
abbrev cX8_leg : ByteArray := prog_1_method_19_code
def yX8_leg : MethodName := ⟨RX8, "leg", "(I)I"⟩
abbrev cX8_plan : ByteArray := prog_1_method_20_code
def yX8_plan : MethodName := ⟨RX8, "plan", "(III)I"⟩
abbrev cX8_await : ByteArray := prog_1_method_21_code
def yX8_await : MethodName := ⟨RX8, "await", "(III)V"⟩
abbrev cX8_run : ByteArray := prog_1_method_22_code
def yX8_run : MethodName := ⟨RX8, "run", "(I)I"⟩
abbrev cX8_clock : ByteArray := prog_1_method_30_code
def yX8_clock : MethodName := ⟨RX8, "clock", "()I"⟩
abbrev cX8_cash : ByteArray := prog_1_method_31_code
def yX8_cash : MethodName := ⟨RX8, "cash", "()I"⟩
abbrev cX8_freeTracks : ByteArray := prog_1_method_34_code
def yX8_freeTracks : MethodName := ⟨RX8, "freeTracks", "(I)I"⟩
abbrev cX8_holder : ByteArray := prog_1_method_35_code
def yX8_holder : MethodName := ⟨RX8, "holder", "(I)I"⟩
abbrev cX8_holderByTrains : ByteArray := prog_1_method_36_code
def yX8_holderByTrains : MethodName := ⟨RX8, "holderByTrains", "(I)I"⟩
abbrev cX8_block : ByteArray := prog_1_method_37_code
def yX8_block : MethodName := ⟨RX8, "block", "(II)I"⟩
abbrev cX8_train : ByteArray := prog_1_method_38_code
def yX8_train : MethodName := ⟨RX8, "train", "(II)I"⟩
abbrev cX8_barred : ByteArray := prog_1_method_39_code
def yX8_barred : MethodName := ⟨RX8, "barred", "(I)I"⟩
abbrev cX8_duty : ByteArray := prog_1_method_40_code
def yX8_duty : MethodName := ⟨RX8, "duty", "(I)I"⟩
abbrev cX8_requireArgument : ByteArray := prog_1_method_47_code
def yX8_requireArgument : MethodName := ⟨RX8, "requireArgument", "(Z)V"⟩
abbrev cX8_requireRange : ByteArray := prog_1_method_48_code
def yX8_requireRange : MethodName := ⟨RX8, "requireRange", "(III)V"⟩
abbrev cX8_requireState : ByteArray := prog_1_method_49_code
def yX8_requireState : MethodName := ⟨RX8, "requireState", "(Z)V"⟩
abbrev cX8_requireIndex : ByteArray := prog_1_method_50_code
def yX8_requireIndex : MethodName := ⟨RX8, "requireIndex", "(II)V"⟩
abbrev cX8_requireStation : ByteArray := prog_1_method_52_code
def yX8_requireStation : MethodName := ⟨RX8, "requireStation", "(I)V"⟩
abbrev cX8_requireBlock : ByteArray := prog_1_method_53_code
def yX8_requireBlock : MethodName := ⟨RX8, "requireBlock", "(I)V"⟩
abbrev cX8_requireTrain : ByteArray := prog_1_method_54_code
def yX8_requireTrain : MethodName := ⟨RX8, "requireTrain", "(I)V"⟩
abbrev cX8_stationOf : ByteArray := prog_1_method_55_code
def yX8_stationOf : MethodName := ⟨RX8, "stationOf", "(I)LIronbark$Station;"⟩
abbrev cX8_blockOf : ByteArray := prog_1_method_56_code
def yX8_blockOf : MethodName := ⟨RX8, "blockOf", "(I)LIronbark$Block;"⟩
abbrev cX8_engineOf : ByteArray := prog_1_method_57_code
def yX8_engineOf : MethodName := ⟨RX8, "engineOf", "(I)LIronbark$Engine;"⟩
abbrev cX8_crewOf : ByteArray := prog_1_method_58_code
def yX8_crewOf : MethodName := ⟨RX8, "crewOf", "(I)LIronbark$Crew;"⟩
abbrev cX8_carOf : ByteArray := prog_1_method_59_code
def yX8_carOf : MethodName := ⟨RX8, "carOf", "(I)LIronbark$Car;"⟩
abbrev cX8_billNumbered : ByteArray := prog_1_method_60_code
def yX8_billNumbered : MethodName := ⟨RX8, "billNumbered", "(I)LIronbark$Bill;"⟩
abbrev cX8_trainOf : ByteArray := prog_1_method_61_code
def yX8_trainOf : MethodName := ⟨RX8, "trainOf", "(I)LIronbark$Train;"⟩
abbrev cX8_takenTracks : ByteArray := prog_1_method_62_code
def yX8_takenTracks : MethodName := ⟨RX8, "takenTracks", "(I)I"⟩
abbrev cX8_freeTracksAt : ByteArray := prog_1_method_63_code
def yX8_freeTracksAt : MethodName := ⟨RX8, "freeTracksAt", "(I)I"⟩
abbrev cX8_leastFreeNumber : ByteArray := prog_1_method_64_code
def yX8_leastFreeNumber : MethodName := ⟨RX8, "leastFreeNumber", "()I"⟩
abbrev cX8_endOfDraft : ByteArray := prog_1_method_70_code
def yX8_endOfDraft : MethodName := ⟨RX8, "endOfDraft", "(I)I"⟩
abbrev cX8_arriveAll : ByteArray := prog_1_method_76_code
def yX8_arriveAll : MethodName := ⟨RX8, "arriveAll", "()V"⟩
abbrev cX8_arrive : ByteArray := prog_1_method_77_code
def yX8_arrive : MethodName := ⟨RX8, "arrive", "(LIronbark$Train;)V"⟩
abbrev cX8_beginDay : ByteArray := prog_1_method_78_code
def yX8_beginDay : MethodName := ⟨RX8, "beginDay", "()V"⟩
abbrev cX8_enterAll : ByteArray := prog_1_method_79_code
def yX8_enterAll : MethodName := ⟨RX8, "enterAll", "()I"⟩
abbrev cX8_nextToEnter : ByteArray := prog_1_method_80_code
def yX8_nextToEnter : MethodName := ⟨RX8, "nextToEnter", "(I)I"⟩
abbrev cX8_enter : ByteArray := prog_1_method_81_code
def yX8_enter : MethodName := ⟨RX8, "enter", "(LIronbark$Train;LIronbark$Block;I)V"⟩
abbrev cX8_barOf : ByteArray := prog_1_method_83_code
def yX8_barOf : MethodName := ⟨RX8, "barOf", "(LIronbark$Train;)I"⟩
abbrev cX8_barOfStart : ByteArray := prog_1_method_84_code
def yX8_barOfStart : MethodName := ⟨RX8, "barOfStart", "(LIronbark$Train;LIronbark$Block;)I"⟩
abbrev cX8_barOfRun : ByteArray := prog_1_method_85_code
def yX8_barOfRun : MethodName := ⟨RX8, "barOfRun", "(LIronbark$Train;LIronbark$Block;I)I"⟩
abbrev cX8_isWaiting : ByteArray := prog_1_method_86_code
def yX8_isWaiting : MethodName := ⟨RX8, "isWaiting", "(LIronbark$Train;)Z"⟩
abbrev cX8_runningMinutes : ByteArray := prog_1_method_87_code
def yX8_runningMinutes : MethodName := ⟨RX8, "runningMinutes", "(LIronbark$Train;LIronbark$Block;)I"⟩
def RX9 : String := "IronbarkModel"
def TX9 : u_T := fun k => match k with
  | _ => ("", "", "", false)
def tyX9 : Nat → FieldType := fun k => match k with
  | _ => .int
abbrev wsX90 : List Cond := u_ws RX9 TX9 0
theorem nmX9 : ∀ a, a < 0 → ∀ b, b < 0 → a ≠ b → (TX9 a).2.1 ≠ (TX9 b).2.1 := by decide +kernel
theorem tyX9_ok : ∀ k, k < 0 → parseFieldDescriptor (TX9 k).2.2.1 = some (tyX9 k) := by decide +kernel
def RJx145de : String := "java/io/Serializable"
def TJx145de : u_T := fun k => match k with
  | _ => ("", "", "", false)
def tyJx145de : Nat → FieldType := fun k => match k with
  | _ => .int
abbrev wsJx145de0 : List Cond := u_ws RJx145de TJx145de 0
theorem nmJx145de : ∀ a, a < 0 → ∀ b, b < 0 → a ≠ b → (TJx145de a).2.1 ≠ (TJx145de b).2.1 := by decide +kernel
theorem tyJx145de_ok : ∀ k, k < 0 → parseFieldDescriptor (TJx145de k).2.2.1 = some (tyJx145de k) := by decide +kernel
def RJx8e188 : String := "java/lang/Cloneable"
def TJx8e188 : u_T := fun k => match k with
  | _ => ("", "", "", false)
def tyJx8e188 : Nat → FieldType := fun k => match k with
  | _ => .int
abbrev wsJx8e1880 : List Cond := u_ws RJx8e188 TJx8e188 0
theorem nmJx8e188 : ∀ a, a < 0 → ∀ b, b < 0 → a ≠ b → (TJx8e188 a).2.1 ≠ (TJx8e188 b).2.1 := by decide +kernel
theorem tyJx8e188_ok : ∀ k, k < 0 → parseFieldDescriptor (TJx8e188 k).2.2.1 = some (tyJx8e188 k) := by decide +kernel
def RJ6 : String := "java/lang/Integer"
def TJ6 : u_T := fun k => match k with
  | _ => ("", "", "", false)
def tyJ6 : Nat → FieldType := fun k => match k with
  | _ => .int
abbrev wsJ60 : List Cond := u_ws RJ6 TJ6 0
theorem nmJ6 : ∀ a, a < 0 → ∀ b, b < 0 → a ≠ b → (TJ6 a).2.1 ≠ (TJ6 b).2.1 := by decide +kernel
theorem tyJ6_ok : ∀ k, k < 0 → parseFieldDescriptor (TJ6 k).2.2.1 = some (tyJ6 k) := by decide +kernel
abbrev cJ6_bitCount_0f7a4 : ByteArray := prog_18_method_49_code
def yJ6_bitCount_0f7a4 : MethodName := ⟨RJ6, "bitCount", "(I)I"⟩
def RJxab1ab : String := "java/lang/Iterable"
def TJxab1ab : u_T := fun k => match k with
  | _ => ("", "", "", false)
def tyJxab1ab : Nat → FieldType := fun k => match k with
  | _ => .int
abbrev wsJxab1ab0 : List Cond := u_ws RJxab1ab TJxab1ab 0
theorem nmJxab1ab : ∀ a, a < 0 → ∀ b, b < 0 → a ≠ b → (TJxab1ab a).2.1 ≠ (TJxab1ab b).2.1 := by decide +kernel
theorem tyJxab1ab_ok : ∀ k, k < 0 → parseFieldDescriptor (TJxab1ab k).2.2.1 = some (tyJxab1ab k) := by decide +kernel
def RJ9 : String := "java/lang/Math"
def TJ9 : u_T := fun k => match k with
  | _ => ("", "", "", false)
def tyJ9 : Nat → FieldType := fun k => match k with
  | _ => .int
abbrev wsJ90 : List Cond := u_ws RJ9 TJ9 0
theorem nmJ9 : ∀ a, a < 0 → ∀ b, b < 0 → a ≠ b → (TJ9 a).2.1 ≠ (TJ9 b).2.1 := by decide +kernel
theorem tyJ9_ok : ∀ k, k < 0 → parseFieldDescriptor (TJ9 k).2.2.1 = some (tyJ9 k) := by decide +kernel
abbrev cJ9_max_7cf53 : ByteArray := prog_20_method_65_code
def yJ9_max_7cf53 : MethodName := ⟨RJ9, "max", "(II)I"⟩
abbrev cJ9_min_7cf53 : ByteArray := prog_20_method_69_code
def yJ9_min_7cf53 : MethodName := ⟨RJ9, "min", "(II)I"⟩
def RJ0 : String := "java/lang/String"
def TJ0 : u_T := fun k => match k with
  | _ => ("", "", "", false)
def tyJ0 : Nat → FieldType := fun k => match k with
  | _ => .int
abbrev wsJ00 : List Cond := u_ws RJ0 TJ0 0
theorem nmJ0 : ∀ a, a < 0 → ∀ b, b < 0 → a ≠ b → (TJ0 a).2.1 ≠ (TJ0 b).2.1 := by decide +kernel
theorem tyJ0_ok : ∀ k, k < 0 → parseFieldDescriptor (TJ0 k).2.2.1 = some (tyJ0 k) := by decide +kernel
def RJ10 : String := "java/lang/System"
def TJ10 : u_T := fun k => match k with
  | _ => ("", "", "", false)
def tyJ10 : Nat → FieldType := fun k => match k with
  | _ => .int
abbrev wsJ100 : List Cond := u_ws RJ10 TJ10 0
theorem nmJ10 : ∀ a, a < 0 → ∀ b, b < 0 → a ≠ b → (TJ10 a).2.1 ≠ (TJ10 b).2.1 := by decide +kernel
theorem tyJ10_ok : ∀ k, k < 0 → parseFieldDescriptor (TJ10 k).2.2.1 = some (tyJ10 k) := by decide +kernel
def RJxa1e45 : String := "java/util/AbstractCollection"
def TJxa1e45 : u_T := fun k => match k with
  | _ => ("", "", "", false)
def tyJxa1e45 : Nat → FieldType := fun k => match k with
  | _ => .int
abbrev wsJxa1e450 : List Cond := u_ws RJxa1e45 TJxa1e45 0
theorem nmJxa1e45 : ∀ a, a < 0 → ∀ b, b < 0 → a ≠ b → (TJxa1e45 a).2.1 ≠ (TJxa1e45 b).2.1 := by decide +kernel
theorem tyJxa1e45_ok : ∀ k, k < 0 → parseFieldDescriptor (TJxa1e45 k).2.2.1 = some (tyJxa1e45 k) := by decide +kernel
abbrev cJxa1e45_init_da8c8 : ByteArray := prog_25_method_1_code
def yJxa1e45_init_da8c8 : MethodName := ⟨RJxa1e45, "<init>", "()V"⟩
def RJxc12de : String := "java/util/AbstractList"
def TJxc12de : u_T := fun k => match k with
  | _ => ("", "", "", false)
def tyJxc12de : Nat → FieldType := fun k => match k with
  | _ => .int
abbrev wsJxc12de0 : List Cond := u_ws RJxc12de TJxc12de 0
theorem nmJxc12de : ∀ a, a < 0 → ∀ b, b < 0 → a ≠ b → (TJxc12de a).2.1 ≠ (TJxc12de b).2.1 := by decide +kernel
theorem tyJxc12de_ok : ∀ k, k < 0 → parseFieldDescriptor (TJxc12de k).2.2.1 = some (tyJxc12de k) := by decide +kernel
abbrev cJxc12de_init_da8c8 : ByteArray := prog_26_method_1_code
def yJxc12de_init_da8c8 : MethodName := ⟨RJxc12de, "<init>", "()V"⟩
def RJx4a65c : String := "java/util/ArrayList"
def TJx4a65c : u_T := fun k => match k with
  | 0 => ("java/util/AbstractList", "modCount", "I", false)
  | 1 => ("java/util/ArrayList", "elementData", "[Ljava/lang/Object;", false)
  | _ => ("java/util/ArrayList", "size", "I", false)
def tyJx4a65c : Nat → FieldType := fun k => match k with
  | 0 => .int
  | 1 => .array (.object "java/lang/Object")
  | _ => .int
abbrev wsJx4a65c0 : List Cond := u_ws RJx4a65c TJx4a65c 3
theorem nmJx4a65c : ∀ a, a < 3 → ∀ b, b < 3 → a ≠ b → (TJx4a65c a).2.1 ≠ (TJx4a65c b).2.1 := by decide +kernel
theorem tyJx4a65c_ok : ∀ k, k < 3 → parseFieldDescriptor (TJx4a65c k).2.2.1 = some (tyJx4a65c k) := by decide +kernel
abbrev cJx4a65c_init_da8c8 : ByteArray := prog_27_method_2_code
def yJx4a65c_init_da8c8 : MethodName := ⟨RJx4a65c, "<init>", "()V"⟩
abbrev cJx4a65c_grow_92f84 : ByteArray := prog_27_method_6_code
def yJx4a65c_grow_92f84 : MethodName := ⟨RJx4a65c, "grow", "(I)[Ljava/lang/Object;"⟩
abbrev cJx4a65c_grow_d5877 : ByteArray := prog_27_method_7_code
def yJx4a65c_grow_d5877 : MethodName := ⟨RJx4a65c, "grow", "()[Ljava/lang/Object;"⟩
abbrev cJx4a65c_size_8abf5 : ByteArray := prog_27_method_8_code
def yJx4a65c_size_8abf5 : MethodName := ⟨RJx4a65c, "size", "()I"⟩
abbrev cJx4a65c_elementData_915e3 : ByteArray := prog_27_method_18_code
def yJx4a65c_elementData_915e3 : MethodName := ⟨RJx4a65c, "elementData", "(I)Ljava/lang/Object;"⟩
abbrev cJx4a65c_get_915e3 : ByteArray := prog_27_method_20_code
def yJx4a65c_get_915e3 : MethodName := ⟨RJx4a65c, "get", "(I)Ljava/lang/Object;"⟩
abbrev cJx4a65c_add_72be8 : ByteArray := prog_27_method_24_code
def yJx4a65c_add_72be8 : MethodName := ⟨RJx4a65c, "add", "(Ljava/lang/Object;[Ljava/lang/Object;I)V"⟩
abbrev cJx4a65c_add_9ea2d : ByteArray := prog_27_method_25_code
def yJx4a65c_add_9ea2d : MethodName := ⟨RJx4a65c, "add", "(Ljava/lang/Object;)Z"⟩
def RJ7 : String := "java/util/Arrays"
def TJ7 : u_T := fun k => match k with
  | _ => ("", "", "", false)
def tyJ7 : Nat → FieldType := fun k => match k with
  | _ => .int
abbrev wsJ70 : List Cond := u_ws RJ7 TJ7 0
theorem nmJ7 : ∀ a, a < 0 → ∀ b, b < 0 → a ≠ b → (TJ7 a).2.1 ≠ (TJ7 b).2.1 := by decide +kernel
theorem tyJ7_ok : ∀ k, k < 0 → parseFieldDescriptor (TJ7 k).2.2.1 = some (tyJ7 k) := by decide +kernel
abbrev cJ7_fill_53178 : ByteArray := prog_28_method_103_code
def yJ7_fill_53178 : MethodName := ⟨RJ7, "fill", "([II)V"⟩
abbrev cJ7_copyOf_1904c : ByteArray := prog_28_method_119_code
def yJ7_copyOf_1904c : MethodName := ⟨RJ7, "copyOf", "([Ljava/lang/Object;I)[Ljava/lang/Object;"⟩
abbrev cJ7_copyOf_6403c : ByteArray := prog_28_method_120_code
def yJ7_copyOf_6403c : MethodName := ⟨RJ7, "copyOf", "([Ljava/lang/Object;ILjava/lang/Class;)[Ljava/lang/Object;"⟩
abbrev cJ7_copyOf_59c91 : ByteArray := prog_28_method_123_code
def yJ7_copyOf_59c91 : MethodName := ⟨RJ7, "copyOf", "([II)[I"⟩
def RJx5ef63 : String := "java/util/Collection"
def TJx5ef63 : u_T := fun k => match k with
  | _ => ("", "", "", false)
def tyJx5ef63 : Nat → FieldType := fun k => match k with
  | _ => .int
abbrev wsJx5ef630 : List Cond := u_ws RJx5ef63 TJx5ef63 0
theorem nmJx5ef63 : ∀ a, a < 0 → ∀ b, b < 0 → a ≠ b → (TJx5ef63 a).2.1 ≠ (TJx5ef63 b).2.1 := by decide +kernel
theorem tyJx5ef63_ok : ∀ k, k < 0 → parseFieldDescriptor (TJx5ef63 k).2.2.1 = some (tyJx5ef63 k) := by decide +kernel
def RJxbd725 : String := "java/util/List"
def TJxbd725 : u_T := fun k => match k with
  | _ => ("", "", "", false)
def tyJxbd725 : Nat → FieldType := fun k => match k with
  | _ => .int
abbrev wsJxbd7250 : List Cond := u_ws RJxbd725 TJxbd725 0
theorem nmJxbd725 : ∀ a, a < 0 → ∀ b, b < 0 → a ≠ b → (TJxbd725 a).2.1 ≠ (TJxbd725 b).2.1 := by decide +kernel
theorem tyJxbd725_ok : ∀ k, k < 0 → parseFieldDescriptor (TJxbd725 k).2.2.1 = some (tyJxbd725 k) := by decide +kernel
def RJ15 : String := "java/util/Objects"
def TJ15 : u_T := fun k => match k with
  | _ => ("", "", "", false)
def tyJ15 : Nat → FieldType := fun k => match k with
  | _ => .int
abbrev wsJ150 : List Cond := u_ws RJ15 TJ15 0
theorem nmJ15 : ∀ a, a < 0 → ∀ b, b < 0 → a ≠ b → (TJ15 a).2.1 ≠ (TJ15 b).2.1 := by decide +kernel
theorem tyJ15_ok : ∀ k, k < 0 → parseFieldDescriptor (TJ15 k).2.2.1 = some (tyJ15 k) := by decide +kernel
abbrev cJ15_checkIndex_7cf53 : ByteArray := prog_31_method_17_code
def yJ15_checkIndex_7cf53 : MethodName := ⟨RJ15, "checkIndex", "(II)I"⟩
def RJxf0a74 : String := "java/util/RandomAccess"
def TJxf0a74 : u_T := fun k => match k with
  | _ => ("", "", "", false)
def tyJxf0a74 : Nat → FieldType := fun k => match k with
  | _ => .int
abbrev wsJxf0a740 : List Cond := u_ws RJxf0a74 TJxf0a74 0
theorem nmJxf0a74 : ∀ a, a < 0 → ∀ b, b < 0 → a ≠ b → (TJxf0a74 a).2.1 ≠ (TJxf0a74 b).2.1 := by decide +kernel
theorem tyJxf0a74_ok : ∀ k, k < 0 → parseFieldDescriptor (TJxf0a74 k).2.2.1 = some (tyJxf0a74 k) := by decide +kernel
def RJxa66e6 : String := "java/util/SequencedCollection"
def TJxa66e6 : u_T := fun k => match k with
  | _ => ("", "", "", false)
def tyJxa66e6 : Nat → FieldType := fun k => match k with
  | _ => .int
abbrev wsJxa66e60 : List Cond := u_ws RJxa66e6 TJxa66e6 0
theorem nmJxa66e6 : ∀ a, a < 0 → ∀ b, b < 0 → a ≠ b → (TJxa66e6 a).2.1 ≠ (TJxa66e6 b).2.1 := by decide +kernel
theorem tyJxa66e6_ok : ∀ k, k < 0 → parseFieldDescriptor (TJxa66e6 k).2.2.1 = some (tyJxa66e6 k) := by decide +kernel
def RJ8 : String := "jdk/internal/util/ArraysSupport"
def TJ8 : u_T := fun k => match k with
  | _ => ("", "", "", false)
def tyJ8 : Nat → FieldType := fun k => match k with
  | _ => .int
abbrev wsJ80 : List Cond := u_ws RJ8 TJ8 0
theorem nmJ8 : ∀ a, a < 0 → ∀ b, b < 0 → a ≠ b → (TJ8 a).2.1 ≠ (TJ8 b).2.1 := by decide +kernel
theorem tyJ8_ok : ∀ k, k < 0 → parseFieldDescriptor (TJ8 k).2.2.1 = some (tyJ8 k) := by decide +kernel
abbrev cJ8_newLength_cabcc : ByteArray := prog_34_method_27_code
def yJ8_newLength_cabcc : MethodName := ⟨RJ8, "newLength", "(III)I"⟩
abbrev cJ8_hugeLength_7cf53 : ByteArray := prog_34_method_28_code
def yJ8_hugeLength_7cf53 : MethodName := ⟨RJ8, "hugeLength", "(II)I"⟩
def RJ3 : String := "jdk/internal/util/Preconditions"
def TJ3 : u_T := fun k => match k with
  | _ => ("", "", "", false)
def tyJ3 : Nat → FieldType := fun k => match k with
  | _ => .int
abbrev wsJ30 : List Cond := u_ws RJ3 TJ3 0
theorem nmJ3 : ∀ a, a < 0 → ∀ b, b < 0 → a ≠ b → (TJ3 a).2.1 ≠ (TJ3 b).2.1 := by decide +kernel
theorem tyJ3_ok : ∀ k, k < 0 → parseFieldDescriptor (TJ3 k).2.2.1 = some (tyJ3 k) := by decide +kernel
abbrev cJ3_checkIndex_8e157 : ByteArray := prog_35_method_11_code
def yJ3_checkIndex_8e157 : MethodName := ⟨RJ3, "checkIndex", "(IILjava/util/function/BiFunction;)I"⟩
def RL : String := "IronbarkLaw"
abbrev cL_cell : ByteArray := method_2_code
def yL_cell : MethodName := ⟨RL, "cell", "([II)I"⟩
abbrev cL_low : ByteArray := method_3_code
def yL_low : MethodName := ⟨RL, "low", "(II)I"⟩
abbrev cL_calls : ByteArray := method_4_code
def yL_calls : MethodName := ⟨RL, "calls", "(LIronbark;IIII)I"⟩
abbrev cL_flags : ByteArray := method_5_code
def yL_flags : MethodName := ⟨RL, "flags", "(LIronbark;I)I"⟩
abbrev cL_other : ByteArray := method_6_code
def yL_other : MethodName := ⟨RL, "other", "(II)I"⟩
abbrev cL_taken : ByteArray := method_7_code
def yL_taken : MethodName := ⟨RL, "taken", "(I[I)I"⟩
abbrev cL_runs : ByteArray := method_8_code
def yL_runs : MethodName := ⟨RL, "runs", "(II[I[I)I"⟩
abbrev cL_bars : ByteArray := method_9_code
def yL_bars : MethodName := ⟨RL, "bars", "(I[I[I[I[I)I"⟩
abbrev cL_enters : ByteArray := method_10_code
def yL_enters : MethodName := ⟨RL, "enters", "(I[I[I[I[I)V"⟩
abbrev cL_minute : ByteArray := method_11_code
def yL_minute : MethodName := ⟨RL, "minute", "([I[I[I[I)V"⟩
abbrev cL_shows : ByteArray := method_12_code
def yL_shows : MethodName := ⟨RL, "shows", "(LIronbark;[I[I[I[I)Z"⟩
abbrev cL_plans : ByteArray := method_13_code
def yL_plans : MethodName := ⟨RL, "plans", "(LIronbark;II[I[I[I)Z"⟩
abbrev cL_law : ByteArray := code
def yL_law : MethodName := ⟨RL, "law", "([I)Z"⟩
abbrev vwCl : List vw_C := [(RJx4a65c, TJx4a65c, 3), (RX4, TX4, 3), (RX1, TX1, 13), (RX2, TX2, 5), (RX3, TX3, 5), (RX4, TX4, 3), (RX5, TX5, 2), (RX6, TX6, 2), (RX7, TX7, 17), (RX8, TX8, 16)]
