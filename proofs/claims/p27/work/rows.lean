section
-- ===== PART A: goes FIRST, ahead of the names: the tables' words, and 'selects' of the private methods out of them =====
/-- a private method of a class that the tables say can be made, by its rows of tables_1 -/
def lw_okq (q : MethodName × Nat) : Prop := (q.1.cls ≠ "java/lang/invoke/MethodHandle" ∧ q.1.cls ≠ "java/lang/invoke/VarHandle") ∧ Cond.instantiable q.1.cls q.2 ∈ tables_1 ∧ Cond.privateMethod q.1 ∈ tables_1 ∧ Cond.instanceMethod q.1 ∈ tables_1
theorem lw_p0 : lw_okq (⟨"ShuttleDoors$Plan", "boardOne", "(LShuttleDoors$State;I)V"⟩, 8) := ⟨⟨by decide +kernel, by decide +kernel⟩, List.mem_of_getElem? (i := 79) (by decide +kernel), List.mem_of_getElem? (i := 233) (by decide +kernel), List.mem_of_getElem? (i := 234) (by decide +kernel)⟩
theorem lw_p1 : lw_okq (⟨"ShuttleDoors$Plan", "firstVanFor", "(LShuttleDoors$State;I)I"⟩, 8) := ⟨⟨by decide +kernel, by decide +kernel⟩, List.mem_of_getElem? (i := 79) (by decide +kernel), List.mem_of_getElem? (i := 237) (by decide +kernel), List.mem_of_getElem? (i := 238) (by decide +kernel)⟩
theorem lw_p2 : lw_okq (⟨"ShuttleDoors$Plan", "takes", "(LShuttleDoors$State;II)Z"⟩, 8) := ⟨⟨by decide +kernel, by decide +kernel⟩, List.mem_of_getElem? (i := 79) (by decide +kernel), List.mem_of_getElem? (i := 241) (by decide +kernel), List.mem_of_getElem? (i := 242) (by decide +kernel)⟩
theorem lw_p3 : lw_okq (⟨"ShuttleDoors", "isRider", "(I)Z"⟩, 8) := ⟨⟨by decide +kernel, by decide +kernel⟩, List.mem_of_getElem? (i := 11) (by decide +kernel), List.mem_of_getElem? (i := 292) (by decide +kernel), List.mem_of_getElem? (i := 293) (by decide +kernel)⟩
theorem lw_p4 : lw_okq (⟨"ShuttleDoors", "minuteAtDoor", "(I)I"⟩, 8) := ⟨⟨by decide +kernel, by decide +kernel⟩, List.mem_of_getElem? (i := 11) (by decide +kernel), List.mem_of_getElem? (i := 301) (by decide +kernel), List.mem_of_getElem? (i := 302) (by decide +kernel)⟩
theorem lw_p5 : lw_okq (⟨"ShuttleDoors$Way", "letOut", "(II)V"⟩, 4) := ⟨⟨by decide +kernel, by decide +kernel⟩, List.mem_of_getElem? (i := 117) (by decide +kernel), List.mem_of_getElem? (i := 314) (by decide +kernel), List.mem_of_getElem? (i := 315) (by decide +kernel)⟩
theorem lw_p6 : lw_okq (⟨"ShuttleDoors$Way", "placeFor", "(I)I"⟩, 4) := ⟨⟨by decide +kernel, by decide +kernel⟩, List.mem_of_getElem? (i := 117) (by decide +kernel), List.mem_of_getElem? (i := 318) (by decide +kernel), List.mem_of_getElem? (i := 319) (by decide +kernel)⟩
theorem lw_p7 : lw_okq (⟨"ShuttleDoors$Way", "openStop", "(II)V"⟩, 4) := ⟨⟨by decide +kernel, by decide +kernel⟩, List.mem_of_getElem? (i := 117) (by decide +kernel), List.mem_of_getElem? (i := 322) (by decide +kernel), List.mem_of_getElem? (i := 323) (by decide +kernel)⟩
theorem lw_p8 : lw_okq (⟨"ShuttleDoors$Way", "tellMinutes", "(I)V"⟩, 4) := ⟨⟨by decide +kernel, by decide +kernel⟩, List.mem_of_getElem? (i := 117) (by decide +kernel), List.mem_of_getElem? (i := 326) (by decide +kernel), List.mem_of_getElem? (i := 327) (by decide +kernel)⟩
theorem lw_p9 : lw_okq (⟨"ShuttleDoors$Plan", "share", "(LShuttleDoors$State;IIZ)I"⟩, 8) := ⟨⟨by decide +kernel, by decide +kernel⟩, List.mem_of_getElem? (i := 79) (by decide +kernel), List.mem_of_getElem? (i := 342) (by decide +kernel), List.mem_of_getElem? (i := 343) (by decide +kernel)⟩
theorem lw_p10 : lw_okq (⟨"ShuttleDoors$Plan", "shares", "(LShuttleDoors$State;IIZ)Z"⟩, 8) := ⟨⟨by decide +kernel, by decide +kernel⟩, List.mem_of_getElem? (i := 79) (by decide +kernel), List.mem_of_getElem? (i := 346) (by decide +kernel), List.mem_of_getElem? (i := 347) (by decide +kernel)⟩
theorem lw_p11 : lw_okq (⟨"ShuttleDoors", "allFares", "()I"⟩, 8) := ⟨⟨by decide +kernel, by decide +kernel⟩, List.mem_of_getElem? (i := 11) (by decide +kernel), List.mem_of_getElem? (i := 409) (by decide +kernel), List.mem_of_getElem? (i := 410) (by decide +kernel)⟩
theorem lw_p12 : lw_okq (⟨"ShuttleDoors", "allStops", "()I"⟩, 8) := ⟨⟨by decide +kernel, by decide +kernel⟩, List.mem_of_getElem? (i := 11) (by decide +kernel), List.mem_of_getElem? (i := 417) (by decide +kernel), List.mem_of_getElem? (i := 418) (by decide +kernel)⟩
theorem lw_p13 : lw_okq (⟨"ShuttleDoors", "lastAtDoor", "(LShuttleDoors$State;LShuttleDoors$Plan;)I"⟩, 8) := ⟨⟨by decide +kernel, by decide +kernel⟩, List.mem_of_getElem? (i := 11) (by decide +kernel), List.mem_of_getElem? (i := 421) (by decide +kernel), List.mem_of_getElem? (i := 422) (by decide +kernel)⟩
def lw_privs_1 : List (MethodName × Nat) := [(⟨"ShuttleDoors$Plan", "boardOne", "(LShuttleDoors$State;I)V"⟩, 8), (⟨"ShuttleDoors$Plan", "firstVanFor", "(LShuttleDoors$State;I)I"⟩, 8), (⟨"ShuttleDoors$Plan", "takes", "(LShuttleDoors$State;II)Z"⟩, 8), (⟨"ShuttleDoors", "isRider", "(I)Z"⟩, 8), (⟨"ShuttleDoors", "minuteAtDoor", "(I)I"⟩, 8), (⟨"ShuttleDoors$Way", "letOut", "(II)V"⟩, 4), (⟨"ShuttleDoors$Way", "placeFor", "(I)I"⟩, 4), (⟨"ShuttleDoors$Way", "openStop", "(II)V"⟩, 4), (⟨"ShuttleDoors$Way", "tellMinutes", "(I)V"⟩, 4), (⟨"ShuttleDoors$Plan", "share", "(LShuttleDoors$State;IIZ)I"⟩, 8), (⟨"ShuttleDoors$Plan", "shares", "(LShuttleDoors$State;IIZ)Z"⟩, 8), (⟨"ShuttleDoors", "allFares", "()I"⟩, 8), (⟨"ShuttleDoors", "allStops", "()I"⟩, 8), (⟨"ShuttleDoors", "lastAtDoor", "(LShuttleDoors$State;LShuttleDoors$Plan;)I"⟩, 8)]
theorem lw_r1 : ∀ q ∈ lw_privs_1, lw_okq q := List.forall_mem_cons.mpr ⟨lw_p0, List.forall_mem_cons.mpr ⟨lw_p1, List.forall_mem_cons.mpr ⟨lw_p2, List.forall_mem_cons.mpr ⟨lw_p3, List.forall_mem_cons.mpr ⟨lw_p4, List.forall_mem_cons.mpr ⟨lw_p5, List.forall_mem_cons.mpr ⟨lw_p6, List.forall_mem_cons.mpr ⟨lw_p7, List.forall_mem_cons.mpr ⟨lw_p8, List.forall_mem_cons.mpr ⟨lw_p9, List.forall_mem_cons.mpr ⟨lw_p10, List.forall_mem_cons.mpr ⟨lw_p11, List.forall_mem_cons.mpr ⟨lw_p12, List.forall_mem_cons.mpr ⟨lw_p13, fun _ h => absurd h List.not_mem_nil⟩⟩⟩⟩⟩⟩⟩⟩⟩⟩⟩⟩⟩⟩
def lw_privs : List (MethodName × Nat) := lw_privs_1
def lw_tbl : List Cond := k2_sels lw_privs ++ tables_1
theorem lw_privs_ok : ∀ q ∈ lw_privs, lw_okq q := lw_r1
end
section
def RX0 : String := "ShuttleDoors$History"
def TX0 : u_T := fun k => match k with
  | 0 => ("ShuttleDoors$History", "states", "[LShuttleDoors$State;", true)
  | 1 => ("ShuttleDoors$History", "oldest", "I", false)
  | _ => ("ShuttleDoors$History", "size", "I", false)
def tyX0 : Nat → FieldType := fun k => match k with
  | 0 => .array (.object "ShuttleDoors$State")
  | 1 => .int
  | _ => .int
abbrev wsX00 : List Cond := u_ws RX0 TX0 3
theorem nmX0 : ∀ a, a < 3 → ∀ b, b < 3 → a ≠ b → (TX0 a).2.1 ≠ (TX0 b).2.1 := by decide +kernel
theorem tyX0_ok : ∀ k, k < 3 → parseFieldDescriptor (TX0 k).2.2.1 = some (tyX0 k) := by decide +kernel
abbrev cX0_init : ByteArray := prog_2_method_1_code
def yX0_init : MethodName := ⟨RX0, "<init>", "()V"⟩
abbrev cX0_record : ByteArray := prog_2_method_2_code
def yX0_record : MethodName := ⟨RX0, "record", "(LShuttleDoors$State;)V"⟩
abbrev cX0_takeBack : ByteArray := prog_2_method_3_code
def yX0_takeBack : MethodName := ⟨RX0, "takeBack", "(LShuttleDoors$State;)V"⟩
def RX1 : String := "ShuttleDoors$Pad"
def TX1 : u_T := fun k => match k with
  | 0 => ("ShuttleDoors$Pad", "codes", "[I", true)
  | _ => ("ShuttleDoors$Pad", "length", "I", false)
def tyX1 : Nat → FieldType := fun k => match k with
  | 0 => .array .int
  | _ => .int
abbrev wsX10 : List Cond := u_ws RX1 TX1 2
theorem nmX1 : ∀ a, a < 2 → ∀ b, b < 2 → a ≠ b → (TX1 a).2.1 ≠ (TX1 b).2.1 := by decide +kernel
theorem tyX1_ok : ∀ k, k < 2 → parseFieldDescriptor (TX1 k).2.2.1 = some (tyX1 k) := by decide +kernel
abbrev cX1_init : ByteArray := prog_3_method_1_code
def yX1_init : MethodName := ⟨RX1, "<init>", "()V"⟩
def RX2 : String := "ShuttleDoors$Plan"
def TX2 : u_T := fun k => match k with
  | 0 => ("ShuttleDoors$Plan", "order", "[I", true)
  | 1 => ("ShuttleDoors$Plan", "ready", "[I", true)
  | 2 => ("ShuttleDoors$Plan", "vans", "[I", true)
  | 3 => ("ShuttleDoors$Plan", "peopleIn", "[I", true)
  | 4 => ("ShuttleDoors$Plan", "areasOf", "[I", true)
  | 5 => ("ShuttleDoors$Plan", "strandedRiders", "I", false)
  | 6 => ("ShuttleDoors$Plan", "strandedPeople", "I", false)
  | _ => ("ShuttleDoors$Plan", "waiting", "I", false)
def tyX2 : Nat → FieldType := fun k => match k with
  | 0 => .array .int
  | 1 => .array .int
  | 2 => .array .int
  | 3 => .array .int
  | 4 => .array .int
  | 5 => .int
  | 6 => .int
  | _ => .int
abbrev wsX20 : List Cond := u_ws RX2 TX2 8
theorem nmX2 : ∀ a, a < 8 → ∀ b, b < 8 → a ≠ b → (TX2 a).2.1 ≠ (TX2 b).2.1 := by decide +kernel
theorem tyX2_ok : ∀ k, k < 8 → parseFieldDescriptor (TX2 k).2.2.1 = some (tyX2 k) := by decide +kernel
abbrev cX2_init : ByteArray := prog_4_method_1_code
def yX2_init : MethodName := ⟨RX2, "<init>", "()V"⟩
abbrev cX2_make : ByteArray := prog_4_method_2_code
def yX2_make : MethodName := ⟨RX2, "make", "(LShuttleDoors$State;)V"⟩
abbrev cX2_lineUp : ByteArray := prog_4_method_3_code
def yX2_lineUp : MethodName := ⟨RX2, "lineUp", "(LShuttleDoors$State;)V"⟩
abbrev cX2_board : ByteArray := prog_4_method_4_code
def yX2_board : MethodName := ⟨RX2, "board", "(LShuttleDoors$State;)V"⟩
abbrev cX2_boardOne : ByteArray := prog_4_method_5_code
def yX2_boardOne : MethodName := ⟨RX2, "boardOne", "(LShuttleDoors$State;I)V"⟩
abbrev cX2_firstVanFor : ByteArray := prog_4_method_6_code
def yX2_firstVanFor : MethodName := ⟨RX2, "firstVanFor", "(LShuttleDoors$State;I)I"⟩
abbrev cX2_takes : ByteArray := prog_4_method_7_code
def yX2_takes : MethodName := ⟨RX2, "takes", "(LShuttleDoors$State;II)Z"⟩
abbrev cX2_waitOf : ByteArray := prog_4_method_8_code
def yX2_waitOf : MethodName := ⟨RX2, "waitOf", "(LShuttleDoors$State;I)I"⟩
abbrev cX2_isAtKerb : ByteArray := prog_4_method_9_code
def yX2_isAtKerb : MethodName := ⟨RX2, "isAtKerb", "(LShuttleDoors$State;II)Z"⟩
abbrev cX2_ridersIn : ByteArray := prog_4_method_10_code
def yX2_ridersIn : MethodName := ⟨RX2, "ridersIn", "(LShuttleDoors$State;I)I"⟩
abbrev cX2_vansWithRiders : ByteArray := prog_4_method_11_code
def yX2_vansWithRiders : MethodName := ⟨RX2, "vansWithRiders", "()I"⟩
abbrev cX2_peopleOfFlight : ByteArray := prog_4_method_12_code
def yX2_peopleOfFlight : MethodName := ⟨RX2, "peopleOfFlight", "(LShuttleDoors$State;IZ)I"⟩
abbrev cX2_othersAtStop : ByteArray := prog_4_method_13_code
def yX2_othersAtStop : MethodName := ⟨RX2, "othersAtStop", "(LShuttleDoors$State;I)I"⟩
abbrev cX2_faresOf : ByteArray := prog_4_method_14_code
def yX2_faresOf : MethodName := ⟨RX2, "faresOf", "(LShuttleDoors$State;I)I"⟩
abbrev cX2_fare : ByteArray := prog_4_method_15_code
def yX2_fare : MethodName := ⟨RX2, "fare", "(LShuttleDoors$State;I)I"⟩
abbrev cX2_share : ByteArray := prog_4_method_16_code
def yX2_share : MethodName := ⟨RX2, "share", "(LShuttleDoors$State;IIZ)I"⟩
abbrev cX2_shares : ByteArray := prog_4_method_17_code
def yX2_shares : MethodName := ⟨RX2, "shares", "(LShuttleDoors$State;IIZ)Z"⟩
def RX3 : String := "ShuttleDoors$State"
def TX3 : u_T := fun k => match k with
  | 0 => ("ShuttleDoors$State", "settings", "[I", true)
  | 1 => ("ShuttleDoors$State", "lands", "[I", true)
  | 2 => ("ShuttleDoors$State", "delays", "[I", true)
  | 3 => ("ShuttleDoors$State", "leaves", "[I", true)
  | 4 => ("ShuttleDoors$State", "seats", "[I", true)
  | 5 => ("ShuttleDoors$State", "flights", "[I", true)
  | 6 => ("ShuttleDoors$State", "areas", "[I", true)
  | 7 => ("ShuttleDoors$State", "doors", "[I", true)
  | 8 => ("ShuttleDoors$State", "people", "[I", true)
  | _ => ("ShuttleDoors$State", "riders", "I", false)
def tyX3 : Nat → FieldType := fun k => match k with
  | 0 => .array .int
  | 1 => .array .int
  | 2 => .array .int
  | 3 => .array .int
  | 4 => .array .int
  | 5 => .array .int
  | 6 => .array .int
  | 7 => .array .int
  | 8 => .array .int
  | _ => .int
abbrev wsX30 : List Cond := u_ws RX3 TX3 10
theorem nmX3 : ∀ a, a < 10 → ∀ b, b < 10 → a ≠ b → (TX3 a).2.1 ≠ (TX3 b).2.1 := by decide +kernel
theorem tyX3_ok : ∀ k, k < 10 → parseFieldDescriptor (TX3 k).2.2.1 = some (tyX3 k) := by decide +kernel
abbrev cX3_init : ByteArray := prog_5_method_1_code
def yX3_init : MethodName := ⟨RX3, "<init>", "()V"⟩
abbrev cX3_copyFrom : ByteArray := prog_5_method_2_code
def yX3_copyFrom : MethodName := ⟨RX3, "copyFrom", "(LShuttleDoors$State;)V"⟩
abbrev cX3_addRider : ByteArray := prog_5_method_3_code
def yX3_addRider : MethodName := ⟨RX3, "addRider", "(IIII)V"⟩
abbrev cX3_removeRider : ByteArray := prog_5_method_4_code
def yX3_removeRider : MethodName := ⟨RX3, "removeRider", "(I)V"⟩
abbrev cX3_flightReady : ByteArray := prog_5_method_5_code
def yX3_flightReady : MethodName := ⟨RX3, "flightReady", "(I)I"⟩
abbrev cX3_riderReady : ByteArray := prog_5_method_6_code
def yX3_riderReady : MethodName := ⟨RX3, "riderReady", "(I)I"⟩
abbrev cX3_allPeople : ByteArray := prog_5_method_7_code
def yX3_allPeople : MethodName := ⟨RX3, "allPeople", "()I"⟩
abbrev cX3_stopKey : ByteArray := prog_5_method_8_code
def yX3_stopKey : MethodName := ⟨RX3, "stopKey", "(I)I"⟩
abbrev cX3_areaOfStop : ByteArray := prog_5_method_9_code
def yX3_areaOfStop : MethodName := ⟨RX3, "areaOfStop", "(I)I"⟩
abbrev cX3_doorOfStop : ByteArray := prog_5_method_10_code
def yX3_doorOfStop : MethodName := ⟨RX3, "doorOfStop", "(I)I"⟩
def RX4 : String := "ShuttleDoors$Way"
def TX4 : u_T := fun k => match k with
  | 0 => ("ShuttleDoors$Way", "keys", "[I", true)
  | 1 => ("ShuttleDoors$Way", "people", "[I", true)
  | 2 => ("ShuttleDoors$Way", "minutes", "[I", true)
  | _ => ("ShuttleDoors$Way", "stops", "I", false)
def tyX4 : Nat → FieldType := fun k => match k with
  | 0 => .array .int
  | 1 => .array .int
  | 2 => .array .int
  | _ => .int
abbrev wsX40 : List Cond := u_ws RX4 TX4 4
theorem nmX4 : ∀ a, a < 4 → ∀ b, b < 4 → a ≠ b → (TX4 a).2.1 ≠ (TX4 b).2.1 := by decide +kernel
theorem tyX4_ok : ∀ k, k < 4 → parseFieldDescriptor (TX4 k).2.2.1 = some (tyX4 k) := by decide +kernel
abbrev cX4_init : ByteArray := prog_6_method_1_code
def yX4_init : MethodName := ⟨RX4, "<init>", "()V"⟩
abbrev cX4_follow : ByteArray := prog_6_method_2_code
def yX4_follow : MethodName := ⟨RX4, "follow", "(LShuttleDoors$State;LShuttleDoors$Plan;I)V"⟩
abbrev cX4_letOut : ByteArray := prog_6_method_3_code
def yX4_letOut : MethodName := ⟨RX4, "letOut", "(II)V"⟩
abbrev cX4_placeFor : ByteArray := prog_6_method_4_code
def yX4_placeFor : MethodName := ⟨RX4, "placeFor", "(I)I"⟩
abbrev cX4_openStop : ByteArray := prog_6_method_5_code
def yX4_openStop : MethodName := ⟨RX4, "openStop", "(II)V"⟩
abbrev cX4_tellMinutes : ByteArray := prog_6_method_6_code
def yX4_tellMinutes : MethodName := ⟨RX4, "tellMinutes", "(I)V"⟩
abbrev cX4_lastMinute : ByteArray := prog_6_method_7_code
def yX4_lastMinute : MethodName := ⟨RX4, "lastMinute", "()I"⟩
abbrev cX4_minuteAt : ByteArray := prog_6_method_8_code
def yX4_minuteAt : MethodName := ⟨RX4, "minuteAt", "(I)I"⟩
def RX5 : String := "ShuttleDoors"
def TX5 : u_T := fun k => match k with
  | 0 => ("ShuttleDoors", "now", "LShuttleDoors$State;", true)
  | 1 => ("ShuttleDoors", "plan", "LShuttleDoors$Plan;", true)
  | 2 => ("ShuttleDoors", "way", "LShuttleDoors$Way;", true)
  | 3 => ("ShuttleDoors", "trial", "LShuttleDoors$State;", true)
  | 4 => ("ShuttleDoors", "trialPlan", "LShuttleDoors$Plan;", true)
  | 5 => ("ShuttleDoors", "pad", "LShuttleDoors$Pad;", true)
  | 6 => ("ShuttleDoors", "history", "LShuttleDoors$History;", true)
  | _ => ("ShuttleDoors", "slots", "[LShuttleDoors$State;", true)
def tyX5 : Nat → FieldType := fun k => match k with
  | 0 => .object "ShuttleDoors$State"
  | 1 => .object "ShuttleDoors$Plan"
  | 2 => .object "ShuttleDoors$Way"
  | 3 => .object "ShuttleDoors$State"
  | 4 => .object "ShuttleDoors$Plan"
  | 5 => .object "ShuttleDoors$Pad"
  | 6 => .object "ShuttleDoors$History"
  | _ => .array (.object "ShuttleDoors$State")
abbrev wsX50 : List Cond := u_ws RX5 TX5 8
theorem nmX5 : ∀ a, a < 8 → ∀ b, b < 8 → a ≠ b → (TX5 a).2.1 ≠ (TX5 b).2.1 := by decide +kernel
theorem tyX5_ok : ∀ k, k < 8 → parseFieldDescriptor (TX5 k).2.2.1 = some (tyX5 k) := by decide +kernel
abbrev cX5_init : ByteArray := prog_1_method_1_code
def yX5_init : MethodName := ⟨RX5, "<init>", "()V"⟩
abbrev cX5_set : ByteArray := prog_1_method_2_code
def yX5_set : MethodName := ⟨RX5, "set", "(II)I"⟩
abbrev cX5_land : ByteArray := prog_1_method_3_code
def yX5_land : MethodName := ⟨RX5, "land", "(II)I"⟩
abbrev cX5_delay : ByteArray := prog_1_method_4_code
def yX5_delay : MethodName := ⟨RX5, "delay", "(II)I"⟩
abbrev cX5_van : ByteArray := prog_1_method_5_code
def yX5_van : MethodName := ⟨RX5, "van", "(III)I"⟩
abbrev cX5_ride : ByteArray := prog_1_method_6_code
def yX5_ride : MethodName := ⟨RX5, "ride", "(IIII)I"⟩
abbrev cX5_cancel : ByteArray := prog_1_method_8_code
def yX5_cancel : MethodName := ⟨RX5, "cancel", "(I)I"⟩
abbrev cX5_rebook : ByteArray := prog_1_method_9_code
def yX5_rebook : MethodName := ⟨RX5, "rebook", "(II)I"⟩
abbrev cX5_rider : ByteArray := prog_1_method_10_code
def yX5_rider : MethodName := ⟨RX5, "rider", "(II)I"⟩
abbrev cX5_vanOf : ByteArray := prog_1_method_11_code
def yX5_vanOf : MethodName := ⟨RX5, "vanOf", "(II)I"⟩
abbrev cX5_flight : ByteArray := prog_1_method_12_code
def yX5_flight : MethodName := ⟨RX5, "flight", "(II)I"⟩
abbrev cX5_stop : ByteArray := prog_1_method_13_code
def yX5_stop : MethodName := ⟨RX5, "stop", "(III)I"⟩
abbrev cX5_count : ByteArray := prog_1_method_14_code
def yX5_count : MethodName := ⟨RX5, "count", "(I)I"⟩
abbrev cX5_kerb : ByteArray := prog_1_method_15_code
def yX5_kerb : MethodName := ⟨RX5, "kerb", "(I)I"⟩
abbrev cX5_fullest : ByteArray := prog_1_method_19_code
def yX5_fullest : MethodName := ⟨RX5, "fullest", "()I"⟩
abbrev cX5_undo : ByteArray := prog_1_method_23_code
def yX5_undo : MethodName := ⟨RX5, "undo", "()I"⟩
abbrev cX5_isIn : ByteArray := prog_1_method_26_code
def yX5_isIn : MethodName := ⟨RX5, "isIn", "(III)Z"⟩
abbrev cX5_isFlight : ByteArray := prog_1_method_27_code
def yX5_isFlight : MethodName := ⟨RX5, "isFlight", "(I)Z"⟩
abbrev cX5_isDelay : ByteArray := prog_1_method_28_code
def yX5_isDelay : MethodName := ⟨RX5, "isDelay", "(I)Z"⟩
abbrev cX5_isVan : ByteArray := prog_1_method_29_code
def yX5_isVan : MethodName := ⟨RX5, "isVan", "(I)Z"⟩
abbrev cX5_isRider : ByteArray := prog_1_method_31_code
def yX5_isRider : MethodName := ⟨RX5, "isRider", "(I)Z"⟩
abbrev cX5_minuteAtDoor : ByteArray := prog_1_method_32_code
def yX5_minuteAtDoor : MethodName := ⟨RX5, "minuteAtDoor", "(I)I"⟩
abbrev cX5_allFares : ByteArray := prog_1_method_33_code
def yX5_allFares : MethodName := ⟨RX5, "allFares", "()I"⟩
abbrev cX5_allStops : ByteArray := prog_1_method_34_code
def yX5_allStops : MethodName := ⟨RX5, "allStops", "()I"⟩
abbrev cX5_lastAtDoor : ByteArray := prog_1_method_35_code
def yX5_lastAtDoor : MethodName := ⟨RX5, "lastAtDoor", "(LShuttleDoors$State;LShuttleDoors$Plan;)I"⟩
def RX6 : String := "ShuttleDoorsModel"
def TX6 : u_T := fun k => match k with
  | _ => ("", "", "", false)
def tyX6 : Nat → FieldType := fun k => match k with
  | _ => .int
abbrev wsX60 : List Cond := u_ws RX6 TX6 0
theorem nmX6 : ∀ a, a < 0 → ∀ b, b < 0 → a ≠ b → (TX6 a).2.1 ≠ (TX6 b).2.1 := by decide +kernel
theorem tyX6_ok : ∀ k, k < 0 → parseFieldDescriptor (TX6 k).2.2.1 = some (tyX6 k) := by decide +kernel
def RJ6 : String := "java/lang/Integer"
def TJ6 : u_T := fun k => match k with
  | _ => ("", "", "", false)
def tyJ6 : Nat → FieldType := fun k => match k with
  | _ => .int
abbrev cJ6_bitCount_0f7a4 : ByteArray := prog_9_method_49_code
def yJ6_bitCount_0f7a4 : MethodName := ⟨RJ6, "bitCount", "(I)I"⟩
def RJ9 : String := "java/lang/Math"
def TJ9 : u_T := fun k => match k with
  | _ => ("", "", "", false)
def tyJ9 : Nat → FieldType := fun k => match k with
  | _ => .int
abbrev cJ9_max_7cf53 : ByteArray := prog_10_method_65_code
def yJ9_max_7cf53 : MethodName := ⟨RJ9, "max", "(II)I"⟩
def RJ10 : String := "java/lang/System"
def TJ10 : u_T := fun k => match k with
  | _ => ("", "", "", false)
def tyJ10 : Nat → FieldType := fun k => match k with
  | _ => .int
def RL : String := "ShuttleDoorsLaw"
abbrev cL_cell : ByteArray := method_2_code
def yL_cell : MethodName := ⟨RL, "cell", "([II)I"⟩
abbrev cL_low : ByteArray := method_3_code
def yL_low : MethodName := ⟨RL, "low", "(II)I"⟩
abbrev cL_flightOf : ByteArray := method_4_code
def yL_flightOf : MethodName := ⟨RL, "flightOf", "(I)I"⟩
abbrev cL_areaOf : ByteArray := method_5_code
def yL_areaOf : MethodName := ⟨RL, "areaOf", "(I)I"⟩
abbrev cL_doorOf : ByteArray := method_6_code
def yL_doorOf : MethodName := ⟨RL, "doorOf", "(I)I"⟩
abbrev cL_people : ByteArray := method_7_code
def yL_people : MethodName := ⟨RL, "people", "(I)I"⟩
abbrev cL_ready : ByteArray := method_8_code
def yL_ready : MethodName := ⟨RL, "ready", "(I[I)I"⟩
abbrev cL_ones : ByteArray := method_9_code
def yL_ones : MethodName := ⟨RL, "ones", "(I)I"⟩
abbrev cL_gives : ByteArray := method_10_code
def yL_gives : MethodName := ⟨RL, "gives", "([I[I[I[I[I)V"⟩
abbrev cL_stopsAhead : ByteArray := method_11_code
def yL_stopsAhead : MethodName := ⟨RL, "stopsAhead", "(II[I[I[I)I"⟩
abbrev cL_keyOf : ByteArray := method_12_code
def yL_keyOf : MethodName := ⟨RL, "keyOf", "(I)I"⟩
abbrev cL_minuteAt : ByteArray := method_13_code
def yL_minuteAt : MethodName := ⟨RL, "minuteAt", "(II[I[I[I)I"⟩
abbrev cL_part : ByteArray := method_14_code
def yL_part : MethodName := ⟨RL, "part", "(IIZ[I[I[I)I"⟩
abbrev cL_isRider : ByteArray := method_15_code
def yL_isRider : MethodName := ⟨RL, "isRider", "(LShuttleDoors;I[I[I[I)Z"⟩
abbrev cL_isVan : ByteArray := method_16_code
def yL_isVan : MethodName := ⟨RL, "isVan", "(LShuttleDoors;II[I[I[I[I)Z"⟩
abbrev cL_areCounts : ByteArray := method_17_code
def yL_areCounts : MethodName := ⟨RL, "areCounts", "(LShuttleDoors;I[I[I[I[I)Z"⟩
abbrev cL_told : ByteArray := method_18_code
def yL_told : MethodName := ⟨RL, "told", "(LShuttleDoors;)J"⟩
abbrev cL_call : ByteArray := method_19_code
def yL_call : MethodName := ⟨RL, "call", "(LShuttleDoors;IIIII)I"⟩
abbrev cL_due : ByteArray := method_20_code
def yL_due : MethodName := ⟨RL, "due", "(IIIII[I[I[I[I[I)I"⟩
abbrev cL_law : ByteArray := code
def yL_law : MethodName := ⟨RL, "law", "([I)Z"⟩
abbrev vwCl : List vw_C := [(RX0, TX0, 3), (RX1, TX1, 2), (RX2, TX2, 8), (RX3, TX3, 10), (RX4, TX4, 4), (RX5, TX5, 8)]
end
section
def lw_good : List Cond := lw_tbl.filter goodWord
theorem lw_gm {w : Cond} (h : w ∈ lw_tbl) (g : goodWord w = true) : w ∈ lw_good := List.mem_filter.mpr ⟨h, g⟩
theorem tw_se_X2_boardOne : Cond.selects RX2 yX2_boardOne yX2_boardOne ∈ lw_good := lw_gm (List.mem_of_getElem? (i := 0) (by decide +kernel)) (by decide +kernel)
theorem tw_se_X2_firstVanFor : Cond.selects RX2 yX2_firstVanFor yX2_firstVanFor ∈ lw_good := lw_gm (List.mem_of_getElem? (i := 1) (by decide +kernel)) (by decide +kernel)
theorem tw_se_X2_takes : Cond.selects RX2 yX2_takes yX2_takes ∈ lw_good := lw_gm (List.mem_of_getElem? (i := 2) (by decide +kernel)) (by decide +kernel)
theorem tw_se_X5_isRider : Cond.selects RX5 yX5_isRider yX5_isRider ∈ lw_good := lw_gm (List.mem_of_getElem? (i := 3) (by decide +kernel)) (by decide +kernel)
theorem tw_se_X5_minuteAtDoor : Cond.selects RX5 yX5_minuteAtDoor yX5_minuteAtDoor ∈ lw_good := lw_gm (List.mem_of_getElem? (i := 4) (by decide +kernel)) (by decide +kernel)
theorem tw_se_X4_letOut : Cond.selects RX4 yX4_letOut yX4_letOut ∈ lw_good := lw_gm (List.mem_of_getElem? (i := 5) (by decide +kernel)) (by decide +kernel)
theorem tw_se_X4_placeFor : Cond.selects RX4 yX4_placeFor yX4_placeFor ∈ lw_good := lw_gm (List.mem_of_getElem? (i := 6) (by decide +kernel)) (by decide +kernel)
theorem tw_se_X4_openStop : Cond.selects RX4 yX4_openStop yX4_openStop ∈ lw_good := lw_gm (List.mem_of_getElem? (i := 7) (by decide +kernel)) (by decide +kernel)
theorem tw_se_X4_tellMinutes : Cond.selects RX4 yX4_tellMinutes yX4_tellMinutes ∈ lw_good := lw_gm (List.mem_of_getElem? (i := 8) (by decide +kernel)) (by decide +kernel)
theorem tw_se_X2_share : Cond.selects RX2 yX2_share yX2_share ∈ lw_good := lw_gm (List.mem_of_getElem? (i := 9) (by decide +kernel)) (by decide +kernel)
theorem tw_se_X2_shares : Cond.selects RX2 yX2_shares yX2_shares ∈ lw_good := lw_gm (List.mem_of_getElem? (i := 10) (by decide +kernel)) (by decide +kernel)
theorem tw_se_X5_allFares : Cond.selects RX5 yX5_allFares yX5_allFares ∈ lw_good := lw_gm (List.mem_of_getElem? (i := 11) (by decide +kernel)) (by decide +kernel)
theorem tw_se_X5_allStops : Cond.selects RX5 yX5_allStops yX5_allStops ∈ lw_good := lw_gm (List.mem_of_getElem? (i := 12) (by decide +kernel)) (by decide +kernel)
theorem tw_se_X5_lastAtDoor : Cond.selects RX5 yX5_lastAtDoor yX5_lastAtDoor ∈ lw_good := lw_gm (List.mem_of_getElem? (i := 13) (by decide +kernel)) (by decide +kernel)
theorem tw_in_L : Cond.initialized RL ∈ lw_good := lw_gm (List.mem_of_getElem? (i := 14) (by decide +kernel)) (by decide +kernel)
theorem tw_in_X5 : Cond.initialized RX5 ∈ lw_good := lw_gm (List.mem_of_getElem? (i := 15) (by decide +kernel)) (by decide +kernel)
theorem tw_in_X3 : Cond.initialized RX3 ∈ lw_good := lw_gm (List.mem_of_getElem? (i := 16) (by decide +kernel)) (by decide +kernel)
theorem tw_in_X2 : Cond.initialized RX2 ∈ lw_good := lw_gm (List.mem_of_getElem? (i := 17) (by decide +kernel)) (by decide +kernel)
theorem tw_in_X4 : Cond.initialized RX4 ∈ lw_good := lw_gm (List.mem_of_getElem? (i := 18) (by decide +kernel)) (by decide +kernel)
theorem tw_in_X1 : Cond.initialized RX1 ∈ lw_good := lw_gm (List.mem_of_getElem? (i := 19) (by decide +kernel)) (by decide +kernel)
theorem tw_in_X0 : Cond.initialized RX0 ∈ lw_good := lw_gm (List.mem_of_getElem? (i := 20) (by decide +kernel)) (by decide +kernel)
theorem tw_in_J9 : Cond.initialized RJ9 ∈ lw_good := lw_gm (List.mem_of_getElem? (i := 21) (by decide +kernel)) (by decide +kernel)
theorem tw_in_J10 : Cond.initialized RJ10 ∈ lw_good := lw_gm (List.mem_of_getElem? (i := 22) (by decide +kernel)) (by decide +kernel)
theorem tw_in_J6 : Cond.initialized RJ6 ∈ lw_good := lw_gm (List.mem_of_getElem? (i := 23) (by decide +kernel)) (by decide +kernel)
theorem tw_cl_L_40 : Cond.classLink RL 40 RX5 ∈ lw_good := lw_gm (List.mem_of_getElem? (i := 24) (by decide +kernel)) (by decide +kernel)
theorem tw_is_X5 : Cond.instantiable RX5 8 ∈ lw_good := lw_gm (List.mem_of_getElem? (i := 25) (by decide +kernel)) (by decide +kernel)
theorem tw_ml_L_111 : Cond.methodLink RL 111 yX5_init ∈ lw_good := lw_gm (List.mem_of_getElem? (i := 26) (by decide +kernel)) (by decide +kernel)
theorem tw_im_X5_init : Cond.instanceMethod yX5_init ∈ lw_good := lw_gm (List.mem_of_getElem? (i := 27) (by decide +kernel)) (by decide +kernel)
theorem tw_co_X5_init : Cond.code yX5_init cX5_init 1 none ∈ lw_good := lw_gm (List.mem_of_getElem? (i := 28) (by decide +kernel)) (by decide +kernel)
theorem tw_ml_X5_1 : Cond.methodLink RX5 1 objectInit ∈ lw_good := lw_gm (List.mem_of_getElem? (i := 29) (by decide +kernel)) (by decide +kernel)
theorem tw_im_Object_init : Cond.instanceMethod objectInit ∈ lw_good := lw_gm (List.mem_of_getElem? (i := 30) (by decide +kernel)) (by decide +kernel)
theorem tw_co_Object_init : Cond.code objectInit object_method_1_code 1 none ∈ lw_good := lw_gm (List.mem_of_getElem? (i := 31) (by decide +kernel)) (by decide +kernel)
theorem tw_cl_X5_7 : Cond.classLink RX5 7 RX3 ∈ lw_good := lw_gm (List.mem_of_getElem? (i := 32) (by decide +kernel)) (by decide +kernel)
theorem tw_is_X3 : Cond.instantiable RX3 10 ∈ lw_good := lw_gm (List.mem_of_getElem? (i := 33) (by decide +kernel)) (by decide +kernel)
theorem tw_ml_X5_9 : Cond.methodLink RX5 9 yX3_init ∈ lw_good := lw_gm (List.mem_of_getElem? (i := 34) (by decide +kernel)) (by decide +kernel)
theorem tw_im_X3_init : Cond.instanceMethod yX3_init ∈ lw_good := lw_gm (List.mem_of_getElem? (i := 35) (by decide +kernel)) (by decide +kernel)
theorem tw_co_X3_init : Cond.code yX3_init cX3_init 2 none ∈ lw_good := lw_gm (List.mem_of_getElem? (i := 36) (by decide +kernel)) (by decide +kernel)
theorem tw_ml_X3_3 : Cond.methodLink RX3 3 objectInit ∈ lw_good := lw_gm (List.mem_of_getElem? (i := 37) (by decide +kernel)) (by decide +kernel)
theorem tw_fl_X3_9 : Cond.fieldLink RX3 9 "ShuttleDoors$State" "settings" "[I" ∈ lw_good := lw_gm (List.mem_of_getElem? (i := 40) (by decide +kernel)) (by decide +kernel)
theorem tw_fl_X5_65 : Cond.fieldLink RX5 65 "ShuttleDoors$State" "settings" "[I" ∈ lw_good := lw_gm (List.mem_of_getElem? (i := 41) (by decide +kernel)) (by decide +kernel)
theorem tw_fl_X2_78 : Cond.fieldLink RX2 78 "ShuttleDoors$State" "settings" "[I" ∈ lw_good := lw_gm (List.mem_of_getElem? (i := 42) (by decide +kernel)) (by decide +kernel)
theorem tw_fl_X3_15 : Cond.fieldLink RX3 15 "ShuttleDoors$State" "lands" "[I" ∈ lw_good := lw_gm (List.mem_of_getElem? (i := 43) (by decide +kernel)) (by decide +kernel)
theorem tw_fl_X5_79 : Cond.fieldLink RX5 79 "ShuttleDoors$State" "lands" "[I" ∈ lw_good := lw_gm (List.mem_of_getElem? (i := 44) (by decide +kernel)) (by decide +kernel)
theorem tw_fl_X3_18 : Cond.fieldLink RX3 18 "ShuttleDoors$State" "delays" "[I" ∈ lw_good := lw_gm (List.mem_of_getElem? (i := 45) (by decide +kernel)) (by decide +kernel)
theorem tw_fl_X5_85 : Cond.fieldLink RX5 85 "ShuttleDoors$State" "delays" "[I" ∈ lw_good := lw_gm (List.mem_of_getElem? (i := 46) (by decide +kernel)) (by decide +kernel)
theorem tw_fl_X3_21 : Cond.fieldLink RX3 21 "ShuttleDoors$State" "leaves" "[I" ∈ lw_good := lw_gm (List.mem_of_getElem? (i := 47) (by decide +kernel)) (by decide +kernel)
theorem tw_fl_X4_44 : Cond.fieldLink RX4 44 "ShuttleDoors$State" "leaves" "[I" ∈ lw_good := lw_gm (List.mem_of_getElem? (i := 48) (by decide +kernel)) (by decide +kernel)
theorem tw_fl_X5_95 : Cond.fieldLink RX5 95 "ShuttleDoors$State" "leaves" "[I" ∈ lw_good := lw_gm (List.mem_of_getElem? (i := 49) (by decide +kernel)) (by decide +kernel)
theorem tw_fl_X2_71 : Cond.fieldLink RX2 71 "ShuttleDoors$State" "leaves" "[I" ∈ lw_good := lw_gm (List.mem_of_getElem? (i := 50) (by decide +kernel)) (by decide +kernel)
theorem tw_fl_X3_24 : Cond.fieldLink RX3 24 "ShuttleDoors$State" "seats" "[I" ∈ lw_good := lw_gm (List.mem_of_getElem? (i := 51) (by decide +kernel)) (by decide +kernel)
theorem tw_fl_X5_98 : Cond.fieldLink RX5 98 "ShuttleDoors$State" "seats" "[I" ∈ lw_good := lw_gm (List.mem_of_getElem? (i := 52) (by decide +kernel)) (by decide +kernel)
theorem tw_fl_X2_85 : Cond.fieldLink RX2 85 "ShuttleDoors$State" "seats" "[I" ∈ lw_good := lw_gm (List.mem_of_getElem? (i := 53) (by decide +kernel)) (by decide +kernel)
theorem tw_fl_X3_27 : Cond.fieldLink RX3 27 "ShuttleDoors$State" "flights" "[I" ∈ lw_good := lw_gm (List.mem_of_getElem? (i := 54) (by decide +kernel)) (by decide +kernel)
theorem tw_fl_X5_136 : Cond.fieldLink RX5 136 "ShuttleDoors$State" "flights" "[I" ∈ lw_good := lw_gm (List.mem_of_getElem? (i := 55) (by decide +kernel)) (by decide +kernel)
theorem tw_fl_X2_93 : Cond.fieldLink RX2 93 "ShuttleDoors$State" "flights" "[I" ∈ lw_good := lw_gm (List.mem_of_getElem? (i := 56) (by decide +kernel)) (by decide +kernel)
theorem tw_fl_X3_30 : Cond.fieldLink RX3 30 "ShuttleDoors$State" "areas" "[I" ∈ lw_good := lw_gm (List.mem_of_getElem? (i := 57) (by decide +kernel)) (by decide +kernel)
theorem tw_fl_X2_68 : Cond.fieldLink RX2 68 "ShuttleDoors$State" "areas" "[I" ∈ lw_good := lw_gm (List.mem_of_getElem? (i := 58) (by decide +kernel)) (by decide +kernel)
theorem tw_fl_X5_142 : Cond.fieldLink RX5 142 "ShuttleDoors$State" "areas" "[I" ∈ lw_good := lw_gm (List.mem_of_getElem? (i := 59) (by decide +kernel)) (by decide +kernel)
theorem tw_fl_X3_33 : Cond.fieldLink RX3 33 "ShuttleDoors$State" "doors" "[I" ∈ lw_good := lw_gm (List.mem_of_getElem? (i := 60) (by decide +kernel)) (by decide +kernel)
theorem tw_fl_X5_145 : Cond.fieldLink RX5 145 "ShuttleDoors$State" "doors" "[I" ∈ lw_good := lw_gm (List.mem_of_getElem? (i := 61) (by decide +kernel)) (by decide +kernel)
theorem tw_fl_X3_36 : Cond.fieldLink RX3 36 "ShuttleDoors$State" "people" "[I" ∈ lw_good := lw_gm (List.mem_of_getElem? (i := 62) (by decide +kernel)) (by decide +kernel)
theorem tw_fl_X4_39 : Cond.fieldLink RX4 39 "ShuttleDoors$State" "people" "[I" ∈ lw_good := lw_gm (List.mem_of_getElem? (i := 63) (by decide +kernel)) (by decide +kernel)
theorem tw_fl_X2_57 : Cond.fieldLink RX2 57 "ShuttleDoors$State" "people" "[I" ∈ lw_good := lw_gm (List.mem_of_getElem? (i := 64) (by decide +kernel)) (by decide +kernel)
theorem tw_fl_X5_148 : Cond.fieldLink RX5 148 "ShuttleDoors$State" "people" "[I" ∈ lw_good := lw_gm (List.mem_of_getElem? (i := 65) (by decide +kernel)) (by decide +kernel)
theorem tw_fl_X4_25 : Cond.fieldLink RX4 25 "ShuttleDoors$State" "riders" "I" ∈ lw_good := lw_gm (List.mem_of_getElem? (i := 66) (by decide +kernel)) (by decide +kernel)
theorem tw_fl_X3_48 : Cond.fieldLink RX3 48 "ShuttleDoors$State" "riders" "I" ∈ lw_good := lw_gm (List.mem_of_getElem? (i := 67) (by decide +kernel)) (by decide +kernel)
theorem tw_fl_X2_34 : Cond.fieldLink RX2 34 "ShuttleDoors$State" "riders" "I" ∈ lw_good := lw_gm (List.mem_of_getElem? (i := 68) (by decide +kernel)) (by decide +kernel)
theorem tw_fl_X5_105 : Cond.fieldLink RX5 105 "ShuttleDoors$State" "riders" "I" ∈ lw_good := lw_gm (List.mem_of_getElem? (i := 69) (by decide +kernel)) (by decide +kernel)
theorem tw_ac_int : Cond.arrayClass .int ∈ lw_good := lw_gm (List.mem_of_getElem? (i := 91) (by decide +kernel)) (by decide +kernel)
theorem tw_cl_X5_16 : Cond.classLink RX5 16 RX2 ∈ lw_good := lw_gm (List.mem_of_getElem? (i := 92) (by decide +kernel)) (by decide +kernel)
theorem tw_is_X2 : Cond.instantiable RX2 8 ∈ lw_good := lw_gm (List.mem_of_getElem? (i := 93) (by decide +kernel)) (by decide +kernel)
theorem tw_im_X2_init : Cond.instanceMethod yX2_init ∈ lw_good := lw_gm (List.mem_of_getElem? (i := 95) (by decide +kernel)) (by decide +kernel)
theorem tw_co_X2_init : Cond.code yX2_init cX2_init 1 none ∈ lw_good := lw_gm (List.mem_of_getElem? (i := 96) (by decide +kernel)) (by decide +kernel)
end
section
theorem tw_ml_X2_3 : Cond.methodLink RX2 3 objectInit ∈ lw_good := lw_gm (List.mem_of_getElem? (i := 97) (by decide +kernel)) (by decide +kernel)
theorem tw_fl_X2_9 : Cond.fieldLink RX2 9 "ShuttleDoors$Plan" "order" "[I" ∈ lw_good := lw_gm (List.mem_of_getElem? (i := 98) (by decide +kernel)) (by decide +kernel)
theorem tw_fl_X2_15 : Cond.fieldLink RX2 15 "ShuttleDoors$Plan" "ready" "[I" ∈ lw_good := lw_gm (List.mem_of_getElem? (i := 99) (by decide +kernel)) (by decide +kernel)
theorem tw_fl_X2_18 : Cond.fieldLink RX2 18 "ShuttleDoors$Plan" "vans" "[I" ∈ lw_good := lw_gm (List.mem_of_getElem? (i := 100) (by decide +kernel)) (by decide +kernel)
theorem tw_fl_X4_30 : Cond.fieldLink RX4 30 "ShuttleDoors$Plan" "vans" "[I" ∈ lw_good := lw_gm (List.mem_of_getElem? (i := 101) (by decide +kernel)) (by decide +kernel)
theorem tw_fl_X5_139 : Cond.fieldLink RX5 139 "ShuttleDoors$Plan" "vans" "[I" ∈ lw_good := lw_gm (List.mem_of_getElem? (i := 102) (by decide +kernel)) (by decide +kernel)
theorem tw_fl_X2_21 : Cond.fieldLink RX2 21 "ShuttleDoors$Plan" "peopleIn" "[I" ∈ lw_good := lw_gm (List.mem_of_getElem? (i := 103) (by decide +kernel)) (by decide +kernel)
theorem tw_fl_X5_167 : Cond.fieldLink RX5 167 "ShuttleDoors$Plan" "peopleIn" "[I" ∈ lw_good := lw_gm (List.mem_of_getElem? (i := 104) (by decide +kernel)) (by decide +kernel)
theorem tw_fl_X2_24 : Cond.fieldLink RX2 24 "ShuttleDoors$Plan" "areasOf" "[I" ∈ lw_good := lw_gm (List.mem_of_getElem? (i := 105) (by decide +kernel)) (by decide +kernel)
theorem tw_fl_X5_173 : Cond.fieldLink RX5 173 "ShuttleDoors$Plan" "areasOf" "[I" ∈ lw_good := lw_gm (List.mem_of_getElem? (i := 106) (by decide +kernel)) (by decide +kernel)
theorem tw_fl_X2_44 : Cond.fieldLink RX2 44 "ShuttleDoors$Plan" "strandedRiders" "I" ∈ lw_good := lw_gm (List.mem_of_getElem? (i := 107) (by decide +kernel)) (by decide +kernel)
theorem tw_fl_X5_205 : Cond.fieldLink RX5 205 "ShuttleDoors$Plan" "strandedRiders" "I" ∈ lw_good := lw_gm (List.mem_of_getElem? (i := 108) (by decide +kernel)) (by decide +kernel)
theorem tw_fl_X2_47 : Cond.fieldLink RX2 47 "ShuttleDoors$Plan" "strandedPeople" "I" ∈ lw_good := lw_gm (List.mem_of_getElem? (i := 109) (by decide +kernel)) (by decide +kernel)
theorem tw_fl_X5_101 : Cond.fieldLink RX5 101 "ShuttleDoors$Plan" "strandedPeople" "I" ∈ lw_good := lw_gm (List.mem_of_getElem? (i := 110) (by decide +kernel)) (by decide +kernel)
theorem tw_fl_X2_50 : Cond.fieldLink RX2 50 "ShuttleDoors$Plan" "waiting" "I" ∈ lw_good := lw_gm (List.mem_of_getElem? (i := 111) (by decide +kernel)) (by decide +kernel)
theorem tw_fl_X5_208 : Cond.fieldLink RX5 208 "ShuttleDoors$Plan" "waiting" "I" ∈ lw_good := lw_gm (List.mem_of_getElem? (i := 112) (by decide +kernel)) (by decide +kernel)
theorem tw_cl_X5_23 : Cond.classLink RX5 23 RX4 ∈ lw_good := lw_gm (List.mem_of_getElem? (i := 130) (by decide +kernel)) (by decide +kernel)
theorem tw_is_X4 : Cond.instantiable RX4 4 ∈ lw_good := lw_gm (List.mem_of_getElem? (i := 131) (by decide +kernel)) (by decide +kernel)
theorem tw_im_X4_init : Cond.instanceMethod yX4_init ∈ lw_good := lw_gm (List.mem_of_getElem? (i := 133) (by decide +kernel)) (by decide +kernel)
theorem tw_co_X4_init : Cond.code yX4_init cX4_init 1 none ∈ lw_good := lw_gm (List.mem_of_getElem? (i := 134) (by decide +kernel)) (by decide +kernel)
theorem tw_ml_X4_3 : Cond.methodLink RX4 3 objectInit ∈ lw_good := lw_gm (List.mem_of_getElem? (i := 135) (by decide +kernel)) (by decide +kernel)
theorem tw_fl_X4_9 : Cond.fieldLink RX4 9 "ShuttleDoors$Way" "keys" "[I" ∈ lw_good := lw_gm (List.mem_of_getElem? (i := 136) (by decide +kernel)) (by decide +kernel)
theorem tw_fl_X5_189 : Cond.fieldLink RX5 189 "ShuttleDoors$Way" "keys" "[I" ∈ lw_good := lw_gm (List.mem_of_getElem? (i := 137) (by decide +kernel)) (by decide +kernel)
theorem tw_fl_X4_15 : Cond.fieldLink RX4 15 "ShuttleDoors$Way" "people" "[I" ∈ lw_good := lw_gm (List.mem_of_getElem? (i := 138) (by decide +kernel)) (by decide +kernel)
theorem tw_fl_X5_201 : Cond.fieldLink RX5 201 "ShuttleDoors$Way" "people" "[I" ∈ lw_good := lw_gm (List.mem_of_getElem? (i := 139) (by decide +kernel)) (by decide +kernel)
theorem tw_fl_X4_18 : Cond.fieldLink RX4 18 "ShuttleDoors$Way" "minutes" "[I" ∈ lw_good := lw_gm (List.mem_of_getElem? (i := 140) (by decide +kernel)) (by decide +kernel)
theorem tw_fl_X5_198 : Cond.fieldLink RX5 198 "ShuttleDoors$Way" "minutes" "[I" ∈ lw_good := lw_gm (List.mem_of_getElem? (i := 141) (by decide +kernel)) (by decide +kernel)
theorem tw_fl_X4_21 : Cond.fieldLink RX4 21 "ShuttleDoors$Way" "stops" "I" ∈ lw_good := lw_gm (List.mem_of_getElem? (i := 142) (by decide +kernel)) (by decide +kernel)
theorem tw_fl_X5_176 : Cond.fieldLink RX5 176 "ShuttleDoors$Way" "stops" "I" ∈ lw_good := lw_gm (List.mem_of_getElem? (i := 143) (by decide +kernel)) (by decide +kernel)
theorem tw_cl_X5_36 : Cond.classLink RX5 36 RX1 ∈ lw_good := lw_gm (List.mem_of_getElem? (i := 153) (by decide +kernel)) (by decide +kernel)
theorem tw_is_X1 : Cond.instantiable RX1 2 ∈ lw_good := lw_gm (List.mem_of_getElem? (i := 154) (by decide +kernel)) (by decide +kernel)
theorem tw_im_X1_init : Cond.instanceMethod yX1_init ∈ lw_good := lw_gm (List.mem_of_getElem? (i := 156) (by decide +kernel)) (by decide +kernel)
theorem tw_co_X1_init : Cond.code yX1_init cX1_init 1 none ∈ lw_good := lw_gm (List.mem_of_getElem? (i := 157) (by decide +kernel)) (by decide +kernel)
theorem tw_ml_X1_3 : Cond.methodLink RX1 3 objectInit ∈ lw_good := lw_gm (List.mem_of_getElem? (i := 158) (by decide +kernel)) (by decide +kernel)
theorem tw_fl_X1_9 : Cond.fieldLink RX1 9 "ShuttleDoors$Pad" "codes" "[I" ∈ lw_good := lw_gm (List.mem_of_getElem? (i := 159) (by decide +kernel)) (by decide +kernel)
theorem tw_fl_X5_122 : Cond.fieldLink RX5 122 "ShuttleDoors$Pad" "length" "I" ∈ lw_good := lw_gm (List.mem_of_getElem? (i := 160) (by decide +kernel)) (by decide +kernel)
theorem tw_cl_X5_43 : Cond.classLink RX5 43 RX0 ∈ lw_good := lw_gm (List.mem_of_getElem? (i := 166) (by decide +kernel)) (by decide +kernel)
theorem tw_is_X0 : Cond.instantiable RX0 3 ∈ lw_good := lw_gm (List.mem_of_getElem? (i := 167) (by decide +kernel)) (by decide +kernel)
theorem tw_ml_X5_45 : Cond.methodLink RX5 45 yX0_init ∈ lw_good := lw_gm (List.mem_of_getElem? (i := 168) (by decide +kernel)) (by decide +kernel)
theorem tw_im_X0_init : Cond.instanceMethod yX0_init ∈ lw_good := lw_gm (List.mem_of_getElem? (i := 169) (by decide +kernel)) (by decide +kernel)
theorem tw_co_X0_init : Cond.code yX0_init cX0_init 2 none ∈ lw_good := lw_gm (List.mem_of_getElem? (i := 170) (by decide +kernel)) (by decide +kernel)
theorem tw_ml_X0_3 : Cond.methodLink RX0 3 objectInit ∈ lw_good := lw_gm (List.mem_of_getElem? (i := 171) (by decide +kernel)) (by decide +kernel)
theorem tw_cl_X0_9 : Cond.classLink RX0 9 RX3 ∈ lw_good := lw_gm (List.mem_of_getElem? (i := 172) (by decide +kernel)) (by decide +kernel)
theorem tw_ml_X0_17 : Cond.methodLink RX0 17 yX3_init ∈ lw_good := lw_gm (List.mem_of_getElem? (i := 174) (by decide +kernel)) (by decide +kernel)
theorem tw_fl_X0_11 : Cond.fieldLink RX0 11 "ShuttleDoors$History" "states" "[LShuttleDoors$State;" ∈ lw_good := lw_gm (List.mem_of_getElem? (i := 175) (by decide +kernel)) (by decide +kernel)
theorem tw_fl_X0_22 : Cond.fieldLink RX0 22 "ShuttleDoors$History" "oldest" "I" ∈ lw_good := lw_gm (List.mem_of_getElem? (i := 176) (by decide +kernel)) (by decide +kernel)
theorem tw_fl_X0_18 : Cond.fieldLink RX0 18 "ShuttleDoors$History" "size" "I" ∈ lw_good := lw_gm (List.mem_of_getElem? (i := 177) (by decide +kernel)) (by decide +kernel)
theorem tw_fl_X5_224 : Cond.fieldLink RX5 224 "ShuttleDoors$History" "size" "I" ∈ lw_good := lw_gm (List.mem_of_getElem? (i := 178) (by decide +kernel)) (by decide +kernel)
theorem tw_fl_X5_10 : Cond.fieldLink RX5 10 "ShuttleDoors" "now" "LShuttleDoors$State;" ∈ lw_good := lw_gm (List.mem_of_getElem? (i := 186) (by decide +kernel)) (by decide +kernel)
theorem tw_fl_X5_19 : Cond.fieldLink RX5 19 "ShuttleDoors" "plan" "LShuttleDoors$Plan;" ∈ lw_good := lw_gm (List.mem_of_getElem? (i := 187) (by decide +kernel)) (by decide +kernel)
theorem tw_fl_X5_26 : Cond.fieldLink RX5 26 "ShuttleDoors" "way" "LShuttleDoors$Way;" ∈ lw_good := lw_gm (List.mem_of_getElem? (i := 188) (by decide +kernel)) (by decide +kernel)
theorem tw_fl_X5_30 : Cond.fieldLink RX5 30 "ShuttleDoors" "trial" "LShuttleDoors$State;" ∈ lw_good := lw_gm (List.mem_of_getElem? (i := 189) (by decide +kernel)) (by decide +kernel)
theorem tw_fl_X5_33 : Cond.fieldLink RX5 33 "ShuttleDoors" "trialPlan" "LShuttleDoors$Plan;" ∈ lw_good := lw_gm (List.mem_of_getElem? (i := 190) (by decide +kernel)) (by decide +kernel)
theorem tw_fl_X5_39 : Cond.fieldLink RX5 39 "ShuttleDoors" "pad" "LShuttleDoors$Pad;" ∈ lw_good := lw_gm (List.mem_of_getElem? (i := 191) (by decide +kernel)) (by decide +kernel)
theorem tw_fl_X5_46 : Cond.fieldLink RX5 46 "ShuttleDoors" "history" "LShuttleDoors$History;" ∈ lw_good := lw_gm (List.mem_of_getElem? (i := 192) (by decide +kernel)) (by decide +kernel)
theorem tw_fl_X5_50 : Cond.fieldLink RX5 50 "ShuttleDoors" "slots" "[LShuttleDoors$State;" ∈ lw_good := lw_gm (List.mem_of_getElem? (i := 193) (by decide +kernel)) (by decide +kernel)
theorem tw_ml_L_124 : Cond.methodLink RL 124 yX5_undo ∈ lw_good := lw_gm (List.mem_of_getElem? (i := 211) (by decide +kernel)) (by decide +kernel)
theorem tw_im_X5_undo : Cond.instanceMethod yX5_undo ∈ lw_good := lw_gm (List.mem_of_getElem? (i := 212) (by decide +kernel)) (by decide +kernel)
theorem tw_se_X5_undo : Cond.selects RX5 yX5_undo yX5_undo ∈ lw_good := lw_gm (List.mem_of_getElem? (i := 213) (by decide +kernel)) (by decide +kernel)
theorem tw_co_X5_undo : Cond.code yX5_undo cX5_undo 1 (some .int) ∈ lw_good := lw_gm (List.mem_of_getElem? (i := 214) (by decide +kernel)) (by decide +kernel)
theorem tw_ml_X5_248 : Cond.methodLink RX5 248 yX0_takeBack ∈ lw_good := lw_gm (List.mem_of_getElem? (i := 215) (by decide +kernel)) (by decide +kernel)
theorem tw_im_X0_takeBack : Cond.instanceMethod yX0_takeBack ∈ lw_good := lw_gm (List.mem_of_getElem? (i := 216) (by decide +kernel)) (by decide +kernel)
theorem tw_se_X0_takeBack : Cond.selects RX0 yX0_takeBack yX0_takeBack ∈ lw_good := lw_gm (List.mem_of_getElem? (i := 217) (by decide +kernel)) (by decide +kernel)
theorem tw_co_X0_takeBack : Cond.code yX0_takeBack cX0_takeBack 2 none ∈ lw_good := lw_gm (List.mem_of_getElem? (i := 218) (by decide +kernel)) (by decide +kernel)
theorem tw_ml_X0_25 : Cond.methodLink RX0 25 yX3_copyFrom ∈ lw_good := lw_gm (List.mem_of_getElem? (i := 219) (by decide +kernel)) (by decide +kernel)
theorem tw_im_X3_copyFrom : Cond.instanceMethod yX3_copyFrom ∈ lw_good := lw_gm (List.mem_of_getElem? (i := 220) (by decide +kernel)) (by decide +kernel)
theorem tw_se_X3_copyFrom : Cond.selects RX3 yX3_copyFrom yX3_copyFrom ∈ lw_good := lw_gm (List.mem_of_getElem? (i := 221) (by decide +kernel)) (by decide +kernel)
theorem tw_co_X3_copyFrom : Cond.code yX3_copyFrom cX3_copyFrom 2 none ∈ lw_good := lw_gm (List.mem_of_getElem? (i := 222) (by decide +kernel)) (by decide +kernel)
theorem tw_ml_X3_42 : Cond.methodLink RX3 42 arraycopyName ∈ lw_good := lw_gm (List.mem_of_getElem? (i := 223) (by decide +kernel)) (by decide +kernel)
theorem tw_st_arraycopy : Cond.static arraycopyName ∈ lw_good := lw_gm (List.mem_of_getElem? (i := 224) (by decide +kernel)) (by decide +kernel)
theorem tw_na_arraycopy : Cond.native arraycopyName ∈ lw_good := lw_gm (List.mem_of_getElem? (i := 225) (by decide +kernel)) (by decide +kernel)
theorem tw_ml_X5_72 : Cond.methodLink RX5 72 yX2_make ∈ lw_good := lw_gm (List.mem_of_getElem? (i := 226) (by decide +kernel)) (by decide +kernel)
theorem tw_im_X2_make : Cond.instanceMethod yX2_make ∈ lw_good := lw_gm (List.mem_of_getElem? (i := 227) (by decide +kernel)) (by decide +kernel)
theorem tw_se_X2_make : Cond.selects RX2 yX2_make yX2_make ∈ lw_good := lw_gm (List.mem_of_getElem? (i := 228) (by decide +kernel)) (by decide +kernel)
theorem tw_co_X2_make : Cond.code yX2_make cX2_make 2 none ∈ lw_good := lw_gm (List.mem_of_getElem? (i := 229) (by decide +kernel)) (by decide +kernel)
end
section
theorem tw_ml_X2_27 : Cond.methodLink RX2 27 yX2_lineUp ∈ lw_good := lw_gm (List.mem_of_getElem? (i := 230) (by decide +kernel)) (by decide +kernel)
theorem tw_im_X2_lineUp : Cond.instanceMethod yX2_lineUp ∈ lw_good := lw_gm (List.mem_of_getElem? (i := 231) (by decide +kernel)) (by decide +kernel)
theorem tw_se_X2_lineUp : Cond.selects RX2 yX2_lineUp yX2_lineUp ∈ lw_good := lw_gm (List.mem_of_getElem? (i := 232) (by decide +kernel)) (by decide +kernel)
theorem tw_co_X2_lineUp : Cond.code yX2_lineUp cX2_lineUp 4 none ∈ lw_good := lw_gm (List.mem_of_getElem? (i := 233) (by decide +kernel)) (by decide +kernel)
theorem tw_ml_X2_40 : Cond.methodLink RX2 40 yX3_riderReady ∈ lw_good := lw_gm (List.mem_of_getElem? (i := 234) (by decide +kernel)) (by decide +kernel)
theorem tw_im_X3_riderReady : Cond.instanceMethod yX3_riderReady ∈ lw_good := lw_gm (List.mem_of_getElem? (i := 235) (by decide +kernel)) (by decide +kernel)
theorem tw_se_X3_riderReady : Cond.selects RX3 yX3_riderReady yX3_riderReady ∈ lw_good := lw_gm (List.mem_of_getElem? (i := 236) (by decide +kernel)) (by decide +kernel)
theorem tw_co_X3_riderReady : Cond.code yX3_riderReady cX3_riderReady 2 (some .int) ∈ lw_good := lw_gm (List.mem_of_getElem? (i := 237) (by decide +kernel)) (by decide +kernel)
theorem tw_ml_X3_52 : Cond.methodLink RX3 52 yX3_flightReady ∈ lw_good := lw_gm (List.mem_of_getElem? (i := 238) (by decide +kernel)) (by decide +kernel)
theorem tw_im_X3_flightReady : Cond.instanceMethod yX3_flightReady ∈ lw_good := lw_gm (List.mem_of_getElem? (i := 239) (by decide +kernel)) (by decide +kernel)
theorem tw_se_X3_flightReady : Cond.selects RX3 yX3_flightReady yX3_flightReady ∈ lw_good := lw_gm (List.mem_of_getElem? (i := 240) (by decide +kernel)) (by decide +kernel)
theorem tw_co_X3_flightReady : Cond.code yX3_flightReady cX3_flightReady 2 (some .int) ∈ lw_good := lw_gm (List.mem_of_getElem? (i := 241) (by decide +kernel)) (by decide +kernel)
theorem tw_ml_X2_31 : Cond.methodLink RX2 31 yX2_board ∈ lw_good := lw_gm (List.mem_of_getElem? (i := 242) (by decide +kernel)) (by decide +kernel)
theorem tw_im_X2_board : Cond.instanceMethod yX2_board ∈ lw_good := lw_gm (List.mem_of_getElem? (i := 243) (by decide +kernel)) (by decide +kernel)
theorem tw_se_X2_board : Cond.selects RX2 yX2_board yX2_board ∈ lw_good := lw_gm (List.mem_of_getElem? (i := 244) (by decide +kernel)) (by decide +kernel)
theorem tw_co_X2_board : Cond.code yX2_board cX2_board 3 none ∈ lw_good := lw_gm (List.mem_of_getElem? (i := 245) (by decide +kernel)) (by decide +kernel)
theorem tw_ml_X2_53 : Cond.methodLink RX2 53 yX2_boardOne ∈ lw_good := lw_gm (List.mem_of_getElem? (i := 246) (by decide +kernel)) (by decide +kernel)
theorem tw_im_X2_boardOne : Cond.instanceMethod yX2_boardOne ∈ lw_good := lw_gm (List.mem_of_getElem? (i := 248) (by decide +kernel)) (by decide +kernel)
theorem tw_co_X2_boardOne : Cond.code yX2_boardOne cX2_boardOne 5 none ∈ lw_good := lw_gm (List.mem_of_getElem? (i := 249) (by decide +kernel)) (by decide +kernel)
theorem tw_ml_X2_60 : Cond.methodLink RX2 60 yX2_firstVanFor ∈ lw_good := lw_gm (List.mem_of_getElem? (i := 250) (by decide +kernel)) (by decide +kernel)
theorem tw_im_X2_firstVanFor : Cond.instanceMethod yX2_firstVanFor ∈ lw_good := lw_gm (List.mem_of_getElem? (i := 252) (by decide +kernel)) (by decide +kernel)
theorem tw_co_X2_firstVanFor : Cond.code yX2_firstVanFor cX2_firstVanFor 7 (some .int) ∈ lw_good := lw_gm (List.mem_of_getElem? (i := 253) (by decide +kernel)) (by decide +kernel)
theorem tw_ml_X2_74 : Cond.methodLink RX2 74 yX2_takes ∈ lw_good := lw_gm (List.mem_of_getElem? (i := 254) (by decide +kernel)) (by decide +kernel)
theorem tw_im_X2_takes : Cond.instanceMethod yX2_takes ∈ lw_good := lw_gm (List.mem_of_getElem? (i := 256) (by decide +kernel)) (by decide +kernel)
theorem tw_co_X2_takes : Cond.code yX2_takes cX2_takes 6 (some .boolean) ∈ lw_good := lw_gm (List.mem_of_getElem? (i := 257) (by decide +kernel)) (by decide +kernel)
theorem tw_st_X5_isIn : Cond.static yX5_isIn ∈ lw_good := lw_gm (List.mem_of_getElem? (i := 259) (by decide +kernel)) (by decide +kernel)
theorem tw_co_X5_isIn : Cond.code yX5_isIn cX5_isIn 3 (some .boolean) ∈ lw_good := lw_gm (List.mem_of_getElem? (i := 260) (by decide +kernel)) (by decide +kernel)
theorem tw_ml_X2_88 : Cond.methodLink RX2 88 yJ6_bitCount_0f7a4 ∈ lw_good := lw_gm (List.mem_of_getElem? (i := 261) (by decide +kernel)) (by decide +kernel)
theorem tw_st_J6_bitCount_0f7a4 : Cond.static yJ6_bitCount_0f7a4 ∈ lw_good := lw_gm (List.mem_of_getElem? (i := 262) (by decide +kernel)) (by decide +kernel)
theorem tw_co_J6_bitCount_0f7a4 : Cond.code yJ6_bitCount_0f7a4 cJ6_bitCount_0f7a4 1 (some .int) ∈ lw_good := lw_gm (List.mem_of_getElem? (i := 263) (by decide +kernel)) (by decide +kernel)
theorem tw_ct_J6_265 : Cond.constant RJ6 265 (1431655765) ∈ lw_good := lw_gm (List.mem_of_getElem? (i := 264) (by decide +kernel)) (by decide +kernel)
theorem tw_ct_J6_266 : Cond.constant RJ6 266 (858993459) ∈ lw_good := lw_gm (List.mem_of_getElem? (i := 265) (by decide +kernel)) (by decide +kernel)
theorem tw_ct_J6_267 : Cond.constant RJ6 267 (252645135) ∈ lw_good := lw_gm (List.mem_of_getElem? (i := 266) (by decide +kernel)) (by decide +kernel)
theorem tw_st_X5_isVan : Cond.static yX5_isVan ∈ lw_good := lw_gm (List.mem_of_getElem? (i := 268) (by decide +kernel)) (by decide +kernel)
theorem tw_co_X5_isVan : Cond.code yX5_isVan cX5_isVan 1 (some .boolean) ∈ lw_good := lw_gm (List.mem_of_getElem? (i := 269) (by decide +kernel)) (by decide +kernel)
theorem tw_ml_X5_54 : Cond.methodLink RX5 54 yX5_isIn ∈ lw_good := lw_gm (List.mem_of_getElem? (i := 270) (by decide +kernel)) (by decide +kernel)
theorem tw_ml_L_112 : Cond.methodLink RL 112 yL_cell ∈ lw_good := lw_gm (List.mem_of_getElem? (i := 271) (by decide +kernel)) (by decide +kernel)
theorem tw_st_L_cell : Cond.static yL_cell ∈ lw_good := lw_gm (List.mem_of_getElem? (i := 272) (by decide +kernel)) (by decide +kernel)
theorem tw_co_L_cell : Cond.code yL_cell cL_cell 2 (some .int) ∈ lw_good := lw_gm (List.mem_of_getElem? (i := 273) (by decide +kernel)) (by decide +kernel)
theorem tw_ct_L_7 : Cond.constant RL 7 (44129) ∈ lw_good := lw_gm (List.mem_of_getElem? (i := 274) (by decide +kernel)) (by decide +kernel)
theorem tw_ct_L_8 : Cond.constant RL 8 (2891131) ∈ lw_good := lw_gm (List.mem_of_getElem? (i := 275) (by decide +kernel)) (by decide +kernel)
theorem tw_ml_L_59 : Cond.methodLink RL 59 yL_low ∈ lw_good := lw_gm (List.mem_of_getElem? (i := 276) (by decide +kernel)) (by decide +kernel)
theorem tw_st_L_low : Cond.static yL_low ∈ lw_good := lw_gm (List.mem_of_getElem? (i := 277) (by decide +kernel)) (by decide +kernel)
theorem tw_co_L_low : Cond.code yL_low cL_low 2 (some .int) ∈ lw_good := lw_gm (List.mem_of_getElem? (i := 278) (by decide +kernel)) (by decide +kernel)
theorem tw_ct_L_9 : Cond.constant RL 9 (2147483647) ∈ lw_good := lw_gm (List.mem_of_getElem? (i := 279) (by decide +kernel)) (by decide +kernel)
theorem tw_ml_L_107 : Cond.methodLink RL 107 yL_gives ∈ lw_good := lw_gm (List.mem_of_getElem? (i := 280) (by decide +kernel)) (by decide +kernel)
theorem tw_st_L_gives : Cond.static yL_gives ∈ lw_good := lw_gm (List.mem_of_getElem? (i := 281) (by decide +kernel)) (by decide +kernel)
theorem tw_co_L_gives : Cond.code yL_gives cL_gives 11 none ∈ lw_good := lw_gm (List.mem_of_getElem? (i := 282) (by decide +kernel)) (by decide +kernel)
theorem tw_ml_L_16 : Cond.methodLink RL 16 yL_ready ∈ lw_good := lw_gm (List.mem_of_getElem? (i := 283) (by decide +kernel)) (by decide +kernel)
theorem tw_st_L_ready : Cond.static yL_ready ∈ lw_good := lw_gm (List.mem_of_getElem? (i := 284) (by decide +kernel)) (by decide +kernel)
theorem tw_co_L_ready : Cond.code yL_ready cL_ready 2 (some .int) ∈ lw_good := lw_gm (List.mem_of_getElem? (i := 285) (by decide +kernel)) (by decide +kernel)
theorem tw_ml_L_10 : Cond.methodLink RL 10 yL_flightOf ∈ lw_good := lw_gm (List.mem_of_getElem? (i := 286) (by decide +kernel)) (by decide +kernel)
theorem tw_st_L_flightOf : Cond.static yL_flightOf ∈ lw_good := lw_gm (List.mem_of_getElem? (i := 287) (by decide +kernel)) (by decide +kernel)
theorem tw_co_L_flightOf : Cond.code yL_flightOf cL_flightOf 1 (some .int) ∈ lw_good := lw_gm (List.mem_of_getElem? (i := 288) (by decide +kernel)) (by decide +kernel)
theorem tw_ml_L_20 : Cond.methodLink RL 20 yL_people ∈ lw_good := lw_gm (List.mem_of_getElem? (i := 289) (by decide +kernel)) (by decide +kernel)
theorem tw_st_L_people : Cond.static yL_people ∈ lw_good := lw_gm (List.mem_of_getElem? (i := 290) (by decide +kernel)) (by decide +kernel)
theorem tw_co_L_people : Cond.code yL_people cL_people 1 (some .int) ∈ lw_good := lw_gm (List.mem_of_getElem? (i := 291) (by decide +kernel)) (by decide +kernel)
theorem tw_ml_L_23 : Cond.methodLink RL 23 yL_areaOf ∈ lw_good := lw_gm (List.mem_of_getElem? (i := 292) (by decide +kernel)) (by decide +kernel)
theorem tw_st_L_areaOf : Cond.static yL_areaOf ∈ lw_good := lw_gm (List.mem_of_getElem? (i := 293) (by decide +kernel)) (by decide +kernel)
theorem tw_co_L_areaOf : Cond.code yL_areaOf cL_areaOf 1 (some .int) ∈ lw_good := lw_gm (List.mem_of_getElem? (i := 294) (by decide +kernel)) (by decide +kernel)
theorem tw_ml_L_26 : Cond.methodLink RL 26 yL_ones ∈ lw_good := lw_gm (List.mem_of_getElem? (i := 295) (by decide +kernel)) (by decide +kernel)
theorem tw_st_L_ones : Cond.static yL_ones ∈ lw_good := lw_gm (List.mem_of_getElem? (i := 296) (by decide +kernel)) (by decide +kernel)
theorem tw_co_L_ones : Cond.code yL_ones cL_ones 3 (some .int) ∈ lw_good := lw_gm (List.mem_of_getElem? (i := 297) (by decide +kernel)) (by decide +kernel)
theorem tw_ml_L_135 : Cond.methodLink RL 135 yL_isRider ∈ lw_good := lw_gm (List.mem_of_getElem? (i := 298) (by decide +kernel)) (by decide +kernel)
theorem tw_st_L_isRider : Cond.static yL_isRider ∈ lw_good := lw_gm (List.mem_of_getElem? (i := 299) (by decide +kernel)) (by decide +kernel)
theorem tw_co_L_isRider : Cond.code yL_isRider cL_isRider 10 (some .boolean) ∈ lw_good := lw_gm (List.mem_of_getElem? (i := 300) (by decide +kernel)) (by decide +kernel)
theorem tw_ml_L_39 : Cond.methodLink RL 39 yX5_rider ∈ lw_good := lw_gm (List.mem_of_getElem? (i := 301) (by decide +kernel)) (by decide +kernel)
theorem tw_im_X5_rider : Cond.instanceMethod yX5_rider ∈ lw_good := lw_gm (List.mem_of_getElem? (i := 302) (by decide +kernel)) (by decide +kernel)
theorem tw_se_X5_rider : Cond.selects RX5 yX5_rider yX5_rider ∈ lw_good := lw_gm (List.mem_of_getElem? (i := 303) (by decide +kernel)) (by decide +kernel)
theorem tw_co_X5_rider : Cond.code yX5_rider cX5_rider 3 (some .int) ∈ lw_good := lw_gm (List.mem_of_getElem? (i := 304) (by decide +kernel)) (by decide +kernel)
theorem tw_ml_X5_125 : Cond.methodLink RX5 125 yX5_isRider ∈ lw_good := lw_gm (List.mem_of_getElem? (i := 305) (by decide +kernel)) (by decide +kernel)
theorem tw_im_X5_isRider : Cond.instanceMethod yX5_isRider ∈ lw_good := lw_gm (List.mem_of_getElem? (i := 307) (by decide +kernel)) (by decide +kernel)
theorem tw_co_X5_isRider : Cond.code yX5_isRider cX5_isRider 2 (some .boolean) ∈ lw_good := lw_gm (List.mem_of_getElem? (i := 308) (by decide +kernel)) (by decide +kernel)
theorem tw_ml_X5_151 : Cond.methodLink RX5 151 yX3_riderReady ∈ lw_good := lw_gm (List.mem_of_getElem? (i := 309) (by decide +kernel)) (by decide +kernel)
theorem tw_ml_X5_154 : Cond.methodLink RX5 154 yX2_waitOf ∈ lw_good := lw_gm (List.mem_of_getElem? (i := 310) (by decide +kernel)) (by decide +kernel)
end
section
theorem tw_im_X2_waitOf : Cond.instanceMethod yX2_waitOf ∈ lw_good := lw_gm (List.mem_of_getElem? (i := 311) (by decide +kernel)) (by decide +kernel)
theorem tw_se_X2_waitOf : Cond.selects RX2 yX2_waitOf yX2_waitOf ∈ lw_good := lw_gm (List.mem_of_getElem? (i := 312) (by decide +kernel)) (by decide +kernel)
theorem tw_co_X2_waitOf : Cond.code yX2_waitOf cX2_waitOf 4 (some .int) ∈ lw_good := lw_gm (List.mem_of_getElem? (i := 313) (by decide +kernel)) (by decide +kernel)
theorem tw_ml_X5_157 : Cond.methodLink RX5 157 yX5_minuteAtDoor ∈ lw_good := lw_gm (List.mem_of_getElem? (i := 314) (by decide +kernel)) (by decide +kernel)
theorem tw_im_X5_minuteAtDoor : Cond.instanceMethod yX5_minuteAtDoor ∈ lw_good := lw_gm (List.mem_of_getElem? (i := 316) (by decide +kernel)) (by decide +kernel)
theorem tw_co_X5_minuteAtDoor : Cond.code yX5_minuteAtDoor cX5_minuteAtDoor 3 (some .int) ∈ lw_good := lw_gm (List.mem_of_getElem? (i := 317) (by decide +kernel)) (by decide +kernel)
theorem tw_ml_X5_92 : Cond.methodLink RX5 92 yX5_isVan ∈ lw_good := lw_gm (List.mem_of_getElem? (i := 318) (by decide +kernel)) (by decide +kernel)
theorem tw_ml_X5_163 : Cond.methodLink RX5 163 yX4_follow ∈ lw_good := lw_gm (List.mem_of_getElem? (i := 319) (by decide +kernel)) (by decide +kernel)
theorem tw_im_X4_follow : Cond.instanceMethod yX4_follow ∈ lw_good := lw_gm (List.mem_of_getElem? (i := 320) (by decide +kernel)) (by decide +kernel)
theorem tw_se_X4_follow : Cond.selects RX4 yX4_follow yX4_follow ∈ lw_good := lw_gm (List.mem_of_getElem? (i := 321) (by decide +kernel)) (by decide +kernel)
theorem tw_co_X4_follow : Cond.code yX4_follow cX4_follow 5 none ∈ lw_good := lw_gm (List.mem_of_getElem? (i := 322) (by decide +kernel)) (by decide +kernel)
theorem tw_ml_X4_35 : Cond.methodLink RX4 35 yX3_stopKey ∈ lw_good := lw_gm (List.mem_of_getElem? (i := 323) (by decide +kernel)) (by decide +kernel)
theorem tw_im_X3_stopKey : Cond.instanceMethod yX3_stopKey ∈ lw_good := lw_gm (List.mem_of_getElem? (i := 324) (by decide +kernel)) (by decide +kernel)
theorem tw_se_X3_stopKey : Cond.selects RX3 yX3_stopKey yX3_stopKey ∈ lw_good := lw_gm (List.mem_of_getElem? (i := 325) (by decide +kernel)) (by decide +kernel)
theorem tw_co_X3_stopKey : Cond.code yX3_stopKey cX3_stopKey 2 (some .int) ∈ lw_good := lw_gm (List.mem_of_getElem? (i := 326) (by decide +kernel)) (by decide +kernel)
theorem tw_ml_X4_40 : Cond.methodLink RX4 40 yX4_letOut ∈ lw_good := lw_gm (List.mem_of_getElem? (i := 327) (by decide +kernel)) (by decide +kernel)
theorem tw_im_X4_letOut : Cond.instanceMethod yX4_letOut ∈ lw_good := lw_gm (List.mem_of_getElem? (i := 329) (by decide +kernel)) (by decide +kernel)
theorem tw_co_X4_letOut : Cond.code yX4_letOut cX4_letOut 4 none ∈ lw_good := lw_gm (List.mem_of_getElem? (i := 330) (by decide +kernel)) (by decide +kernel)
theorem tw_ml_X4_51 : Cond.methodLink RX4 51 yX4_placeFor ∈ lw_good := lw_gm (List.mem_of_getElem? (i := 331) (by decide +kernel)) (by decide +kernel)
theorem tw_im_X4_placeFor : Cond.instanceMethod yX4_placeFor ∈ lw_good := lw_gm (List.mem_of_getElem? (i := 333) (by decide +kernel)) (by decide +kernel)
theorem tw_co_X4_placeFor : Cond.code yX4_placeFor cX4_placeFor 3 (some .int) ∈ lw_good := lw_gm (List.mem_of_getElem? (i := 334) (by decide +kernel)) (by decide +kernel)
theorem tw_ml_X4_54 : Cond.methodLink RX4 54 yX4_openStop ∈ lw_good := lw_gm (List.mem_of_getElem? (i := 335) (by decide +kernel)) (by decide +kernel)
theorem tw_im_X4_openStop : Cond.instanceMethod yX4_openStop ∈ lw_good := lw_gm (List.mem_of_getElem? (i := 337) (by decide +kernel)) (by decide +kernel)
theorem tw_co_X4_openStop : Cond.code yX4_openStop cX4_openStop 4 none ∈ lw_good := lw_gm (List.mem_of_getElem? (i := 338) (by decide +kernel)) (by decide +kernel)
theorem tw_ml_X4_47 : Cond.methodLink RX4 47 yX4_tellMinutes ∈ lw_good := lw_gm (List.mem_of_getElem? (i := 339) (by decide +kernel)) (by decide +kernel)
theorem tw_im_X4_tellMinutes : Cond.instanceMethod yX4_tellMinutes ∈ lw_good := lw_gm (List.mem_of_getElem? (i := 341) (by decide +kernel)) (by decide +kernel)
theorem tw_co_X4_tellMinutes : Cond.code yX4_tellMinutes cX4_tellMinutes 5 none ∈ lw_good := lw_gm (List.mem_of_getElem? (i := 342) (by decide +kernel)) (by decide +kernel)
theorem tw_ml_X4_57 : Cond.methodLink RX4 57 yX3_areaOfStop ∈ lw_good := lw_gm (List.mem_of_getElem? (i := 343) (by decide +kernel)) (by decide +kernel)
theorem tw_st_X3_areaOfStop : Cond.static yX3_areaOfStop ∈ lw_good := lw_gm (List.mem_of_getElem? (i := 344) (by decide +kernel)) (by decide +kernel)
theorem tw_co_X3_areaOfStop : Cond.code yX3_areaOfStop cX3_areaOfStop 1 (some .int) ∈ lw_good := lw_gm (List.mem_of_getElem? (i := 345) (by decide +kernel)) (by decide +kernel)
theorem tw_ml_X5_254 : Cond.methodLink RX5 254 yX3_stopKey ∈ lw_good := lw_gm (List.mem_of_getElem? (i := 346) (by decide +kernel)) (by decide +kernel)
theorem tw_ml_X5_257 : Cond.methodLink RX5 257 yX4_minuteAt ∈ lw_good := lw_gm (List.mem_of_getElem? (i := 347) (by decide +kernel)) (by decide +kernel)
theorem tw_im_X4_minuteAt : Cond.instanceMethod yX4_minuteAt ∈ lw_good := lw_gm (List.mem_of_getElem? (i := 348) (by decide +kernel)) (by decide +kernel)
theorem tw_se_X4_minuteAt : Cond.selects RX4 yX4_minuteAt yX4_minuteAt ∈ lw_good := lw_gm (List.mem_of_getElem? (i := 349) (by decide +kernel)) (by decide +kernel)
theorem tw_co_X4_minuteAt : Cond.code yX4_minuteAt cX4_minuteAt 3 (some .int) ∈ lw_good := lw_gm (List.mem_of_getElem? (i := 350) (by decide +kernel)) (by decide +kernel)
theorem tw_ml_X5_128 : Cond.methodLink RX5 128 yX2_fare ∈ lw_good := lw_gm (List.mem_of_getElem? (i := 351) (by decide +kernel)) (by decide +kernel)
theorem tw_im_X2_fare : Cond.instanceMethod yX2_fare ∈ lw_good := lw_gm (List.mem_of_getElem? (i := 352) (by decide +kernel)) (by decide +kernel)
theorem tw_se_X2_fare : Cond.selects RX2 yX2_fare yX2_fare ∈ lw_good := lw_gm (List.mem_of_getElem? (i := 353) (by decide +kernel)) (by decide +kernel)
theorem tw_co_X2_fare : Cond.code yX2_fare cX2_fare 3 (some .int) ∈ lw_good := lw_gm (List.mem_of_getElem? (i := 354) (by decide +kernel)) (by decide +kernel)
theorem tw_ml_X2_103 : Cond.methodLink RX2 103 yX2_share ∈ lw_good := lw_gm (List.mem_of_getElem? (i := 355) (by decide +kernel)) (by decide +kernel)
theorem tw_im_X2_share : Cond.instanceMethod yX2_share ∈ lw_good := lw_gm (List.mem_of_getElem? (i := 357) (by decide +kernel)) (by decide +kernel)
theorem tw_co_X2_share : Cond.code yX2_share cX2_share 10 (some .int) ∈ lw_good := lw_gm (List.mem_of_getElem? (i := 358) (by decide +kernel)) (by decide +kernel)
theorem tw_ml_X2_96 : Cond.methodLink RX2 96 yX2_shares ∈ lw_good := lw_gm (List.mem_of_getElem? (i := 359) (by decide +kernel)) (by decide +kernel)
theorem tw_im_X2_shares : Cond.instanceMethod yX2_shares ∈ lw_good := lw_gm (List.mem_of_getElem? (i := 361) (by decide +kernel)) (by decide +kernel)
theorem tw_co_X2_shares : Cond.code yX2_shares cX2_shares 5 (some .boolean) ∈ lw_good := lw_gm (List.mem_of_getElem? (i := 362) (by decide +kernel)) (by decide +kernel)
theorem tw_ml_X2_107 : Cond.methodLink RX2 107 yX3_stopKey ∈ lw_good := lw_gm (List.mem_of_getElem? (i := 363) (by decide +kernel)) (by decide +kernel)
theorem tw_ml_X5_160 : Cond.methodLink RX5 160 yX2_othersAtStop ∈ lw_good := lw_gm (List.mem_of_getElem? (i := 364) (by decide +kernel)) (by decide +kernel)
theorem tw_im_X2_othersAtStop : Cond.instanceMethod yX2_othersAtStop ∈ lw_good := lw_gm (List.mem_of_getElem? (i := 365) (by decide +kernel)) (by decide +kernel)
theorem tw_se_X2_othersAtStop : Cond.selects RX2 yX2_othersAtStop yX2_othersAtStop ∈ lw_good := lw_gm (List.mem_of_getElem? (i := 366) (by decide +kernel)) (by decide +kernel)
theorem tw_co_X2_othersAtStop : Cond.code yX2_othersAtStop cX2_othersAtStop 5 (some .int) ∈ lw_good := lw_gm (List.mem_of_getElem? (i := 367) (by decide +kernel)) (by decide +kernel)
theorem tw_ml_L_32 : Cond.methodLink RL 32 yL_doorOf ∈ lw_good := lw_gm (List.mem_of_getElem? (i := 368) (by decide +kernel)) (by decide +kernel)
theorem tw_st_L_doorOf : Cond.static yL_doorOf ∈ lw_good := lw_gm (List.mem_of_getElem? (i := 369) (by decide +kernel)) (by decide +kernel)
theorem tw_co_L_doorOf : Cond.code yL_doorOf cL_doorOf 1 (some .int) ∈ lw_good := lw_gm (List.mem_of_getElem? (i := 370) (by decide +kernel)) (by decide +kernel)
theorem tw_ml_L_29 : Cond.methodLink RL 29 yL_keyOf ∈ lw_good := lw_gm (List.mem_of_getElem? (i := 371) (by decide +kernel)) (by decide +kernel)
theorem tw_st_L_keyOf : Cond.static yL_keyOf ∈ lw_good := lw_gm (List.mem_of_getElem? (i := 372) (by decide +kernel)) (by decide +kernel)
theorem tw_co_L_keyOf : Cond.code yL_keyOf cL_keyOf 1 (some .int) ∈ lw_good := lw_gm (List.mem_of_getElem? (i := 373) (by decide +kernel)) (by decide +kernel)
theorem tw_ml_L_45 : Cond.methodLink RL 45 yL_minuteAt ∈ lw_good := lw_gm (List.mem_of_getElem? (i := 374) (by decide +kernel)) (by decide +kernel)
theorem tw_st_L_minuteAt : Cond.static yL_minuteAt ∈ lw_good := lw_gm (List.mem_of_getElem? (i := 375) (by decide +kernel)) (by decide +kernel)
theorem tw_co_L_minuteAt : Cond.code yL_minuteAt cL_minuteAt 7 (some .int) ∈ lw_good := lw_gm (List.mem_of_getElem? (i := 376) (by decide +kernel)) (by decide +kernel)
theorem tw_ml_L_35 : Cond.methodLink RL 35 yL_stopsAhead ∈ lw_good := lw_gm (List.mem_of_getElem? (i := 377) (by decide +kernel)) (by decide +kernel)
theorem tw_st_L_stopsAhead : Cond.static yL_stopsAhead ∈ lw_good := lw_gm (List.mem_of_getElem? (i := 378) (by decide +kernel)) (by decide +kernel)
theorem tw_co_L_stopsAhead : Cond.code yL_stopsAhead cL_stopsAhead 10 (some .int) ∈ lw_good := lw_gm (List.mem_of_getElem? (i := 379) (by decide +kernel)) (by decide +kernel)
theorem tw_ml_L_48 : Cond.methodLink RL 48 yL_part ∈ lw_good := lw_gm (List.mem_of_getElem? (i := 380) (by decide +kernel)) (by decide +kernel)
theorem tw_st_L_part : Cond.static yL_part ∈ lw_good := lw_gm (List.mem_of_getElem? (i := 381) (by decide +kernel)) (by decide +kernel)
theorem tw_co_L_part : Cond.code yL_part cL_part 11 (some .int) ∈ lw_good := lw_gm (List.mem_of_getElem? (i := 382) (by decide +kernel)) (by decide +kernel)
theorem tw_ml_L_139 : Cond.methodLink RL 139 yL_isVan ∈ lw_good := lw_gm (List.mem_of_getElem? (i := 383) (by decide +kernel)) (by decide +kernel)
theorem tw_st_L_isVan : Cond.static yL_isVan ∈ lw_good := lw_gm (List.mem_of_getElem? (i := 384) (by decide +kernel)) (by decide +kernel)
theorem tw_co_L_isVan : Cond.code yL_isVan cL_isVan 13 (some .boolean) ∈ lw_good := lw_gm (List.mem_of_getElem? (i := 385) (by decide +kernel)) (by decide +kernel)
theorem tw_ml_L_52 : Cond.methodLink RL 52 yX5_vanOf ∈ lw_good := lw_gm (List.mem_of_getElem? (i := 386) (by decide +kernel)) (by decide +kernel)
theorem tw_im_X5_vanOf : Cond.instanceMethod yX5_vanOf ∈ lw_good := lw_gm (List.mem_of_getElem? (i := 387) (by decide +kernel)) (by decide +kernel)
theorem tw_se_X5_vanOf : Cond.selects RX5 yX5_vanOf yX5_vanOf ∈ lw_good := lw_gm (List.mem_of_getElem? (i := 388) (by decide +kernel)) (by decide +kernel)
theorem tw_co_X5_vanOf : Cond.code yX5_vanOf cX5_vanOf 3 (some .int) ∈ lw_good := lw_gm (List.mem_of_getElem? (i := 389) (by decide +kernel)) (by decide +kernel)
theorem tw_ml_X5_170 : Cond.methodLink RX5 170 yX2_ridersIn ∈ lw_good := lw_gm (List.mem_of_getElem? (i := 390) (by decide +kernel)) (by decide +kernel)
theorem tw_im_X2_ridersIn : Cond.instanceMethod yX2_ridersIn ∈ lw_good := lw_gm (List.mem_of_getElem? (i := 391) (by decide +kernel)) (by decide +kernel)
theorem tw_se_X2_ridersIn : Cond.selects RX2 yX2_ridersIn yX2_ridersIn ∈ lw_good := lw_gm (List.mem_of_getElem? (i := 392) (by decide +kernel)) (by decide +kernel)
end
section
theorem tw_co_X2_ridersIn : Cond.code yX2_ridersIn cX2_ridersIn 5 (some .int) ∈ lw_good := lw_gm (List.mem_of_getElem? (i := 393) (by decide +kernel)) (by decide +kernel)
theorem tw_ml_X5_179 : Cond.methodLink RX5 179 yX4_lastMinute ∈ lw_good := lw_gm (List.mem_of_getElem? (i := 394) (by decide +kernel)) (by decide +kernel)
theorem tw_im_X4_lastMinute : Cond.instanceMethod yX4_lastMinute ∈ lw_good := lw_gm (List.mem_of_getElem? (i := 395) (by decide +kernel)) (by decide +kernel)
theorem tw_se_X4_lastMinute : Cond.selects RX4 yX4_lastMinute yX4_lastMinute ∈ lw_good := lw_gm (List.mem_of_getElem? (i := 396) (by decide +kernel)) (by decide +kernel)
theorem tw_co_X4_lastMinute : Cond.code yX4_lastMinute cX4_lastMinute 1 (some .int) ∈ lw_good := lw_gm (List.mem_of_getElem? (i := 397) (by decide +kernel)) (by decide +kernel)
theorem tw_ml_X5_182 : Cond.methodLink RX5 182 yX2_faresOf ∈ lw_good := lw_gm (List.mem_of_getElem? (i := 398) (by decide +kernel)) (by decide +kernel)
theorem tw_im_X2_faresOf : Cond.instanceMethod yX2_faresOf ∈ lw_good := lw_gm (List.mem_of_getElem? (i := 399) (by decide +kernel)) (by decide +kernel)
theorem tw_se_X2_faresOf : Cond.selects RX2 yX2_faresOf yX2_faresOf ∈ lw_good := lw_gm (List.mem_of_getElem? (i := 400) (by decide +kernel)) (by decide +kernel)
theorem tw_co_X2_faresOf : Cond.code yX2_faresOf cX2_faresOf 5 (some .int) ∈ lw_good := lw_gm (List.mem_of_getElem? (i := 401) (by decide +kernel)) (by decide +kernel)
theorem tw_ml_X2_100 : Cond.methodLink RX2 100 yX2_fare ∈ lw_good := lw_gm (List.mem_of_getElem? (i := 402) (by decide +kernel)) (by decide +kernel)
theorem tw_ml_L_55 : Cond.methodLink RL 55 yX5_stop ∈ lw_good := lw_gm (List.mem_of_getElem? (i := 403) (by decide +kernel)) (by decide +kernel)
theorem tw_im_X5_stop : Cond.instanceMethod yX5_stop ∈ lw_good := lw_gm (List.mem_of_getElem? (i := 404) (by decide +kernel)) (by decide +kernel)
theorem tw_se_X5_stop : Cond.selects RX5 yX5_stop yX5_stop ∈ lw_good := lw_gm (List.mem_of_getElem? (i := 405) (by decide +kernel)) (by decide +kernel)
theorem tw_co_X5_stop : Cond.code yX5_stop cX5_stop 4 (some .int) ∈ lw_good := lw_gm (List.mem_of_getElem? (i := 406) (by decide +kernel)) (by decide +kernel)
theorem tw_ml_X5_192 : Cond.methodLink RX5 192 yX3_areaOfStop ∈ lw_good := lw_gm (List.mem_of_getElem? (i := 407) (by decide +kernel)) (by decide +kernel)
theorem tw_ml_X5_195 : Cond.methodLink RX5 195 yX3_doorOfStop ∈ lw_good := lw_gm (List.mem_of_getElem? (i := 408) (by decide +kernel)) (by decide +kernel)
theorem tw_st_X3_doorOfStop : Cond.static yX3_doorOfStop ∈ lw_good := lw_gm (List.mem_of_getElem? (i := 409) (by decide +kernel)) (by decide +kernel)
theorem tw_co_X3_doorOfStop : Cond.code yX3_doorOfStop cX3_doorOfStop 1 (some .int) ∈ lw_good := lw_gm (List.mem_of_getElem? (i := 410) (by decide +kernel)) (by decide +kernel)
theorem tw_ml_L_131 : Cond.methodLink RL 131 yL_areCounts ∈ lw_good := lw_gm (List.mem_of_getElem? (i := 411) (by decide +kernel)) (by decide +kernel)
theorem tw_st_L_areCounts : Cond.static yL_areCounts ∈ lw_good := lw_gm (List.mem_of_getElem? (i := 412) (by decide +kernel)) (by decide +kernel)
set_option maxRecDepth 100000 in
theorem tw_co_L_areCounts : Cond.code yL_areCounts cL_areCounts 23 (some .boolean) ∈ lw_good := lw_gm (List.mem_of_getElem? (i := 413) (Eq.refl (some (Cond.code yL_areCounts cL_areCounts 23 (some .boolean))))) (by decide +kernel)
theorem tw_ml_L_62 : Cond.methodLink RL 62 yX5_count ∈ lw_good := lw_gm (List.mem_of_getElem? (i := 414) (by decide +kernel)) (by decide +kernel)
theorem tw_im_X5_count : Cond.instanceMethod yX5_count ∈ lw_good := lw_gm (List.mem_of_getElem? (i := 415) (by decide +kernel)) (by decide +kernel)
theorem tw_se_X5_count : Cond.selects RX5 yX5_count yX5_count ∈ lw_good := lw_gm (List.mem_of_getElem? (i := 416) (by decide +kernel)) (by decide +kernel)
theorem tw_co_X5_count : Cond.code yX5_count cX5_count 2 (some .int) ∈ lw_good := lw_gm (List.mem_of_getElem? (i := 417) (by decide +kernel)) (by decide +kernel)
theorem tw_ml_X5_202 : Cond.methodLink RX5 202 yX3_allPeople ∈ lw_good := lw_gm (List.mem_of_getElem? (i := 418) (by decide +kernel)) (by decide +kernel)
theorem tw_im_X3_allPeople : Cond.instanceMethod yX3_allPeople ∈ lw_good := lw_gm (List.mem_of_getElem? (i := 419) (by decide +kernel)) (by decide +kernel)
theorem tw_se_X3_allPeople : Cond.selects RX3 yX3_allPeople yX3_allPeople ∈ lw_good := lw_gm (List.mem_of_getElem? (i := 420) (by decide +kernel)) (by decide +kernel)
theorem tw_co_X3_allPeople : Cond.code yX3_allPeople cX3_allPeople 3 (some .int) ∈ lw_good := lw_gm (List.mem_of_getElem? (i := 421) (by decide +kernel)) (by decide +kernel)
theorem tw_ml_X5_211 : Cond.methodLink RX5 211 yX5_allFares ∈ lw_good := lw_gm (List.mem_of_getElem? (i := 422) (by decide +kernel)) (by decide +kernel)
theorem tw_im_X5_allFares : Cond.instanceMethod yX5_allFares ∈ lw_good := lw_gm (List.mem_of_getElem? (i := 424) (by decide +kernel)) (by decide +kernel)
theorem tw_co_X5_allFares : Cond.code yX5_allFares cX5_allFares 3 (some .int) ∈ lw_good := lw_gm (List.mem_of_getElem? (i := 425) (by decide +kernel)) (by decide +kernel)
theorem tw_ml_X5_214 : Cond.methodLink RX5 214 yX2_vansWithRiders ∈ lw_good := lw_gm (List.mem_of_getElem? (i := 426) (by decide +kernel)) (by decide +kernel)
theorem tw_im_X2_vansWithRiders : Cond.instanceMethod yX2_vansWithRiders ∈ lw_good := lw_gm (List.mem_of_getElem? (i := 427) (by decide +kernel)) (by decide +kernel)
theorem tw_se_X2_vansWithRiders : Cond.selects RX2 yX2_vansWithRiders yX2_vansWithRiders ∈ lw_good := lw_gm (List.mem_of_getElem? (i := 428) (by decide +kernel)) (by decide +kernel)
theorem tw_co_X2_vansWithRiders : Cond.code yX2_vansWithRiders cX2_vansWithRiders 3 (some .int) ∈ lw_good := lw_gm (List.mem_of_getElem? (i := 429) (by decide +kernel)) (by decide +kernel)
theorem tw_ml_X5_217 : Cond.methodLink RX5 217 yX5_allStops ∈ lw_good := lw_gm (List.mem_of_getElem? (i := 430) (by decide +kernel)) (by decide +kernel)
theorem tw_im_X5_allStops : Cond.instanceMethod yX5_allStops ∈ lw_good := lw_gm (List.mem_of_getElem? (i := 432) (by decide +kernel)) (by decide +kernel)
theorem tw_co_X5_allStops : Cond.code yX5_allStops cX5_allStops 3 (some .int) ∈ lw_good := lw_gm (List.mem_of_getElem? (i := 433) (by decide +kernel)) (by decide +kernel)
theorem tw_ml_X5_220 : Cond.methodLink RX5 220 yX5_lastAtDoor ∈ lw_good := lw_gm (List.mem_of_getElem? (i := 434) (by decide +kernel)) (by decide +kernel)
theorem tw_im_X5_lastAtDoor : Cond.instanceMethod yX5_lastAtDoor ∈ lw_good := lw_gm (List.mem_of_getElem? (i := 436) (by decide +kernel)) (by decide +kernel)
theorem tw_co_X5_lastAtDoor : Cond.code yX5_lastAtDoor cX5_lastAtDoor 5 (some .int) ∈ lw_good := lw_gm (List.mem_of_getElem? (i := 437) (by decide +kernel)) (by decide +kernel)
theorem tw_ml_X5_260 : Cond.methodLink RX5 260 yJ9_max_7cf53 ∈ lw_good := lw_gm (List.mem_of_getElem? (i := 438) (by decide +kernel)) (by decide +kernel)
theorem tw_st_J9_max_7cf53 : Cond.static yJ9_max_7cf53 ∈ lw_good := lw_gm (List.mem_of_getElem? (i := 439) (by decide +kernel)) (by decide +kernel)
theorem tw_co_J9_max_7cf53 : Cond.code yJ9_max_7cf53 cJ9_max_7cf53 2 (some .int) ∈ lw_good := lw_gm (List.mem_of_getElem? (i := 440) (by decide +kernel)) (by decide +kernel)
theorem tw_ml_L_65 : Cond.methodLink RL 65 yX5_kerb ∈ lw_good := lw_gm (List.mem_of_getElem? (i := 441) (by decide +kernel)) (by decide +kernel)
theorem tw_im_X5_kerb : Cond.instanceMethod yX5_kerb ∈ lw_good := lw_gm (List.mem_of_getElem? (i := 442) (by decide +kernel)) (by decide +kernel)
theorem tw_se_X5_kerb : Cond.selects RX5 yX5_kerb yX5_kerb ∈ lw_good := lw_gm (List.mem_of_getElem? (i := 443) (by decide +kernel)) (by decide +kernel)
theorem tw_co_X5_kerb : Cond.code yX5_kerb cX5_kerb 4 (some .int) ∈ lw_good := lw_gm (List.mem_of_getElem? (i := 444) (by decide +kernel)) (by decide +kernel)
theorem tw_ml_X5_227 : Cond.methodLink RX5 227 yX2_isAtKerb ∈ lw_good := lw_gm (List.mem_of_getElem? (i := 445) (by decide +kernel)) (by decide +kernel)
theorem tw_im_X2_isAtKerb : Cond.instanceMethod yX2_isAtKerb ∈ lw_good := lw_gm (List.mem_of_getElem? (i := 446) (by decide +kernel)) (by decide +kernel)
theorem tw_se_X2_isAtKerb : Cond.selects RX2 yX2_isAtKerb yX2_isAtKerb ∈ lw_good := lw_gm (List.mem_of_getElem? (i := 447) (by decide +kernel)) (by decide +kernel)
theorem tw_co_X2_isAtKerb : Cond.code yX2_isAtKerb cX2_isAtKerb 5 (some .boolean) ∈ lw_good := lw_gm (List.mem_of_getElem? (i := 448) (by decide +kernel)) (by decide +kernel)
theorem tw_ml_L_68 : Cond.methodLink RL 68 yX5_fullest ∈ lw_good := lw_gm (List.mem_of_getElem? (i := 449) (by decide +kernel)) (by decide +kernel)
theorem tw_im_X5_fullest : Cond.instanceMethod yX5_fullest ∈ lw_good := lw_gm (List.mem_of_getElem? (i := 450) (by decide +kernel)) (by decide +kernel)
theorem tw_se_X5_fullest : Cond.selects RX5 yX5_fullest yX5_fullest ∈ lw_good := lw_gm (List.mem_of_getElem? (i := 451) (by decide +kernel)) (by decide +kernel)
theorem tw_co_X5_fullest : Cond.code yX5_fullest cX5_fullest 4 (some .int) ∈ lw_good := lw_gm (List.mem_of_getElem? (i := 452) (by decide +kernel)) (by decide +kernel)
theorem tw_ml_L_72 : Cond.methodLink RL 72 yX5_flight ∈ lw_good := lw_gm (List.mem_of_getElem? (i := 453) (by decide +kernel)) (by decide +kernel)
theorem tw_im_X5_flight : Cond.instanceMethod yX5_flight ∈ lw_good := lw_gm (List.mem_of_getElem? (i := 454) (by decide +kernel)) (by decide +kernel)
theorem tw_se_X5_flight : Cond.selects RX5 yX5_flight yX5_flight ∈ lw_good := lw_gm (List.mem_of_getElem? (i := 455) (by decide +kernel)) (by decide +kernel)
theorem tw_co_X5_flight : Cond.code yX5_flight cX5_flight 3 (some .int) ∈ lw_good := lw_gm (List.mem_of_getElem? (i := 456) (by decide +kernel)) (by decide +kernel)
theorem tw_ml_X5_75 : Cond.methodLink RX5 75 yX5_isFlight ∈ lw_good := lw_gm (List.mem_of_getElem? (i := 457) (by decide +kernel)) (by decide +kernel)
theorem tw_st_X5_isFlight : Cond.static yX5_isFlight ∈ lw_good := lw_gm (List.mem_of_getElem? (i := 458) (by decide +kernel)) (by decide +kernel)
theorem tw_co_X5_isFlight : Cond.code yX5_isFlight cX5_isFlight 1 (some .boolean) ∈ lw_good := lw_gm (List.mem_of_getElem? (i := 459) (by decide +kernel)) (by decide +kernel)
theorem tw_ml_X5_88 : Cond.methodLink RX5 88 yX3_flightReady ∈ lw_good := lw_gm (List.mem_of_getElem? (i := 460) (by decide +kernel)) (by decide +kernel)
theorem tw_ml_X5_185 : Cond.methodLink RX5 185 yX2_peopleOfFlight ∈ lw_good := lw_gm (List.mem_of_getElem? (i := 461) (by decide +kernel)) (by decide +kernel)
theorem tw_im_X2_peopleOfFlight : Cond.instanceMethod yX2_peopleOfFlight ∈ lw_good := lw_gm (List.mem_of_getElem? (i := 462) (by decide +kernel)) (by decide +kernel)
theorem tw_se_X2_peopleOfFlight : Cond.selects RX2 yX2_peopleOfFlight yX2_peopleOfFlight ∈ lw_good := lw_gm (List.mem_of_getElem? (i := 463) (by decide +kernel)) (by decide +kernel)
theorem tw_co_X2_peopleOfFlight : Cond.code yX2_peopleOfFlight cX2_peopleOfFlight 7 (some .int) ∈ lw_good := lw_gm (List.mem_of_getElem? (i := 464) (by decide +kernel)) (by decide +kernel)
theorem tw_ml_L_116 : Cond.methodLink RL 116 yL_told ∈ lw_good := lw_gm (List.mem_of_getElem? (i := 465) (by decide +kernel)) (by decide +kernel)
theorem tw_st_L_told : Cond.static yL_told ∈ lw_good := lw_gm (List.mem_of_getElem? (i := 466) (by decide +kernel)) (by decide +kernel)
theorem tw_co_L_told : Cond.code yL_told cL_told 4 (some .long) ∈ lw_good := lw_gm (List.mem_of_getElem? (i := 467) (by decide +kernel)) (by decide +kernel)
theorem tw_cL_L_75 : Cond.constantLong RL 75 (89) ∈ lw_good := lw_gm (List.mem_of_getElem? (i := 468) (by decide +kernel)) (by decide +kernel)
theorem tw_cL_L_77 : Cond.constantLong RL 77 (31) ∈ lw_good := lw_gm (List.mem_of_getElem? (i := 469) (by decide +kernel)) (by decide +kernel)
theorem tw_cL_L_79 : Cond.constantLong RL 79 (100) ∈ lw_good := lw_gm (List.mem_of_getElem? (i := 470) (by decide +kernel)) (by decide +kernel)
end
section
theorem tw_cL_L_81 : Cond.constantLong RL 81 (10) ∈ lw_good := lw_gm (List.mem_of_getElem? (i := 471) (by decide +kernel)) (by decide +kernel)
theorem tw_cL_L_83 : Cond.constantLong RL 83 (1000) ∈ lw_good := lw_gm (List.mem_of_getElem? (i := 472) (by decide +kernel)) (by decide +kernel)
theorem tw_ml_L_120 : Cond.methodLink RL 120 yL_call ∈ lw_good := lw_gm (List.mem_of_getElem? (i := 473) (by decide +kernel)) (by decide +kernel)
theorem tw_st_L_call : Cond.static yL_call ∈ lw_good := lw_gm (List.mem_of_getElem? (i := 474) (by decide +kernel)) (by decide +kernel)
theorem tw_co_L_call : Cond.code yL_call cL_call 6 (some .int) ∈ lw_good := lw_gm (List.mem_of_getElem? (i := 475) (by decide +kernel)) (by decide +kernel)
theorem tw_ml_L_85 : Cond.methodLink RL 85 yX5_set ∈ lw_good := lw_gm (List.mem_of_getElem? (i := 476) (by decide +kernel)) (by decide +kernel)
theorem tw_im_X5_set : Cond.instanceMethod yX5_set ∈ lw_good := lw_gm (List.mem_of_getElem? (i := 477) (by decide +kernel)) (by decide +kernel)
theorem tw_se_X5_set : Cond.selects RX5 yX5_set yX5_set ∈ lw_good := lw_gm (List.mem_of_getElem? (i := 478) (by decide +kernel)) (by decide +kernel)
theorem tw_co_X5_set : Cond.code yX5_set cX5_set 4 (some .int) ∈ lw_good := lw_gm (List.mem_of_getElem? (i := 479) (by decide +kernel)) (by decide +kernel)
theorem tw_fl_X5_58 : Cond.fieldLink RX5 58 "ShuttleDoors" "SETTING_LEAST" "[I" ∈ lw_good := lw_gm (List.mem_of_getElem? (i := 480) (by decide +kernel)) (by decide +kernel)
theorem tw_fl_X5_62 : Cond.fieldLink RX5 62 "ShuttleDoors" "SETTING_MOST" "[I" ∈ lw_good := lw_gm (List.mem_of_getElem? (i := 482) (by decide +kernel)) (by decide +kernel)
theorem tw_ml_X5_68 : Cond.methodLink RX5 68 yX0_record ∈ lw_good := lw_gm (List.mem_of_getElem? (i := 484) (by decide +kernel)) (by decide +kernel)
theorem tw_im_X0_record : Cond.instanceMethod yX0_record ∈ lw_good := lw_gm (List.mem_of_getElem? (i := 485) (by decide +kernel)) (by decide +kernel)
theorem tw_se_X0_record : Cond.selects RX0 yX0_record yX0_record ∈ lw_good := lw_gm (List.mem_of_getElem? (i := 486) (by decide +kernel)) (by decide +kernel)
theorem tw_co_X0_record : Cond.code yX0_record cX0_record 2 none ∈ lw_good := lw_gm (List.mem_of_getElem? (i := 487) (by decide +kernel)) (by decide +kernel)
theorem tw_ml_L_88 : Cond.methodLink RL 88 yX5_land ∈ lw_good := lw_gm (List.mem_of_getElem? (i := 488) (by decide +kernel)) (by decide +kernel)
theorem tw_im_X5_land : Cond.instanceMethod yX5_land ∈ lw_good := lw_gm (List.mem_of_getElem? (i := 489) (by decide +kernel)) (by decide +kernel)
theorem tw_se_X5_land : Cond.selects RX5 yX5_land yX5_land ∈ lw_good := lw_gm (List.mem_of_getElem? (i := 490) (by decide +kernel)) (by decide +kernel)
theorem tw_co_X5_land : Cond.code yX5_land cX5_land 4 (some .int) ∈ lw_good := lw_gm (List.mem_of_getElem? (i := 491) (by decide +kernel)) (by decide +kernel)
theorem tw_ml_L_91 : Cond.methodLink RL 91 yX5_delay ∈ lw_good := lw_gm (List.mem_of_getElem? (i := 492) (by decide +kernel)) (by decide +kernel)
theorem tw_im_X5_delay : Cond.instanceMethod yX5_delay ∈ lw_good := lw_gm (List.mem_of_getElem? (i := 493) (by decide +kernel)) (by decide +kernel)
theorem tw_se_X5_delay : Cond.selects RX5 yX5_delay yX5_delay ∈ lw_good := lw_gm (List.mem_of_getElem? (i := 494) (by decide +kernel)) (by decide +kernel)
theorem tw_co_X5_delay : Cond.code yX5_delay cX5_delay 3 (some .int) ∈ lw_good := lw_gm (List.mem_of_getElem? (i := 495) (by decide +kernel)) (by decide +kernel)
theorem tw_ml_X5_82 : Cond.methodLink RX5 82 yX5_isDelay ∈ lw_good := lw_gm (List.mem_of_getElem? (i := 496) (by decide +kernel)) (by decide +kernel)
theorem tw_st_X5_isDelay : Cond.static yX5_isDelay ∈ lw_good := lw_gm (List.mem_of_getElem? (i := 497) (by decide +kernel)) (by decide +kernel)
theorem tw_co_X5_isDelay : Cond.code yX5_isDelay cX5_isDelay 1 (some .boolean) ∈ lw_good := lw_gm (List.mem_of_getElem? (i := 498) (by decide +kernel)) (by decide +kernel)
theorem tw_ml_L_94 : Cond.methodLink RL 94 yX5_van ∈ lw_good := lw_gm (List.mem_of_getElem? (i := 499) (by decide +kernel)) (by decide +kernel)
theorem tw_im_X5_van : Cond.instanceMethod yX5_van ∈ lw_good := lw_gm (List.mem_of_getElem? (i := 500) (by decide +kernel)) (by decide +kernel)
theorem tw_se_X5_van : Cond.selects RX5 yX5_van yX5_van ∈ lw_good := lw_gm (List.mem_of_getElem? (i := 501) (by decide +kernel)) (by decide +kernel)
theorem tw_co_X5_van : Cond.code yX5_van cX5_van 4 (some .int) ∈ lw_good := lw_gm (List.mem_of_getElem? (i := 502) (by decide +kernel)) (by decide +kernel)
theorem tw_ml_L_97 : Cond.methodLink RL 97 yX5_ride ∈ lw_good := lw_gm (List.mem_of_getElem? (i := 503) (by decide +kernel)) (by decide +kernel)
theorem tw_im_X5_ride : Cond.instanceMethod yX5_ride ∈ lw_good := lw_gm (List.mem_of_getElem? (i := 504) (by decide +kernel)) (by decide +kernel)
theorem tw_se_X5_ride : Cond.selects RX5 yX5_ride yX5_ride ∈ lw_good := lw_gm (List.mem_of_getElem? (i := 505) (by decide +kernel)) (by decide +kernel)
theorem tw_co_X5_ride : Cond.code yX5_ride cX5_ride 5 (some .int) ∈ lw_good := lw_gm (List.mem_of_getElem? (i := 506) (by decide +kernel)) (by decide +kernel)
theorem tw_ml_X5_108 : Cond.methodLink RX5 108 yX3_addRider ∈ lw_good := lw_gm (List.mem_of_getElem? (i := 507) (by decide +kernel)) (by decide +kernel)
theorem tw_im_X3_addRider : Cond.instanceMethod yX3_addRider ∈ lw_good := lw_gm (List.mem_of_getElem? (i := 508) (by decide +kernel)) (by decide +kernel)
theorem tw_se_X3_addRider : Cond.selects RX3 yX3_addRider yX3_addRider ∈ lw_good := lw_gm (List.mem_of_getElem? (i := 509) (by decide +kernel)) (by decide +kernel)
theorem tw_co_X3_addRider : Cond.code yX3_addRider cX3_addRider 5 none ∈ lw_good := lw_gm (List.mem_of_getElem? (i := 510) (by decide +kernel)) (by decide +kernel)
theorem tw_ml_L_101 : Cond.methodLink RL 101 yX5_cancel ∈ lw_good := lw_gm (List.mem_of_getElem? (i := 511) (by decide +kernel)) (by decide +kernel)
theorem tw_im_X5_cancel : Cond.instanceMethod yX5_cancel ∈ lw_good := lw_gm (List.mem_of_getElem? (i := 512) (by decide +kernel)) (by decide +kernel)
theorem tw_se_X5_cancel : Cond.selects RX5 yX5_cancel yX5_cancel ∈ lw_good := lw_gm (List.mem_of_getElem? (i := 513) (by decide +kernel)) (by decide +kernel)
theorem tw_co_X5_cancel : Cond.code yX5_cancel cX5_cancel 3 (some .int) ∈ lw_good := lw_gm (List.mem_of_getElem? (i := 514) (by decide +kernel)) (by decide +kernel)
theorem tw_ml_X5_132 : Cond.methodLink RX5 132 yX3_removeRider ∈ lw_good := lw_gm (List.mem_of_getElem? (i := 515) (by decide +kernel)) (by decide +kernel)
theorem tw_im_X3_removeRider : Cond.instanceMethod yX3_removeRider ∈ lw_good := lw_gm (List.mem_of_getElem? (i := 516) (by decide +kernel)) (by decide +kernel)
theorem tw_se_X3_removeRider : Cond.selects RX3 yX3_removeRider yX3_removeRider ∈ lw_good := lw_gm (List.mem_of_getElem? (i := 517) (by decide +kernel)) (by decide +kernel)
theorem tw_co_X3_removeRider : Cond.code yX3_removeRider cX3_removeRider 3 none ∈ lw_good := lw_gm (List.mem_of_getElem? (i := 518) (by decide +kernel)) (by decide +kernel)
theorem tw_ml_L_104 : Cond.methodLink RL 104 yX5_rebook ∈ lw_good := lw_gm (List.mem_of_getElem? (i := 519) (by decide +kernel)) (by decide +kernel)
theorem tw_im_X5_rebook : Cond.instanceMethod yX5_rebook ∈ lw_good := lw_gm (List.mem_of_getElem? (i := 520) (by decide +kernel)) (by decide +kernel)
theorem tw_se_X5_rebook : Cond.selects RX5 yX5_rebook yX5_rebook ∈ lw_good := lw_gm (List.mem_of_getElem? (i := 521) (by decide +kernel)) (by decide +kernel)
theorem tw_co_X5_rebook : Cond.code yX5_rebook cX5_rebook 3 (some .int) ∈ lw_good := lw_gm (List.mem_of_getElem? (i := 522) (by decide +kernel)) (by decide +kernel)
theorem tw_ml_L_127 : Cond.methodLink RL 127 yL_due ∈ lw_good := lw_gm (List.mem_of_getElem? (i := 523) (by decide +kernel)) (by decide +kernel)
theorem tw_st_L_due : Cond.static yL_due ∈ lw_good := lw_gm (List.mem_of_getElem? (i := 524) (by decide +kernel)) (by decide +kernel)
theorem tw_co_L_due : Cond.code yL_due cL_due 14 (some .int) ∈ lw_good := lw_gm (List.mem_of_getElem? (i := 525) (by decide +kernel)) (by decide +kernel)
theorem tn_X3_39 : Cond.fieldLinkNest RX3 39 "ShuttleDoors" "SETTING_FIRST" "[I" "ShuttleDoors" ∈ lw_tbl := List.mem_of_getElem? (i := 38) (by decide +kernel)
theorem tn_ls_SETTING_FIRST : Cond.laysStatic "ShuttleDoors" "SETTING_FIRST" "[I" ∈ lw_tbl := List.mem_of_getElem? (i := 39) (by decide +kernel)
theorem tn_X5_18 : Cond.methodLinkNest RX5 18 yX2_init "ShuttleDoors" ∈ lw_tbl := List.mem_of_getElem? (i := 94) (by decide +kernel)
theorem tn_X5_25 : Cond.methodLinkNest RX5 25 yX4_init "ShuttleDoors" ∈ lw_tbl := List.mem_of_getElem? (i := 132) (by decide +kernel)
theorem tn_X5_38 : Cond.methodLinkNest RX5 38 yX1_init "ShuttleDoors" ∈ lw_tbl := List.mem_of_getElem? (i := 155) (by decide +kernel)
theorem tn_ao : Cond.arrayOver (.object RX3) ∈ lw_tbl := List.mem_of_getElem? (i := 173) (by decide +kernel)
theorem tn_X2_81 : Cond.methodLinkNest RX2 81 yX5_isIn "ShuttleDoors" ∈ lw_tbl := List.mem_of_getElem? (i := 258) (by decide +kernel)
theorem tn_X2_64 : Cond.methodLinkNest RX2 64 yX5_isVan "ShuttleDoors" ∈ lw_tbl := List.mem_of_getElem? (i := 267) (by decide +kernel)
theorem tn_ls_SETTING_LEAST : Cond.laysStatic "ShuttleDoors" "SETTING_LEAST" "[I" ∈ lw_tbl := List.mem_of_getElem? (i := 481) (by decide +kernel)
theorem tn_ls_SETTING_MOST : Cond.laysStatic "ShuttleDoors" "SETTING_MOST" "[I" ∈ lw_tbl := List.mem_of_getElem? (i := 483) (by decide +kernel)
theorem inX0 : ∀ w ∈ wsX00, w ∈ lw_good := by decide +kernel
theorem inX1 : ∀ w ∈ wsX10, w ∈ lw_good := by decide +kernel
theorem inX2 : ∀ w ∈ wsX20, w ∈ lw_good := by decide +kernel
theorem inX3 : ∀ w ∈ wsX30, w ∈ lw_good := by decide +kernel
theorem inX4 : ∀ w ∈ wsX40, w ∈ lw_good := by decide +kernel
theorem inX5 : ∀ w ∈ wsX50, w ∈ lw_good := by decide +kernel
end
section
theorem dX0_init_0 : decode cX0_init 0 = .ok (.aload_n 0, 1) := by decide +kernel
theorem dX0_init_1 : decode cX0_init 1 = .ok (.invokespecial 3, 3) := by decide +kernel
theorem dX0_init_4 : decode cX0_init 4 = .ok (.aload_n 0, 1) := by decide +kernel
theorem dX0_init_5 : decode cX0_init 5 = .ok (.bipush 6, 2) := by decide +kernel
theorem dX0_init_7 : decode cX0_init 7 = .ok (.anewarray 9, 3) := by decide +kernel
theorem dX0_init_10 : decode cX0_init 10 = .ok (.putfield 11, 3) := by decide +kernel
theorem dX0_init_13 : decode cX0_init 13 = .ok (.iconst 0, 1) := by decide +kernel
theorem dX0_init_14 : decode cX0_init 14 = .ok (.istore_n 1, 1) := by decide +kernel
theorem dX0_init_15 : decode cX0_init 15 = .ok (.iload_n 1, 1) := by decide +kernel
theorem dX0_init_16 : decode cX0_init 16 = .ok (.bipush 6, 2) := by decide +kernel
theorem dX0_init_18 : decode cX0_init 18 = .ok (.if_icmp .ge 22, 3) := by decide +kernel
theorem dX0_init_21 : decode cX0_init 21 = .ok (.aload_n 0, 1) := by decide +kernel
theorem dX0_init_22 : decode cX0_init 22 = .ok (.getfield 11, 3) := by decide +kernel
theorem dX0_init_25 : decode cX0_init 25 = .ok (.iload_n 1, 1) := by decide +kernel
theorem dX0_init_26 : decode cX0_init 26 = .ok (.new 9, 3) := by decide +kernel
theorem dX0_init_29 : decode cX0_init 29 = .ok (.dup, 1) := by decide +kernel
theorem dX0_init_30 : decode cX0_init 30 = .ok (.invokespecial 17, 3) := by decide +kernel
theorem dX0_init_33 : decode cX0_init 33 = .ok (.aastore, 1) := by decide +kernel
theorem dX0_init_34 : decode cX0_init 34 = .ok (.iinc 1 1, 3) := by decide +kernel
theorem dX0_init_37 : decode cX0_init 37 = .ok (.goto (-22), 3) := by decide +kernel
theorem dX0_init_40 : decode cX0_init 40 = .ok (.return_, 1) := by decide +kernel
theorem dX0_record_0 : decode cX0_record 0 = .ok (.aload_n 0, 1) := by decide +kernel
theorem dX0_record_1 : decode cX0_record 1 = .ok (.getfield 18, 3) := by decide +kernel
theorem dX0_record_4 : decode cX0_record 4 = .ok (.bipush 6, 2) := by decide +kernel
theorem dX0_record_6 : decode cX0_record 6 = .ok (.if_icmp .lt 26, 3) := by decide +kernel
theorem dX0_record_9 : decode cX0_record 9 = .ok (.aload_n 0, 1) := by decide +kernel
theorem dX0_record_10 : decode cX0_record 10 = .ok (.aload_n 0, 1) := by decide +kernel
theorem dX0_record_11 : decode cX0_record 11 = .ok (.getfield 22, 3) := by decide +kernel
theorem dX0_record_14 : decode cX0_record 14 = .ok (.iconst 1, 1) := by decide +kernel
theorem dX0_record_15 : decode cX0_record 15 = .ok (.iadd, 1) := by decide +kernel
theorem dX0_record_16 : decode cX0_record 16 = .ok (.bipush 6, 2) := by decide +kernel
theorem dX0_record_18 : decode cX0_record 18 = .ok (.irem, 1) := by decide +kernel
theorem dX0_record_19 : decode cX0_record 19 = .ok (.putfield 22, 3) := by decide +kernel
theorem dX0_record_22 : decode cX0_record 22 = .ok (.aload_n 0, 1) := by decide +kernel
theorem dX0_record_23 : decode cX0_record 23 = .ok (.dup, 1) := by decide +kernel
theorem dX0_record_24 : decode cX0_record 24 = .ok (.getfield 18, 3) := by decide +kernel
theorem dX0_record_27 : decode cX0_record 27 = .ok (.iconst 1, 1) := by decide +kernel
theorem dX0_record_28 : decode cX0_record 28 = .ok (.isub, 1) := by decide +kernel
theorem dX0_record_29 : decode cX0_record 29 = .ok (.putfield 18, 3) := by decide +kernel
theorem dX0_record_32 : decode cX0_record 32 = .ok (.aload_n 0, 1) := by decide +kernel
theorem dX0_record_33 : decode cX0_record 33 = .ok (.getfield 11, 3) := by decide +kernel
theorem dX0_record_36 : decode cX0_record 36 = .ok (.aload_n 0, 1) := by decide +kernel
theorem dX0_record_37 : decode cX0_record 37 = .ok (.getfield 22, 3) := by decide +kernel
theorem dX0_record_40 : decode cX0_record 40 = .ok (.aload_n 0, 1) := by decide +kernel
theorem dX0_record_41 : decode cX0_record 41 = .ok (.getfield 18, 3) := by decide +kernel
theorem dX0_record_44 : decode cX0_record 44 = .ok (.iadd, 1) := by decide +kernel
theorem dX0_record_45 : decode cX0_record 45 = .ok (.bipush 6, 2) := by decide +kernel
theorem dX0_record_47 : decode cX0_record 47 = .ok (.irem, 1) := by decide +kernel
theorem dX0_record_48 : decode cX0_record 48 = .ok (.aaload, 1) := by decide +kernel
theorem dX0_record_49 : decode cX0_record 49 = .ok (.aload_n 1, 1) := by decide +kernel
theorem dX0_record_50 : decode cX0_record 50 = .ok (.invokevirtual 25, 3) := by decide +kernel
theorem dX0_record_53 : decode cX0_record 53 = .ok (.aload_n 0, 1) := by decide +kernel
theorem dX0_record_54 : decode cX0_record 54 = .ok (.dup, 1) := by decide +kernel
theorem dX0_record_55 : decode cX0_record 55 = .ok (.getfield 18, 3) := by decide +kernel
theorem dX0_record_58 : decode cX0_record 58 = .ok (.iconst 1, 1) := by decide +kernel
theorem dX0_record_59 : decode cX0_record 59 = .ok (.iadd, 1) := by decide +kernel
theorem dX0_record_60 : decode cX0_record 60 = .ok (.putfield 18, 3) := by decide +kernel
theorem dX0_record_63 : decode cX0_record 63 = .ok (.return_, 1) := by decide +kernel
theorem dX0_takeBack_0 : decode cX0_takeBack 0 = .ok (.aload_n 0, 1) := by decide +kernel
theorem dX0_takeBack_1 : decode cX0_takeBack 1 = .ok (.getfield 18, 3) := by decide +kernel
theorem dX0_takeBack_4 : decode cX0_takeBack 4 = .ok (.ifCond .gt 4, 3) := by decide +kernel
theorem dX0_takeBack_7 : decode cX0_takeBack 7 = .ok (.return_, 1) := by decide +kernel
theorem dX0_takeBack_8 : decode cX0_takeBack 8 = .ok (.aload_n 0, 1) := by decide +kernel
theorem dX0_takeBack_9 : decode cX0_takeBack 9 = .ok (.dup, 1) := by decide +kernel
theorem dX0_takeBack_10 : decode cX0_takeBack 10 = .ok (.getfield 18, 3) := by decide +kernel
theorem dX0_takeBack_13 : decode cX0_takeBack 13 = .ok (.iconst 1, 1) := by decide +kernel
theorem dX0_takeBack_14 : decode cX0_takeBack 14 = .ok (.isub, 1) := by decide +kernel
theorem dX0_takeBack_15 : decode cX0_takeBack 15 = .ok (.putfield 18, 3) := by decide +kernel
theorem dX0_takeBack_18 : decode cX0_takeBack 18 = .ok (.aload_n 1, 1) := by decide +kernel
theorem dX0_takeBack_19 : decode cX0_takeBack 19 = .ok (.aload_n 0, 1) := by decide +kernel
theorem dX0_takeBack_20 : decode cX0_takeBack 20 = .ok (.getfield 11, 3) := by decide +kernel
theorem dX0_takeBack_23 : decode cX0_takeBack 23 = .ok (.aload_n 0, 1) := by decide +kernel
theorem dX0_takeBack_24 : decode cX0_takeBack 24 = .ok (.getfield 22, 3) := by decide +kernel
theorem dX0_takeBack_27 : decode cX0_takeBack 27 = .ok (.aload_n 0, 1) := by decide +kernel
theorem dX0_takeBack_28 : decode cX0_takeBack 28 = .ok (.getfield 18, 3) := by decide +kernel
theorem dX0_takeBack_31 : decode cX0_takeBack 31 = .ok (.iadd, 1) := by decide +kernel
theorem dX0_takeBack_32 : decode cX0_takeBack 32 = .ok (.bipush 6, 2) := by decide +kernel
theorem dX0_takeBack_34 : decode cX0_takeBack 34 = .ok (.irem, 1) := by decide +kernel
theorem dX0_takeBack_35 : decode cX0_takeBack 35 = .ok (.aaload, 1) := by decide +kernel
theorem dX0_takeBack_36 : decode cX0_takeBack 36 = .ok (.invokevirtual 25, 3) := by decide +kernel
theorem dX0_takeBack_39 : decode cX0_takeBack 39 = .ok (.return_, 1) := by decide +kernel
theorem dX1_init_0 : decode cX1_init 0 = .ok (.aload_n 0, 1) := by decide +kernel
theorem dX1_init_1 : decode cX1_init 1 = .ok (.invokespecial 3, 3) := by decide +kernel
theorem dX1_init_4 : decode cX1_init 4 = .ok (.aload_n 0, 1) := by decide +kernel
theorem dX1_init_5 : decode cX1_init 5 = .ok (.bipush 60, 2) := by decide +kernel
theorem dX1_init_7 : decode cX1_init 7 = .ok (.newarray .int, 2) := by decide +kernel
theorem dX1_init_9 : decode cX1_init 9 = .ok (.putfield 9, 3) := by decide +kernel
theorem dX1_init_12 : decode cX1_init 12 = .ok (.return_, 1) := by decide +kernel
theorem dX2_init_0 : decode cX2_init 0 = .ok (.aload_n 0, 1) := by decide +kernel
theorem dX2_init_1 : decode cX2_init 1 = .ok (.invokespecial 3, 3) := by decide +kernel
theorem dX2_init_4 : decode cX2_init 4 = .ok (.aload_n 0, 1) := by decide +kernel
theorem dX2_init_5 : decode cX2_init 5 = .ok (.bipush 24, 2) := by decide +kernel
theorem dX2_init_7 : decode cX2_init 7 = .ok (.newarray .int, 2) := by decide +kernel
theorem dX2_init_9 : decode cX2_init 9 = .ok (.putfield 9, 3) := by decide +kernel
theorem dX2_init_12 : decode cX2_init 12 = .ok (.aload_n 0, 1) := by decide +kernel
theorem dX2_init_13 : decode cX2_init 13 = .ok (.bipush 24, 2) := by decide +kernel
theorem dX2_init_15 : decode cX2_init 15 = .ok (.newarray .int, 2) := by decide +kernel
theorem dX2_init_17 : decode cX2_init 17 = .ok (.putfield 15, 3) := by decide +kernel
theorem dX2_init_20 : decode cX2_init 20 = .ok (.aload_n 0, 1) := by decide +kernel
theorem dX2_init_21 : decode cX2_init 21 = .ok (.bipush 24, 2) := by decide +kernel
theorem dX2_init_23 : decode cX2_init 23 = .ok (.newarray .int, 2) := by decide +kernel
theorem dX2_init_25 : decode cX2_init 25 = .ok (.putfield 18, 3) := by decide +kernel
theorem dX2_init_28 : decode cX2_init 28 = .ok (.aload_n 0, 1) := by decide +kernel
theorem dX2_init_29 : decode cX2_init 29 = .ok (.bipush 8, 2) := by decide +kernel
theorem dX2_init_31 : decode cX2_init 31 = .ok (.newarray .int, 2) := by decide +kernel
theorem dX2_init_33 : decode cX2_init 33 = .ok (.putfield 21, 3) := by decide +kernel
theorem dX2_init_36 : decode cX2_init 36 = .ok (.aload_n 0, 1) := by decide +kernel
theorem dX2_init_37 : decode cX2_init 37 = .ok (.bipush 8, 2) := by decide +kernel
theorem dX2_init_39 : decode cX2_init 39 = .ok (.newarray .int, 2) := by decide +kernel
theorem dX2_init_41 : decode cX2_init 41 = .ok (.putfield 24, 3) := by decide +kernel
theorem dX2_init_44 : decode cX2_init 44 = .ok (.return_, 1) := by decide +kernel
theorem dX2_make_0 : decode cX2_make 0 = .ok (.aload_n 0, 1) := by decide +kernel
theorem dX2_make_1 : decode cX2_make 1 = .ok (.aload_n 1, 1) := by decide +kernel
theorem dX2_make_2 : decode cX2_make 2 = .ok (.invokevirtual 27, 3) := by decide +kernel
theorem dX2_make_5 : decode cX2_make 5 = .ok (.aload_n 0, 1) := by decide +kernel
theorem dX2_make_6 : decode cX2_make 6 = .ok (.aload_n 1, 1) := by decide +kernel
theorem dX2_make_7 : decode cX2_make 7 = .ok (.invokevirtual 31, 3) := by decide +kernel
theorem dX2_make_10 : decode cX2_make 10 = .ok (.return_, 1) := by decide +kernel
theorem dX2_lineUp_0 : decode cX2_lineUp 0 = .ok (.iconst 0, 1) := by decide +kernel
theorem dX2_lineUp_1 : decode cX2_lineUp 1 = .ok (.istore_n 2, 1) := by decide +kernel
theorem dX2_lineUp_2 : decode cX2_lineUp 2 = .ok (.iload_n 2, 1) := by decide +kernel
theorem dX2_lineUp_3 : decode cX2_lineUp 3 = .ok (.aload_n 1, 1) := by decide +kernel
theorem dX2_lineUp_4 : decode cX2_lineUp 4 = .ok (.getfield 34, 3) := by decide +kernel
theorem dX2_lineUp_7 : decode cX2_lineUp 7 = .ok (.if_icmp .ge 75, 3) := by decide +kernel
theorem dX2_lineUp_10 : decode cX2_lineUp 10 = .ok (.aload_n 0, 1) := by decide +kernel
theorem dX2_lineUp_11 : decode cX2_lineUp 11 = .ok (.getfield 15, 3) := by decide +kernel
theorem dX2_lineUp_14 : decode cX2_lineUp 14 = .ok (.iload_n 2, 1) := by decide +kernel
theorem dX2_lineUp_15 : decode cX2_lineUp 15 = .ok (.aload_n 1, 1) := by decide +kernel
theorem dX2_lineUp_16 : decode cX2_lineUp 16 = .ok (.iload_n 2, 1) := by decide +kernel
theorem dX2_lineUp_17 : decode cX2_lineUp 17 = .ok (.invokevirtual 40, 3) := by decide +kernel
theorem dX2_lineUp_20 : decode cX2_lineUp 20 = .ok (.iastore, 1) := by decide +kernel
theorem dX2_lineUp_21 : decode cX2_lineUp 21 = .ok (.iload_n 2, 1) := by decide +kernel
theorem dX2_lineUp_22 : decode cX2_lineUp 22 = .ok (.istore_n 3, 1) := by decide +kernel
theorem dX2_lineUp_23 : decode cX2_lineUp 23 = .ok (.iload_n 3, 1) := by decide +kernel
theorem dX2_lineUp_24 : decode cX2_lineUp 24 = .ok (.ifCond .le 45, 3) := by decide +kernel
theorem dX2_lineUp_27 : decode cX2_lineUp 27 = .ok (.aload_n 0, 1) := by decide +kernel
theorem dX2_lineUp_28 : decode cX2_lineUp 28 = .ok (.getfield 15, 3) := by decide +kernel
theorem dX2_lineUp_31 : decode cX2_lineUp 31 = .ok (.aload_n 0, 1) := by decide +kernel
theorem dX2_lineUp_32 : decode cX2_lineUp 32 = .ok (.getfield 9, 3) := by decide +kernel
theorem dX2_lineUp_35 : decode cX2_lineUp 35 = .ok (.iload_n 3, 1) := by decide +kernel
theorem dX2_lineUp_36 : decode cX2_lineUp 36 = .ok (.iconst 1, 1) := by decide +kernel
theorem dX2_lineUp_37 : decode cX2_lineUp 37 = .ok (.isub, 1) := by decide +kernel
theorem dX2_lineUp_38 : decode cX2_lineUp 38 = .ok (.iaload, 1) := by decide +kernel
theorem dX2_lineUp_39 : decode cX2_lineUp 39 = .ok (.iaload, 1) := by decide +kernel
theorem dX2_lineUp_40 : decode cX2_lineUp 40 = .ok (.aload_n 0, 1) := by decide +kernel
theorem dX2_lineUp_41 : decode cX2_lineUp 41 = .ok (.getfield 15, 3) := by decide +kernel
theorem dX2_lineUp_44 : decode cX2_lineUp 44 = .ok (.iload_n 2, 1) := by decide +kernel
theorem dX2_lineUp_45 : decode cX2_lineUp 45 = .ok (.iaload, 1) := by decide +kernel
theorem dX2_lineUp_46 : decode cX2_lineUp 46 = .ok (.if_icmp .le 23, 3) := by decide +kernel
theorem dX2_lineUp_49 : decode cX2_lineUp 49 = .ok (.aload_n 0, 1) := by decide +kernel
theorem dX2_lineUp_50 : decode cX2_lineUp 50 = .ok (.getfield 9, 3) := by decide +kernel
theorem dX2_lineUp_53 : decode cX2_lineUp 53 = .ok (.iload_n 3, 1) := by decide +kernel
theorem dX2_lineUp_54 : decode cX2_lineUp 54 = .ok (.aload_n 0, 1) := by decide +kernel
theorem dX2_lineUp_55 : decode cX2_lineUp 55 = .ok (.getfield 9, 3) := by decide +kernel
theorem dX2_lineUp_58 : decode cX2_lineUp 58 = .ok (.iload_n 3, 1) := by decide +kernel
theorem dX2_lineUp_59 : decode cX2_lineUp 59 = .ok (.iconst 1, 1) := by decide +kernel
theorem dX2_lineUp_60 : decode cX2_lineUp 60 = .ok (.isub, 1) := by decide +kernel
theorem dX2_lineUp_61 : decode cX2_lineUp 61 = .ok (.iaload, 1) := by decide +kernel
theorem dX2_lineUp_62 : decode cX2_lineUp 62 = .ok (.iastore, 1) := by decide +kernel
theorem dX2_lineUp_63 : decode cX2_lineUp 63 = .ok (.iinc 3 (-1), 3) := by decide +kernel
theorem dX2_lineUp_66 : decode cX2_lineUp 66 = .ok (.goto (-43), 3) := by decide +kernel
theorem dX2_lineUp_69 : decode cX2_lineUp 69 = .ok (.aload_n 0, 1) := by decide +kernel
theorem dX2_lineUp_70 : decode cX2_lineUp 70 = .ok (.getfield 9, 3) := by decide +kernel
theorem dX2_lineUp_73 : decode cX2_lineUp 73 = .ok (.iload_n 3, 1) := by decide +kernel
theorem dX2_lineUp_74 : decode cX2_lineUp 74 = .ok (.iload_n 2, 1) := by decide +kernel
theorem dX2_lineUp_75 : decode cX2_lineUp 75 = .ok (.iastore, 1) := by decide +kernel
theorem dX2_lineUp_76 : decode cX2_lineUp 76 = .ok (.iinc 2 1, 3) := by decide +kernel
theorem dX2_lineUp_79 : decode cX2_lineUp 79 = .ok (.goto (-77), 3) := by decide +kernel
theorem dX2_lineUp_82 : decode cX2_lineUp 82 = .ok (.return_, 1) := by decide +kernel
theorem dX2_board_0 : decode cX2_board 0 = .ok (.iconst 0, 1) := by decide +kernel
theorem dX2_board_1 : decode cX2_board 1 = .ok (.istore_n 2, 1) := by decide +kernel
theorem dX2_board_2 : decode cX2_board 2 = .ok (.iload_n 2, 1) := by decide +kernel
theorem dX2_board_3 : decode cX2_board 3 = .ok (.bipush 8, 2) := by decide +kernel
theorem dX2_board_5 : decode cX2_board 5 = .ok (.if_icmp .ge 23, 3) := by decide +kernel
theorem dX2_board_8 : decode cX2_board 8 = .ok (.aload_n 0, 1) := by decide +kernel
theorem dX2_board_9 : decode cX2_board 9 = .ok (.getfield 21, 3) := by decide +kernel
theorem dX2_board_12 : decode cX2_board 12 = .ok (.iload_n 2, 1) := by decide +kernel
theorem dX2_board_13 : decode cX2_board 13 = .ok (.iconst 0, 1) := by decide +kernel
theorem dX2_board_14 : decode cX2_board 14 = .ok (.iastore, 1) := by decide +kernel
theorem dX2_board_15 : decode cX2_board 15 = .ok (.aload_n 0, 1) := by decide +kernel
theorem dX2_board_16 : decode cX2_board 16 = .ok (.getfield 24, 3) := by decide +kernel
theorem dX2_board_19 : decode cX2_board 19 = .ok (.iload_n 2, 1) := by decide +kernel
theorem dX2_board_20 : decode cX2_board 20 = .ok (.iconst 0, 1) := by decide +kernel
theorem dX2_board_21 : decode cX2_board 21 = .ok (.iastore, 1) := by decide +kernel
theorem dX2_board_22 : decode cX2_board 22 = .ok (.iinc 2 1, 3) := by decide +kernel
theorem dX2_board_25 : decode cX2_board 25 = .ok (.goto (-23), 3) := by decide +kernel
theorem dX2_board_28 : decode cX2_board 28 = .ok (.aload_n 0, 1) := by decide +kernel
theorem dX2_board_29 : decode cX2_board 29 = .ok (.iconst 0, 1) := by decide +kernel
theorem dX2_board_30 : decode cX2_board 30 = .ok (.putfield 44, 3) := by decide +kernel
theorem dX2_board_33 : decode cX2_board 33 = .ok (.aload_n 0, 1) := by decide +kernel
theorem dX2_board_34 : decode cX2_board 34 = .ok (.iconst 0, 1) := by decide +kernel
theorem dX2_board_35 : decode cX2_board 35 = .ok (.putfield 47, 3) := by decide +kernel
theorem dX2_board_38 : decode cX2_board 38 = .ok (.aload_n 0, 1) := by decide +kernel
theorem dX2_board_39 : decode cX2_board 39 = .ok (.iconst 0, 1) := by decide +kernel
theorem dX2_board_40 : decode cX2_board 40 = .ok (.putfield 50, 3) := by decide +kernel
theorem dX2_board_43 : decode cX2_board 43 = .ok (.iconst 0, 1) := by decide +kernel
theorem dX2_board_44 : decode cX2_board 44 = .ok (.istore_n 2, 1) := by decide +kernel
theorem dX2_board_45 : decode cX2_board 45 = .ok (.iload_n 2, 1) := by decide +kernel
theorem dX2_board_46 : decode cX2_board 46 = .ok (.aload_n 1, 1) := by decide +kernel
theorem dX2_board_47 : decode cX2_board 47 = .ok (.getfield 34, 3) := by decide +kernel
theorem dX2_board_50 : decode cX2_board 50 = .ok (.if_icmp .ge 20, 3) := by decide +kernel
theorem dX2_board_53 : decode cX2_board 53 = .ok (.aload_n 0, 1) := by decide +kernel
theorem dX2_board_54 : decode cX2_board 54 = .ok (.aload_n 1, 1) := by decide +kernel
theorem dX2_board_55 : decode cX2_board 55 = .ok (.aload_n 0, 1) := by decide +kernel
theorem dX2_board_56 : decode cX2_board 56 = .ok (.getfield 9, 3) := by decide +kernel
theorem dX2_board_59 : decode cX2_board 59 = .ok (.iload_n 2, 1) := by decide +kernel
theorem dX2_board_60 : decode cX2_board 60 = .ok (.iaload, 1) := by decide +kernel
theorem dX2_board_61 : decode cX2_board 61 = .ok (.invokevirtual 53, 3) := by decide +kernel
theorem dX2_board_64 : decode cX2_board 64 = .ok (.iinc 2 1, 3) := by decide +kernel
theorem dX2_board_67 : decode cX2_board 67 = .ok (.goto (-22), 3) := by decide +kernel
theorem dX2_board_70 : decode cX2_board 70 = .ok (.return_, 1) := by decide +kernel
theorem dX2_boardOne_0 : decode cX2_boardOne 0 = .ok (.aload_n 1, 1) := by decide +kernel
theorem dX2_boardOne_1 : decode cX2_boardOne 1 = .ok (.getfield 57, 3) := by decide +kernel
theorem dX2_boardOne_4 : decode cX2_boardOne 4 = .ok (.iload_n 2, 1) := by decide +kernel
theorem dX2_boardOne_5 : decode cX2_boardOne 5 = .ok (.iaload, 1) := by decide +kernel
theorem dX2_boardOne_6 : decode cX2_boardOne 6 = .ok (.istore_n 3, 1) := by decide +kernel
theorem dX2_boardOne_7 : decode cX2_boardOne 7 = .ok (.aload_n 0, 1) := by decide +kernel
theorem dX2_boardOne_8 : decode cX2_boardOne 8 = .ok (.aload_n 1, 1) := by decide +kernel
theorem dX2_boardOne_9 : decode cX2_boardOne 9 = .ok (.iload_n 2, 1) := by decide +kernel
theorem dX2_boardOne_10 : decode cX2_boardOne 10 = .ok (.invokevirtual 60, 3) := by decide +kernel
theorem dX2_boardOne_13 : decode cX2_boardOne 13 = .ok (.istore 4, 2) := by decide +kernel
theorem dX2_boardOne_15 : decode cX2_boardOne 15 = .ok (.aload_n 0, 1) := by decide +kernel
theorem dX2_boardOne_16 : decode cX2_boardOne 16 = .ok (.getfield 18, 3) := by decide +kernel
theorem dX2_boardOne_19 : decode cX2_boardOne 19 = .ok (.iload_n 2, 1) := by decide +kernel
theorem dX2_boardOne_20 : decode cX2_boardOne 20 = .ok (.iload 4, 2) := by decide +kernel
theorem dX2_boardOne_22 : decode cX2_boardOne 22 = .ok (.iastore, 1) := by decide +kernel
theorem dX2_boardOne_23 : decode cX2_boardOne 23 = .ok (.iload 4, 2) := by decide +kernel
theorem dX2_boardOne_25 : decode cX2_boardOne 25 = .ok (.invokestatic 64, 3) := by decide +kernel
theorem dX2_boardOne_28 : decode cX2_boardOne 28 = .ok (.ifCond .ne 24, 3) := by decide +kernel
theorem dX2_boardOne_31 : decode cX2_boardOne 31 = .ok (.aload_n 0, 1) := by decide +kernel
theorem dX2_boardOne_32 : decode cX2_boardOne 32 = .ok (.dup, 1) := by decide +kernel
theorem dX2_boardOne_33 : decode cX2_boardOne 33 = .ok (.getfield 44, 3) := by decide +kernel
theorem dX2_boardOne_36 : decode cX2_boardOne 36 = .ok (.iconst 1, 1) := by decide +kernel
theorem dX2_boardOne_37 : decode cX2_boardOne 37 = .ok (.iadd, 1) := by decide +kernel
theorem dX2_boardOne_38 : decode cX2_boardOne 38 = .ok (.putfield 44, 3) := by decide +kernel
theorem dX2_boardOne_41 : decode cX2_boardOne 41 = .ok (.aload_n 0, 1) := by decide +kernel
theorem dX2_boardOne_42 : decode cX2_boardOne 42 = .ok (.dup, 1) := by decide +kernel
theorem dX2_boardOne_43 : decode cX2_boardOne 43 = .ok (.getfield 47, 3) := by decide +kernel
theorem dX2_boardOne_46 : decode cX2_boardOne 46 = .ok (.iload_n 3, 1) := by decide +kernel
theorem dX2_boardOne_47 : decode cX2_boardOne 47 = .ok (.iadd, 1) := by decide +kernel
theorem dX2_boardOne_48 : decode cX2_boardOne 48 = .ok (.putfield 47, 3) := by decide +kernel
theorem dX2_boardOne_51 : decode cX2_boardOne 51 = .ok (.return_, 1) := by decide +kernel
theorem dX2_boardOne_52 : decode cX2_boardOne 52 = .ok (.aload_n 0, 1) := by decide +kernel
theorem dX2_boardOne_53 : decode cX2_boardOne 53 = .ok (.getfield 21, 3) := by decide +kernel
theorem dX2_boardOne_56 : decode cX2_boardOne 56 = .ok (.iload 4, 2) := by decide +kernel
theorem dX2_boardOne_58 : decode cX2_boardOne 58 = .ok (.dup2, 1) := by decide +kernel
theorem dX2_boardOne_59 : decode cX2_boardOne 59 = .ok (.iaload, 1) := by decide +kernel
theorem dX2_boardOne_60 : decode cX2_boardOne 60 = .ok (.iload_n 3, 1) := by decide +kernel
theorem dX2_boardOne_61 : decode cX2_boardOne 61 = .ok (.iadd, 1) := by decide +kernel
theorem dX2_boardOne_62 : decode cX2_boardOne 62 = .ok (.iastore, 1) := by decide +kernel
theorem dX2_boardOne_63 : decode cX2_boardOne 63 = .ok (.aload_n 0, 1) := by decide +kernel
theorem dX2_boardOne_64 : decode cX2_boardOne 64 = .ok (.getfield 24, 3) := by decide +kernel
theorem dX2_boardOne_67 : decode cX2_boardOne 67 = .ok (.iload 4, 2) := by decide +kernel
theorem dX2_boardOne_69 : decode cX2_boardOne 69 = .ok (.dup2, 1) := by decide +kernel
theorem dX2_boardOne_70 : decode cX2_boardOne 70 = .ok (.iaload, 1) := by decide +kernel
theorem dX2_boardOne_71 : decode cX2_boardOne 71 = .ok (.iconst 1, 1) := by decide +kernel
theorem dX2_boardOne_72 : decode cX2_boardOne 72 = .ok (.aload_n 1, 1) := by decide +kernel
theorem dX2_boardOne_73 : decode cX2_boardOne 73 = .ok (.getfield 68, 3) := by decide +kernel
theorem dX2_boardOne_76 : decode cX2_boardOne 76 = .ok (.iload_n 2, 1) := by decide +kernel
theorem dX2_boardOne_77 : decode cX2_boardOne 77 = .ok (.iaload, 1) := by decide +kernel
theorem dX2_boardOne_78 : decode cX2_boardOne 78 = .ok (.ishl, 1) := by decide +kernel
theorem dX2_boardOne_79 : decode cX2_boardOne 79 = .ok (.ior, 1) := by decide +kernel
theorem dX2_boardOne_80 : decode cX2_boardOne 80 = .ok (.iastore, 1) := by decide +kernel
theorem dX2_boardOne_81 : decode cX2_boardOne 81 = .ok (.aload_n 0, 1) := by decide +kernel
theorem dX2_boardOne_82 : decode cX2_boardOne 82 = .ok (.dup, 1) := by decide +kernel
theorem dX2_boardOne_83 : decode cX2_boardOne 83 = .ok (.getfield 50, 3) := by decide +kernel
theorem dX2_boardOne_86 : decode cX2_boardOne 86 = .ok (.iload_n 3, 1) := by decide +kernel
theorem dX2_boardOne_87 : decode cX2_boardOne 87 = .ok (.aload_n 1, 1) := by decide +kernel
theorem dX2_boardOne_88 : decode cX2_boardOne 88 = .ok (.getfield 71, 3) := by decide +kernel
theorem dX2_boardOne_91 : decode cX2_boardOne 91 = .ok (.iload 4, 2) := by decide +kernel
theorem dX2_boardOne_93 : decode cX2_boardOne 93 = .ok (.iaload, 1) := by decide +kernel
theorem dX2_boardOne_94 : decode cX2_boardOne 94 = .ok (.aload_n 0, 1) := by decide +kernel
theorem dX2_boardOne_95 : decode cX2_boardOne 95 = .ok (.getfield 15, 3) := by decide +kernel
theorem dX2_boardOne_98 : decode cX2_boardOne 98 = .ok (.iload_n 2, 1) := by decide +kernel
theorem dX2_boardOne_99 : decode cX2_boardOne 99 = .ok (.iaload, 1) := by decide +kernel
theorem dX2_boardOne_100 : decode cX2_boardOne 100 = .ok (.isub, 1) := by decide +kernel
theorem dX2_boardOne_101 : decode cX2_boardOne 101 = .ok (.imul, 1) := by decide +kernel
theorem dX2_boardOne_102 : decode cX2_boardOne 102 = .ok (.iadd, 1) := by decide +kernel
theorem dX2_boardOne_103 : decode cX2_boardOne 103 = .ok (.putfield 50, 3) := by decide +kernel
theorem dX2_boardOne_106 : decode cX2_boardOne 106 = .ok (.return_, 1) := by decide +kernel
theorem dX2_firstVanFor_0 : decode cX2_firstVanFor 0 = .ok (.bipush (-106), 2) := by decide +kernel
theorem dX2_firstVanFor_2 : decode cX2_firstVanFor 2 = .ok (.istore_n 3, 1) := by decide +kernel
theorem dX2_firstVanFor_3 : decode cX2_firstVanFor 3 = .ok (.iconst 0, 1) := by decide +kernel
theorem dX2_firstVanFor_4 : decode cX2_firstVanFor 4 = .ok (.istore 4, 2) := by decide +kernel
theorem dX2_firstVanFor_6 : decode cX2_firstVanFor 6 = .ok (.iconst 0, 1) := by decide +kernel
theorem dX2_firstVanFor_7 : decode cX2_firstVanFor 7 = .ok (.istore 5, 2) := by decide +kernel
theorem dX2_firstVanFor_9 : decode cX2_firstVanFor 9 = .ok (.iload 5, 2) := by decide +kernel
theorem dX2_firstVanFor_11 : decode cX2_firstVanFor 11 = .ok (.bipush 8, 2) := by decide +kernel
theorem dX2_firstVanFor_13 : decode cX2_firstVanFor 13 = .ok (.if_icmp .ge 62, 3) := by decide +kernel
theorem dX2_firstVanFor_16 : decode cX2_firstVanFor 16 = .ok (.iload_n 3, 1) := by decide +kernel
theorem dX2_firstVanFor_17 : decode cX2_firstVanFor 17 = .ok (.bipush (-106), 2) := by decide +kernel
theorem dX2_firstVanFor_19 : decode cX2_firstVanFor 19 = .ok (.if_icmp .eq 15, 3) := by decide +kernel
theorem dX2_firstVanFor_22 : decode cX2_firstVanFor 22 = .ok (.aload_n 1, 1) := by decide +kernel
theorem dX2_firstVanFor_23 : decode cX2_firstVanFor 23 = .ok (.getfield 71, 3) := by decide +kernel
theorem dX2_firstVanFor_26 : decode cX2_firstVanFor 26 = .ok (.iload 5, 2) := by decide +kernel
theorem dX2_firstVanFor_28 : decode cX2_firstVanFor 28 = .ok (.iaload, 1) := by decide +kernel
theorem dX2_firstVanFor_29 : decode cX2_firstVanFor 29 = .ok (.iload 4, 2) := by decide +kernel
theorem dX2_firstVanFor_31 : decode cX2_firstVanFor 31 = .ok (.if_icmp .ge 7, 3) := by decide +kernel
theorem dX2_firstVanFor_34 : decode cX2_firstVanFor 34 = .ok (.iconst 1, 1) := by decide +kernel
theorem dX2_firstVanFor_35 : decode cX2_firstVanFor 35 = .ok (.goto 4, 3) := by decide +kernel
theorem dX2_firstVanFor_38 : decode cX2_firstVanFor 38 = .ok (.iconst 0, 1) := by decide +kernel
theorem dX2_firstVanFor_39 : decode cX2_firstVanFor 39 = .ok (.istore 6, 2) := by decide +kernel
theorem dX2_firstVanFor_41 : decode cX2_firstVanFor 41 = .ok (.iload 6, 2) := by decide +kernel
theorem dX2_firstVanFor_43 : decode cX2_firstVanFor 43 = .ok (.ifCond .eq 26, 3) := by decide +kernel
theorem dX2_firstVanFor_46 : decode cX2_firstVanFor 46 = .ok (.aload_n 0, 1) := by decide +kernel
theorem dX2_firstVanFor_47 : decode cX2_firstVanFor 47 = .ok (.aload_n 1, 1) := by decide +kernel
theorem dX2_firstVanFor_48 : decode cX2_firstVanFor 48 = .ok (.iload 5, 2) := by decide +kernel
theorem dX2_firstVanFor_50 : decode cX2_firstVanFor 50 = .ok (.iload_n 2, 1) := by decide +kernel
theorem dX2_firstVanFor_51 : decode cX2_firstVanFor 51 = .ok (.invokevirtual 74, 3) := by decide +kernel
theorem dX2_firstVanFor_54 : decode cX2_firstVanFor 54 = .ok (.ifCond .eq 15, 3) := by decide +kernel
theorem dX2_firstVanFor_57 : decode cX2_firstVanFor 57 = .ok (.iload 5, 2) := by decide +kernel
theorem dX2_firstVanFor_59 : decode cX2_firstVanFor 59 = .ok (.istore_n 3, 1) := by decide +kernel
theorem dX2_firstVanFor_60 : decode cX2_firstVanFor 60 = .ok (.aload_n 1, 1) := by decide +kernel
theorem dX2_firstVanFor_61 : decode cX2_firstVanFor 61 = .ok (.getfield 71, 3) := by decide +kernel
theorem dX2_firstVanFor_64 : decode cX2_firstVanFor 64 = .ok (.iload 5, 2) := by decide +kernel
theorem dX2_firstVanFor_66 : decode cX2_firstVanFor 66 = .ok (.iaload, 1) := by decide +kernel
theorem dX2_firstVanFor_67 : decode cX2_firstVanFor 67 = .ok (.istore 4, 2) := by decide +kernel
theorem dX2_firstVanFor_69 : decode cX2_firstVanFor 69 = .ok (.iinc 5 1, 3) := by decide +kernel
theorem dX2_firstVanFor_72 : decode cX2_firstVanFor 72 = .ok (.goto (-63), 3) := by decide +kernel
theorem dX2_firstVanFor_75 : decode cX2_firstVanFor 75 = .ok (.iload_n 3, 1) := by decide +kernel
theorem dX2_firstVanFor_76 : decode cX2_firstVanFor 76 = .ok (.ireturn, 1) := by decide +kernel
theorem dX2_takes_0 : decode cX2_takes 0 = .ok (.aload_n 1, 1) := by decide +kernel
theorem dX2_takes_1 : decode cX2_takes 1 = .ok (.getfield 71, 3) := by decide +kernel
theorem dX2_takes_4 : decode cX2_takes 4 = .ok (.iload_n 2, 1) := by decide +kernel
theorem dX2_takes_5 : decode cX2_takes 5 = .ok (.iaload, 1) := by decide +kernel
theorem dX2_takes_6 : decode cX2_takes 6 = .ok (.aload_n 0, 1) := by decide +kernel
theorem dX2_takes_7 : decode cX2_takes 7 = .ok (.getfield 15, 3) := by decide +kernel
theorem dX2_takes_10 : decode cX2_takes 10 = .ok (.iload_n 3, 1) := by decide +kernel
theorem dX2_takes_11 : decode cX2_takes 11 = .ok (.iaload, 1) := by decide +kernel
theorem dX2_takes_12 : decode cX2_takes 12 = .ok (.isub, 1) := by decide +kernel
theorem dX2_takes_13 : decode cX2_takes 13 = .ok (.istore 4, 2) := by decide +kernel
theorem dX2_takes_15 : decode cX2_takes 15 = .ok (.iload 4, 2) := by decide +kernel
theorem dX2_takes_17 : decode cX2_takes 17 = .ok (.iconst 0, 1) := by decide +kernel
theorem dX2_takes_18 : decode cX2_takes 18 = .ok (.aload_n 1, 1) := by decide +kernel
theorem dX2_takes_19 : decode cX2_takes 19 = .ok (.getfield 78, 3) := by decide +kernel
theorem dX2_takes_22 : decode cX2_takes 22 = .ok (.iconst 1, 1) := by decide +kernel
theorem dX2_takes_23 : decode cX2_takes 23 = .ok (.iaload, 1) := by decide +kernel
theorem dX2_takes_24 : decode cX2_takes 24 = .ok (.invokestatic 81, 3) := by decide +kernel
theorem dX2_takes_27 : decode cX2_takes 27 = .ok (.ifCond .ne 5, 3) := by decide +kernel
theorem dX2_takes_30 : decode cX2_takes 30 = .ok (.iconst 0, 1) := by decide +kernel
theorem dX2_takes_31 : decode cX2_takes 31 = .ok (.ireturn, 1) := by decide +kernel
theorem dX2_takes_32 : decode cX2_takes 32 = .ok (.aload_n 0, 1) := by decide +kernel
theorem dX2_takes_33 : decode cX2_takes 33 = .ok (.getfield 21, 3) := by decide +kernel
theorem dX2_takes_36 : decode cX2_takes 36 = .ok (.iload_n 2, 1) := by decide +kernel
theorem dX2_takes_37 : decode cX2_takes 37 = .ok (.iaload, 1) := by decide +kernel
theorem dX2_takes_38 : decode cX2_takes 38 = .ok (.aload_n 1, 1) := by decide +kernel
theorem dX2_takes_39 : decode cX2_takes 39 = .ok (.getfield 57, 3) := by decide +kernel
theorem dX2_takes_42 : decode cX2_takes 42 = .ok (.iload_n 3, 1) := by decide +kernel
theorem dX2_takes_43 : decode cX2_takes 43 = .ok (.iaload, 1) := by decide +kernel
theorem dX2_takes_44 : decode cX2_takes 44 = .ok (.iadd, 1) := by decide +kernel
theorem dX2_takes_45 : decode cX2_takes 45 = .ok (.aload_n 1, 1) := by decide +kernel
theorem dX2_takes_46 : decode cX2_takes 46 = .ok (.getfield 85, 3) := by decide +kernel
theorem dX2_takes_49 : decode cX2_takes 49 = .ok (.iload_n 2, 1) := by decide +kernel
theorem dX2_takes_50 : decode cX2_takes 50 = .ok (.iaload, 1) := by decide +kernel
theorem dX2_takes_51 : decode cX2_takes 51 = .ok (.if_icmp .le 5, 3) := by decide +kernel
theorem dX2_takes_54 : decode cX2_takes 54 = .ok (.iconst 0, 1) := by decide +kernel
theorem dX2_takes_55 : decode cX2_takes 55 = .ok (.ireturn, 1) := by decide +kernel
theorem dX2_takes_56 : decode cX2_takes 56 = .ok (.aload_n 0, 1) := by decide +kernel
theorem dX2_takes_57 : decode cX2_takes 57 = .ok (.getfield 24, 3) := by decide +kernel
theorem dX2_takes_60 : decode cX2_takes 60 = .ok (.iload_n 2, 1) := by decide +kernel
theorem dX2_takes_61 : decode cX2_takes 61 = .ok (.iaload, 1) := by decide +kernel
theorem dX2_takes_62 : decode cX2_takes 62 = .ok (.iconst 1, 1) := by decide +kernel
theorem dX2_takes_63 : decode cX2_takes 63 = .ok (.aload_n 1, 1) := by decide +kernel
theorem dX2_takes_64 : decode cX2_takes 64 = .ok (.getfield 68, 3) := by decide +kernel
theorem dX2_takes_67 : decode cX2_takes 67 = .ok (.iload_n 3, 1) := by decide +kernel
theorem dX2_takes_68 : decode cX2_takes 68 = .ok (.iaload, 1) := by decide +kernel
theorem dX2_takes_69 : decode cX2_takes 69 = .ok (.ishl, 1) := by decide +kernel
theorem dX2_takes_70 : decode cX2_takes 70 = .ok (.ior, 1) := by decide +kernel
theorem dX2_takes_71 : decode cX2_takes 71 = .ok (.istore 5, 2) := by decide +kernel
theorem dX2_takes_73 : decode cX2_takes 73 = .ok (.iload 5, 2) := by decide +kernel
theorem dX2_takes_75 : decode cX2_takes 75 = .ok (.invokestatic 88, 3) := by decide +kernel
theorem dX2_takes_78 : decode cX2_takes 78 = .ok (.aload_n 1, 1) := by decide +kernel
theorem dX2_takes_79 : decode cX2_takes 79 = .ok (.getfield 78, 3) := by decide +kernel
theorem dX2_takes_82 : decode cX2_takes 82 = .ok (.iconst 2, 1) := by decide +kernel
theorem dX2_takes_83 : decode cX2_takes 83 = .ok (.iaload, 1) := by decide +kernel
theorem dX2_takes_84 : decode cX2_takes 84 = .ok (.if_icmp .gt 7, 3) := by decide +kernel
theorem dX2_takes_87 : decode cX2_takes 87 = .ok (.iconst 1, 1) := by decide +kernel
theorem dX2_takes_88 : decode cX2_takes 88 = .ok (.goto 4, 3) := by decide +kernel
theorem dX2_takes_91 : decode cX2_takes 91 = .ok (.iconst 0, 1) := by decide +kernel
theorem dX2_takes_92 : decode cX2_takes 92 = .ok (.ireturn, 1) := by decide +kernel
theorem dX2_waitOf_0 : decode cX2_waitOf 0 = .ok (.aload_n 0, 1) := by decide +kernel
theorem dX2_waitOf_1 : decode cX2_waitOf 1 = .ok (.getfield 18, 3) := by decide +kernel
theorem dX2_waitOf_4 : decode cX2_waitOf 4 = .ok (.iload_n 2, 1) := by decide +kernel
theorem dX2_waitOf_5 : decode cX2_waitOf 5 = .ok (.iaload, 1) := by decide +kernel
theorem dX2_waitOf_6 : decode cX2_waitOf 6 = .ok (.istore_n 3, 1) := by decide +kernel
theorem dX2_waitOf_7 : decode cX2_waitOf 7 = .ok (.iload_n 3, 1) := by decide +kernel
theorem dX2_waitOf_8 : decode cX2_waitOf 8 = .ok (.invokestatic 64, 3) := by decide +kernel
theorem dX2_waitOf_11 : decode cX2_waitOf 11 = .ok (.ifCond .eq 19, 3) := by decide +kernel
theorem dX2_waitOf_14 : decode cX2_waitOf 14 = .ok (.aload_n 1, 1) := by decide +kernel
theorem dX2_waitOf_15 : decode cX2_waitOf 15 = .ok (.getfield 71, 3) := by decide +kernel
theorem dX2_waitOf_18 : decode cX2_waitOf 18 = .ok (.iload_n 3, 1) := by decide +kernel
theorem dX2_waitOf_19 : decode cX2_waitOf 19 = .ok (.iaload, 1) := by decide +kernel
theorem dX2_waitOf_20 : decode cX2_waitOf 20 = .ok (.aload_n 0, 1) := by decide +kernel
theorem dX2_waitOf_21 : decode cX2_waitOf 21 = .ok (.getfield 15, 3) := by decide +kernel
theorem dX2_waitOf_24 : decode cX2_waitOf 24 = .ok (.iload_n 2, 1) := by decide +kernel
theorem dX2_waitOf_25 : decode cX2_waitOf 25 = .ok (.iaload, 1) := by decide +kernel
theorem dX2_waitOf_26 : decode cX2_waitOf 26 = .ok (.isub, 1) := by decide +kernel
theorem dX2_waitOf_27 : decode cX2_waitOf 27 = .ok (.goto 5, 3) := by decide +kernel
theorem dX2_waitOf_30 : decode cX2_waitOf 30 = .ok (.bipush (-106), 2) := by decide +kernel
theorem dX2_waitOf_32 : decode cX2_waitOf 32 = .ok (.ireturn, 1) := by decide +kernel
theorem dX2_isAtKerb_0 : decode cX2_isAtKerb 0 = .ok (.aload_n 0, 1) := by decide +kernel
theorem dX2_isAtKerb_1 : decode cX2_isAtKerb 1 = .ok (.getfield 15, 3) := by decide +kernel
theorem dX2_isAtKerb_4 : decode cX2_isAtKerb 4 = .ok (.iload_n 2, 1) := by decide +kernel
theorem dX2_isAtKerb_5 : decode cX2_isAtKerb 5 = .ok (.iaload, 1) := by decide +kernel
theorem dX2_isAtKerb_6 : decode cX2_isAtKerb 6 = .ok (.iload_n 3, 1) := by decide +kernel
theorem dX2_isAtKerb_7 : decode cX2_isAtKerb 7 = .ok (.if_icmp .le 5, 3) := by decide +kernel
theorem dX2_isAtKerb_10 : decode cX2_isAtKerb 10 = .ok (.iconst 0, 1) := by decide +kernel
theorem dX2_isAtKerb_11 : decode cX2_isAtKerb 11 = .ok (.ireturn, 1) := by decide +kernel
theorem dX2_isAtKerb_12 : decode cX2_isAtKerb 12 = .ok (.aload_n 0, 1) := by decide +kernel
theorem dX2_isAtKerb_13 : decode cX2_isAtKerb 13 = .ok (.getfield 18, 3) := by decide +kernel
theorem dX2_isAtKerb_16 : decode cX2_isAtKerb 16 = .ok (.iload_n 2, 1) := by decide +kernel
theorem dX2_isAtKerb_17 : decode cX2_isAtKerb 17 = .ok (.iaload, 1) := by decide +kernel
theorem dX2_isAtKerb_18 : decode cX2_isAtKerb 18 = .ok (.istore 4, 2) := by decide +kernel
theorem dX2_isAtKerb_20 : decode cX2_isAtKerb 20 = .ok (.iload 4, 2) := by decide +kernel
theorem dX2_isAtKerb_22 : decode cX2_isAtKerb 22 = .ok (.invokestatic 64, 3) := by decide +kernel
theorem dX2_isAtKerb_25 : decode cX2_isAtKerb 25 = .ok (.ifCond .eq 20, 3) := by decide +kernel
theorem dX2_isAtKerb_28 : decode cX2_isAtKerb 28 = .ok (.aload_n 1, 1) := by decide +kernel
theorem dX2_isAtKerb_29 : decode cX2_isAtKerb 29 = .ok (.getfield 71, 3) := by decide +kernel
theorem dX2_isAtKerb_32 : decode cX2_isAtKerb 32 = .ok (.iload 4, 2) := by decide +kernel
theorem dX2_isAtKerb_34 : decode cX2_isAtKerb 34 = .ok (.iaload, 1) := by decide +kernel
theorem dX2_isAtKerb_35 : decode cX2_isAtKerb 35 = .ok (.iload_n 3, 1) := by decide +kernel
theorem dX2_isAtKerb_36 : decode cX2_isAtKerb 36 = .ok (.if_icmp .le 7, 3) := by decide +kernel
theorem dX2_isAtKerb_39 : decode cX2_isAtKerb 39 = .ok (.iconst 1, 1) := by decide +kernel
theorem dX2_isAtKerb_40 : decode cX2_isAtKerb 40 = .ok (.goto 4, 3) := by decide +kernel
theorem dX2_isAtKerb_43 : decode cX2_isAtKerb 43 = .ok (.iconst 0, 1) := by decide +kernel
theorem dX2_isAtKerb_44 : decode cX2_isAtKerb 44 = .ok (.ireturn, 1) := by decide +kernel
theorem dX2_isAtKerb_45 : decode cX2_isAtKerb 45 = .ok (.iload_n 3, 1) := by decide +kernel
theorem dX2_isAtKerb_46 : decode cX2_isAtKerb 46 = .ok (.aload_n 0, 1) := by decide +kernel
theorem dX2_isAtKerb_47 : decode cX2_isAtKerb 47 = .ok (.getfield 15, 3) := by decide +kernel
theorem dX2_isAtKerb_50 : decode cX2_isAtKerb 50 = .ok (.iload_n 2, 1) := by decide +kernel
theorem dX2_isAtKerb_51 : decode cX2_isAtKerb 51 = .ok (.iaload, 1) := by decide +kernel
theorem dX2_isAtKerb_52 : decode cX2_isAtKerb 52 = .ok (.isub, 1) := by decide +kernel
theorem dX2_isAtKerb_53 : decode cX2_isAtKerb 53 = .ok (.aload_n 1, 1) := by decide +kernel
theorem dX2_isAtKerb_54 : decode cX2_isAtKerb 54 = .ok (.getfield 78, 3) := by decide +kernel
theorem dX2_isAtKerb_57 : decode cX2_isAtKerb 57 = .ok (.iconst 1, 1) := by decide +kernel
theorem dX2_isAtKerb_58 : decode cX2_isAtKerb 58 = .ok (.iaload, 1) := by decide +kernel
theorem dX2_isAtKerb_59 : decode cX2_isAtKerb 59 = .ok (.if_icmp .gt 7, 3) := by decide +kernel
theorem dX2_isAtKerb_62 : decode cX2_isAtKerb 62 = .ok (.iconst 1, 1) := by decide +kernel
theorem dX2_isAtKerb_63 : decode cX2_isAtKerb 63 = .ok (.goto 4, 3) := by decide +kernel
theorem dX2_isAtKerb_66 : decode cX2_isAtKerb 66 = .ok (.iconst 0, 1) := by decide +kernel
theorem dX2_isAtKerb_67 : decode cX2_isAtKerb 67 = .ok (.ireturn, 1) := by decide +kernel
theorem dX2_ridersIn_0 : decode cX2_ridersIn 0 = .ok (.iconst 0, 1) := by decide +kernel
theorem dX2_ridersIn_1 : decode cX2_ridersIn 1 = .ok (.istore_n 3, 1) := by decide +kernel
theorem dX2_ridersIn_2 : decode cX2_ridersIn 2 = .ok (.iconst 0, 1) := by decide +kernel
theorem dX2_ridersIn_3 : decode cX2_ridersIn 3 = .ok (.istore 4, 2) := by decide +kernel
theorem dX2_ridersIn_5 : decode cX2_ridersIn 5 = .ok (.iload 4, 2) := by decide +kernel
theorem dX2_ridersIn_7 : decode cX2_ridersIn 7 = .ok (.aload_n 1, 1) := by decide +kernel
theorem dX2_ridersIn_8 : decode cX2_ridersIn 8 = .ok (.getfield 34, 3) := by decide +kernel
theorem dX2_ridersIn_11 : decode cX2_ridersIn 11 = .ok (.if_icmp .ge 27, 3) := by decide +kernel
theorem dX2_ridersIn_14 : decode cX2_ridersIn 14 = .ok (.aload_n 0, 1) := by decide +kernel
theorem dX2_ridersIn_15 : decode cX2_ridersIn 15 = .ok (.getfield 18, 3) := by decide +kernel
theorem dX2_ridersIn_18 : decode cX2_ridersIn 18 = .ok (.iload 4, 2) := by decide +kernel
theorem dX2_ridersIn_20 : decode cX2_ridersIn 20 = .ok (.iaload, 1) := by decide +kernel
theorem dX2_ridersIn_21 : decode cX2_ridersIn 21 = .ok (.iload_n 2, 1) := by decide +kernel
theorem dX2_ridersIn_22 : decode cX2_ridersIn 22 = .ok (.if_icmp .ne 10, 3) := by decide +kernel
theorem dX2_ridersIn_25 : decode cX2_ridersIn 25 = .ok (.iload_n 3, 1) := by decide +kernel
theorem dX2_ridersIn_26 : decode cX2_ridersIn 26 = .ok (.iconst 1, 1) := by decide +kernel
theorem dX2_ridersIn_27 : decode cX2_ridersIn 27 = .ok (.iload 4, 2) := by decide +kernel
theorem dX2_ridersIn_29 : decode cX2_ridersIn 29 = .ok (.ishl, 1) := by decide +kernel
theorem dX2_ridersIn_30 : decode cX2_ridersIn 30 = .ok (.ior, 1) := by decide +kernel
theorem dX2_ridersIn_31 : decode cX2_ridersIn 31 = .ok (.istore_n 3, 1) := by decide +kernel
theorem dX2_ridersIn_32 : decode cX2_ridersIn 32 = .ok (.iinc 4 1, 3) := by decide +kernel
theorem dX2_ridersIn_35 : decode cX2_ridersIn 35 = .ok (.goto (-30), 3) := by decide +kernel
theorem dX2_ridersIn_38 : decode cX2_ridersIn 38 = .ok (.iload_n 3, 1) := by decide +kernel
theorem dX2_ridersIn_39 : decode cX2_ridersIn 39 = .ok (.ireturn, 1) := by decide +kernel
theorem dX2_vansWithRiders_0 : decode cX2_vansWithRiders 0 = .ok (.iconst 0, 1) := by decide +kernel
theorem dX2_vansWithRiders_1 : decode cX2_vansWithRiders 1 = .ok (.istore_n 1, 1) := by decide +kernel
theorem dX2_vansWithRiders_2 : decode cX2_vansWithRiders 2 = .ok (.iconst 0, 1) := by decide +kernel
theorem dX2_vansWithRiders_3 : decode cX2_vansWithRiders 3 = .ok (.istore_n 2, 1) := by decide +kernel
theorem dX2_vansWithRiders_4 : decode cX2_vansWithRiders 4 = .ok (.iload_n 2, 1) := by decide +kernel
theorem dX2_vansWithRiders_5 : decode cX2_vansWithRiders 5 = .ok (.bipush 8, 2) := by decide +kernel
theorem dX2_vansWithRiders_7 : decode cX2_vansWithRiders 7 = .ok (.if_icmp .ge 21, 3) := by decide +kernel
theorem dX2_vansWithRiders_10 : decode cX2_vansWithRiders 10 = .ok (.aload_n 0, 1) := by decide +kernel
theorem dX2_vansWithRiders_11 : decode cX2_vansWithRiders 11 = .ok (.getfield 21, 3) := by decide +kernel
theorem dX2_vansWithRiders_14 : decode cX2_vansWithRiders 14 = .ok (.iload_n 2, 1) := by decide +kernel
theorem dX2_vansWithRiders_15 : decode cX2_vansWithRiders 15 = .ok (.iaload, 1) := by decide +kernel
theorem dX2_vansWithRiders_16 : decode cX2_vansWithRiders 16 = .ok (.ifCond .le 6, 3) := by decide +kernel
theorem dX2_vansWithRiders_19 : decode cX2_vansWithRiders 19 = .ok (.iinc 1 1, 3) := by decide +kernel
theorem dX2_vansWithRiders_22 : decode cX2_vansWithRiders 22 = .ok (.iinc 2 1, 3) := by decide +kernel
theorem dX2_vansWithRiders_25 : decode cX2_vansWithRiders 25 = .ok (.goto (-21), 3) := by decide +kernel
theorem dX2_vansWithRiders_28 : decode cX2_vansWithRiders 28 = .ok (.iload_n 1, 1) := by decide +kernel
theorem dX2_vansWithRiders_29 : decode cX2_vansWithRiders 29 = .ok (.ireturn, 1) := by decide +kernel
theorem dX2_peopleOfFlight_0 : decode cX2_peopleOfFlight 0 = .ok (.iconst 0, 1) := by decide +kernel
theorem dX2_peopleOfFlight_1 : decode cX2_peopleOfFlight 1 = .ok (.istore 4, 2) := by decide +kernel
theorem dX2_peopleOfFlight_3 : decode cX2_peopleOfFlight 3 = .ok (.iconst 0, 1) := by decide +kernel
theorem dX2_peopleOfFlight_4 : decode cX2_peopleOfFlight 4 = .ok (.istore 5, 2) := by decide +kernel
theorem dX2_peopleOfFlight_6 : decode cX2_peopleOfFlight 6 = .ok (.iload 5, 2) := by decide +kernel
theorem dX2_peopleOfFlight_8 : decode cX2_peopleOfFlight 8 = .ok (.aload_n 1, 1) := by decide +kernel
theorem dX2_peopleOfFlight_9 : decode cX2_peopleOfFlight 9 = .ok (.getfield 34, 3) := by decide +kernel
theorem dX2_peopleOfFlight_12 : decode cX2_peopleOfFlight 12 = .ok (.if_icmp .ge 60, 3) := by decide +kernel
theorem dX2_peopleOfFlight_15 : decode cX2_peopleOfFlight 15 = .ok (.iload_n 3, 1) := by decide +kernel
theorem dX2_peopleOfFlight_16 : decode cX2_peopleOfFlight 16 = .ok (.ifCond .eq 15, 3) := by decide +kernel
theorem dX2_peopleOfFlight_19 : decode cX2_peopleOfFlight 19 = .ok (.aload_n 0, 1) := by decide +kernel
theorem dX2_peopleOfFlight_20 : decode cX2_peopleOfFlight 20 = .ok (.getfield 18, 3) := by decide +kernel
theorem dX2_peopleOfFlight_23 : decode cX2_peopleOfFlight 23 = .ok (.iload 5, 2) := by decide +kernel
theorem dX2_peopleOfFlight_25 : decode cX2_peopleOfFlight 25 = .ok (.iaload, 1) := by decide +kernel
theorem dX2_peopleOfFlight_26 : decode cX2_peopleOfFlight 26 = .ok (.bipush (-106), 2) := by decide +kernel
theorem dX2_peopleOfFlight_28 : decode cX2_peopleOfFlight 28 = .ok (.if_icmp .ne 7, 3) := by decide +kernel
theorem dX2_peopleOfFlight_31 : decode cX2_peopleOfFlight 31 = .ok (.iconst 1, 1) := by decide +kernel
theorem dX2_peopleOfFlight_32 : decode cX2_peopleOfFlight 32 = .ok (.goto 4, 3) := by decide +kernel
theorem dX2_peopleOfFlight_35 : decode cX2_peopleOfFlight 35 = .ok (.iconst 0, 1) := by decide +kernel
theorem dX2_peopleOfFlight_36 : decode cX2_peopleOfFlight 36 = .ok (.istore 6, 2) := by decide +kernel
theorem dX2_peopleOfFlight_38 : decode cX2_peopleOfFlight 38 = .ok (.iload 6, 2) := by decide +kernel
theorem dX2_peopleOfFlight_40 : decode cX2_peopleOfFlight 40 = .ok (.ifCond .eq 26, 3) := by decide +kernel
theorem dX2_peopleOfFlight_43 : decode cX2_peopleOfFlight 43 = .ok (.aload_n 1, 1) := by decide +kernel
theorem dX2_peopleOfFlight_44 : decode cX2_peopleOfFlight 44 = .ok (.getfield 93, 3) := by decide +kernel
theorem dX2_peopleOfFlight_47 : decode cX2_peopleOfFlight 47 = .ok (.iload 5, 2) := by decide +kernel
theorem dX2_peopleOfFlight_49 : decode cX2_peopleOfFlight 49 = .ok (.iaload, 1) := by decide +kernel
theorem dX2_peopleOfFlight_50 : decode cX2_peopleOfFlight 50 = .ok (.iload_n 2, 1) := by decide +kernel
theorem dX2_peopleOfFlight_51 : decode cX2_peopleOfFlight 51 = .ok (.if_icmp .ne 15, 3) := by decide +kernel
theorem dX2_peopleOfFlight_54 : decode cX2_peopleOfFlight 54 = .ok (.iload 4, 2) := by decide +kernel
theorem dX2_peopleOfFlight_56 : decode cX2_peopleOfFlight 56 = .ok (.aload_n 1, 1) := by decide +kernel
theorem dX2_peopleOfFlight_57 : decode cX2_peopleOfFlight 57 = .ok (.getfield 57, 3) := by decide +kernel
theorem dX2_peopleOfFlight_60 : decode cX2_peopleOfFlight 60 = .ok (.iload 5, 2) := by decide +kernel
theorem dX2_peopleOfFlight_62 : decode cX2_peopleOfFlight 62 = .ok (.iaload, 1) := by decide +kernel
theorem dX2_peopleOfFlight_63 : decode cX2_peopleOfFlight 63 = .ok (.iadd, 1) := by decide +kernel
theorem dX2_peopleOfFlight_64 : decode cX2_peopleOfFlight 64 = .ok (.istore 4, 2) := by decide +kernel
theorem dX2_peopleOfFlight_66 : decode cX2_peopleOfFlight 66 = .ok (.iinc 5 1, 3) := by decide +kernel
theorem dX2_peopleOfFlight_69 : decode cX2_peopleOfFlight 69 = .ok (.goto (-63), 3) := by decide +kernel
theorem dX2_peopleOfFlight_72 : decode cX2_peopleOfFlight 72 = .ok (.iload 4, 2) := by decide +kernel
theorem dX2_peopleOfFlight_74 : decode cX2_peopleOfFlight 74 = .ok (.ireturn, 1) := by decide +kernel
theorem dX2_othersAtStop_0 : decode cX2_othersAtStop 0 = .ok (.aload_n 0, 1) := by decide +kernel
theorem dX2_othersAtStop_1 : decode cX2_othersAtStop 1 = .ok (.getfield 18, 3) := by decide +kernel
theorem dX2_othersAtStop_4 : decode cX2_othersAtStop 4 = .ok (.iload_n 2, 1) := by decide +kernel
theorem dX2_othersAtStop_5 : decode cX2_othersAtStop 5 = .ok (.iaload, 1) := by decide +kernel
theorem dX2_othersAtStop_6 : decode cX2_othersAtStop 6 = .ok (.bipush (-106), 2) := by decide +kernel
theorem dX2_othersAtStop_8 : decode cX2_othersAtStop 8 = .ok (.if_icmp .ne 5, 3) := by decide +kernel
theorem dX2_othersAtStop_11 : decode cX2_othersAtStop 11 = .ok (.iconst 0, 1) := by decide +kernel
theorem dX2_othersAtStop_12 : decode cX2_othersAtStop 12 = .ok (.ireturn, 1) := by decide +kernel
theorem dX2_othersAtStop_13 : decode cX2_othersAtStop 13 = .ok (.iconst 0, 1) := by decide +kernel
theorem dX2_othersAtStop_14 : decode cX2_othersAtStop 14 = .ok (.istore_n 3, 1) := by decide +kernel
theorem dX2_othersAtStop_15 : decode cX2_othersAtStop 15 = .ok (.iconst 0, 1) := by decide +kernel
theorem dX2_othersAtStop_16 : decode cX2_othersAtStop 16 = .ok (.istore 4, 2) := by decide +kernel
theorem dX2_othersAtStop_18 : decode cX2_othersAtStop 18 = .ok (.iload 4, 2) := by decide +kernel
theorem dX2_othersAtStop_20 : decode cX2_othersAtStop 20 = .ok (.aload_n 1, 1) := by decide +kernel
theorem dX2_othersAtStop_21 : decode cX2_othersAtStop 21 = .ok (.getfield 34, 3) := by decide +kernel
theorem dX2_othersAtStop_24 : decode cX2_othersAtStop 24 = .ok (.if_icmp .ge 30, 3) := by decide +kernel
theorem dX2_othersAtStop_27 : decode cX2_othersAtStop 27 = .ok (.iload 4, 2) := by decide +kernel
end
section
theorem dX2_othersAtStop_29 : decode cX2_othersAtStop 29 = .ok (.iload_n 2, 1) := by decide +kernel
theorem dX2_othersAtStop_30 : decode cX2_othersAtStop 30 = .ok (.if_icmp .eq 18, 3) := by decide +kernel
theorem dX2_othersAtStop_33 : decode cX2_othersAtStop 33 = .ok (.aload_n 0, 1) := by decide +kernel
theorem dX2_othersAtStop_34 : decode cX2_othersAtStop 34 = .ok (.aload_n 1, 1) := by decide +kernel
theorem dX2_othersAtStop_35 : decode cX2_othersAtStop 35 = .ok (.iload_n 2, 1) := by decide +kernel
theorem dX2_othersAtStop_36 : decode cX2_othersAtStop 36 = .ok (.iload 4, 2) := by decide +kernel
theorem dX2_othersAtStop_38 : decode cX2_othersAtStop 38 = .ok (.iconst 1, 1) := by decide +kernel
theorem dX2_othersAtStop_39 : decode cX2_othersAtStop 39 = .ok (.invokevirtual 96, 3) := by decide +kernel
theorem dX2_othersAtStop_42 : decode cX2_othersAtStop 42 = .ok (.ifCond .eq 6, 3) := by decide +kernel
theorem dX2_othersAtStop_45 : decode cX2_othersAtStop 45 = .ok (.iinc 3 1, 3) := by decide +kernel
theorem dX2_othersAtStop_48 : decode cX2_othersAtStop 48 = .ok (.iinc 4 1, 3) := by decide +kernel
theorem dX2_othersAtStop_51 : decode cX2_othersAtStop 51 = .ok (.goto (-33), 3) := by decide +kernel
theorem dX2_othersAtStop_54 : decode cX2_othersAtStop 54 = .ok (.iload_n 3, 1) := by decide +kernel
theorem dX2_othersAtStop_55 : decode cX2_othersAtStop 55 = .ok (.ireturn, 1) := by decide +kernel
theorem dX2_faresOf_0 : decode cX2_faresOf 0 = .ok (.iconst 0, 1) := by decide +kernel
theorem dX2_faresOf_1 : decode cX2_faresOf 1 = .ok (.istore_n 3, 1) := by decide +kernel
theorem dX2_faresOf_2 : decode cX2_faresOf 2 = .ok (.iconst 0, 1) := by decide +kernel
theorem dX2_faresOf_3 : decode cX2_faresOf 3 = .ok (.istore 4, 2) := by decide +kernel
theorem dX2_faresOf_5 : decode cX2_faresOf 5 = .ok (.iload 4, 2) := by decide +kernel
theorem dX2_faresOf_7 : decode cX2_faresOf 7 = .ok (.aload_n 1, 1) := by decide +kernel
theorem dX2_faresOf_8 : decode cX2_faresOf 8 = .ok (.getfield 34, 3) := by decide +kernel
theorem dX2_faresOf_11 : decode cX2_faresOf 11 = .ok (.if_icmp .ge 30, 3) := by decide +kernel
theorem dX2_faresOf_14 : decode cX2_faresOf 14 = .ok (.aload_n 0, 1) := by decide +kernel
theorem dX2_faresOf_15 : decode cX2_faresOf 15 = .ok (.getfield 18, 3) := by decide +kernel
theorem dX2_faresOf_18 : decode cX2_faresOf 18 = .ok (.iload 4, 2) := by decide +kernel
theorem dX2_faresOf_20 : decode cX2_faresOf 20 = .ok (.iaload, 1) := by decide +kernel
theorem dX2_faresOf_21 : decode cX2_faresOf 21 = .ok (.iload_n 2, 1) := by decide +kernel
theorem dX2_faresOf_22 : decode cX2_faresOf 22 = .ok (.if_icmp .ne 13, 3) := by decide +kernel
theorem dX2_faresOf_25 : decode cX2_faresOf 25 = .ok (.iload_n 3, 1) := by decide +kernel
theorem dX2_faresOf_26 : decode cX2_faresOf 26 = .ok (.aload_n 0, 1) := by decide +kernel
theorem dX2_faresOf_27 : decode cX2_faresOf 27 = .ok (.aload_n 1, 1) := by decide +kernel
theorem dX2_faresOf_28 : decode cX2_faresOf 28 = .ok (.iload 4, 2) := by decide +kernel
theorem dX2_faresOf_30 : decode cX2_faresOf 30 = .ok (.invokevirtual 100, 3) := by decide +kernel
theorem dX2_faresOf_33 : decode cX2_faresOf 33 = .ok (.iadd, 1) := by decide +kernel
theorem dX2_faresOf_34 : decode cX2_faresOf 34 = .ok (.istore_n 3, 1) := by decide +kernel
theorem dX2_faresOf_35 : decode cX2_faresOf 35 = .ok (.iinc 4 1, 3) := by decide +kernel
theorem dX2_faresOf_38 : decode cX2_faresOf 38 = .ok (.goto (-33), 3) := by decide +kernel
theorem dX2_faresOf_41 : decode cX2_faresOf 41 = .ok (.iload_n 3, 1) := by decide +kernel
theorem dX2_faresOf_42 : decode cX2_faresOf 42 = .ok (.ireturn, 1) := by decide +kernel
theorem dX2_fare_0 : decode cX2_fare 0 = .ok (.aload_n 0, 1) := by decide +kernel
theorem dX2_fare_1 : decode cX2_fare 1 = .ok (.getfield 18, 3) := by decide +kernel
theorem dX2_fare_4 : decode cX2_fare 4 = .ok (.iload_n 2, 1) := by decide +kernel
theorem dX2_fare_5 : decode cX2_fare 5 = .ok (.iaload, 1) := by decide +kernel
theorem dX2_fare_6 : decode cX2_fare 6 = .ok (.bipush (-106), 2) := by decide +kernel
theorem dX2_fare_8 : decode cX2_fare 8 = .ok (.if_icmp .ne 5, 3) := by decide +kernel
theorem dX2_fare_11 : decode cX2_fare 11 = .ok (.iconst 0, 1) := by decide +kernel
theorem dX2_fare_12 : decode cX2_fare 12 = .ok (.ireturn, 1) := by decide +kernel
theorem dX2_fare_13 : decode cX2_fare 13 = .ok (.aload_n 0, 1) := by decide +kernel
theorem dX2_fare_14 : decode cX2_fare 14 = .ok (.aload_n 1, 1) := by decide +kernel
theorem dX2_fare_15 : decode cX2_fare 15 = .ok (.iload_n 2, 1) := by decide +kernel
theorem dX2_fare_16 : decode cX2_fare 16 = .ok (.iconst 3, 1) := by decide +kernel
theorem dX2_fare_17 : decode cX2_fare 17 = .ok (.iconst 0, 1) := by decide +kernel
theorem dX2_fare_18 : decode cX2_fare 18 = .ok (.invokevirtual 103, 3) := by decide +kernel
theorem dX2_fare_21 : decode cX2_fare 21 = .ok (.aload_n 0, 1) := by decide +kernel
theorem dX2_fare_22 : decode cX2_fare 22 = .ok (.aload_n 1, 1) := by decide +kernel
theorem dX2_fare_23 : decode cX2_fare 23 = .ok (.iload_n 2, 1) := by decide +kernel
theorem dX2_fare_24 : decode cX2_fare 24 = .ok (.iconst 4, 1) := by decide +kernel
theorem dX2_fare_25 : decode cX2_fare 25 = .ok (.iconst 1, 1) := by decide +kernel
theorem dX2_fare_26 : decode cX2_fare 26 = .ok (.invokevirtual 103, 3) := by decide +kernel
theorem dX2_fare_29 : decode cX2_fare 29 = .ok (.iadd, 1) := by decide +kernel
theorem dX2_fare_30 : decode cX2_fare 30 = .ok (.ireturn, 1) := by decide +kernel
theorem dX2_share_0 : decode cX2_share 0 = .ok (.aload_n 1, 1) := by decide +kernel
theorem dX2_share_1 : decode cX2_share 1 = .ok (.getfield 78, 3) := by decide +kernel
theorem dX2_share_4 : decode cX2_share 4 = .ok (.iload_n 3, 1) := by decide +kernel
theorem dX2_share_5 : decode cX2_share 5 = .ok (.iaload, 1) := by decide +kernel
theorem dX2_share_6 : decode cX2_share 6 = .ok (.istore 5, 2) := by decide +kernel
theorem dX2_share_8 : decode cX2_share 8 = .ok (.iconst 0, 1) := by decide +kernel
theorem dX2_share_9 : decode cX2_share 9 = .ok (.istore 6, 2) := by decide +kernel
theorem dX2_share_11 : decode cX2_share 11 = .ok (.iconst 0, 1) := by decide +kernel
theorem dX2_share_12 : decode cX2_share 12 = .ok (.istore 7, 2) := by decide +kernel
theorem dX2_share_14 : decode cX2_share 14 = .ok (.iload 7, 2) := by decide +kernel
theorem dX2_share_16 : decode cX2_share 16 = .ok (.aload_n 1, 1) := by decide +kernel
theorem dX2_share_17 : decode cX2_share 17 = .ok (.getfield 34, 3) := by decide +kernel
theorem dX2_share_20 : decode cX2_share 20 = .ok (.if_icmp .ge 34, 3) := by decide +kernel
theorem dX2_share_23 : decode cX2_share 23 = .ok (.aload_n 0, 1) := by decide +kernel
theorem dX2_share_24 : decode cX2_share 24 = .ok (.aload_n 1, 1) := by decide +kernel
theorem dX2_share_25 : decode cX2_share 25 = .ok (.iload_n 2, 1) := by decide +kernel
theorem dX2_share_26 : decode cX2_share 26 = .ok (.iload 7, 2) := by decide +kernel
theorem dX2_share_28 : decode cX2_share 28 = .ok (.iload 4, 2) := by decide +kernel
theorem dX2_share_30 : decode cX2_share 30 = .ok (.invokevirtual 96, 3) := by decide +kernel
theorem dX2_share_33 : decode cX2_share 33 = .ok (.ifCond .eq 15, 3) := by decide +kernel
theorem dX2_share_36 : decode cX2_share 36 = .ok (.iload 6, 2) := by decide +kernel
theorem dX2_share_38 : decode cX2_share 38 = .ok (.aload_n 1, 1) := by decide +kernel
theorem dX2_share_39 : decode cX2_share 39 = .ok (.getfield 57, 3) := by decide +kernel
theorem dX2_share_42 : decode cX2_share 42 = .ok (.iload 7, 2) := by decide +kernel
theorem dX2_share_44 : decode cX2_share 44 = .ok (.iaload, 1) := by decide +kernel
theorem dX2_share_45 : decode cX2_share 45 = .ok (.iadd, 1) := by decide +kernel
theorem dX2_share_46 : decode cX2_share 46 = .ok (.istore 6, 2) := by decide +kernel
theorem dX2_share_48 : decode cX2_share 48 = .ok (.iinc 7 1, 3) := by decide +kernel
theorem dX2_share_51 : decode cX2_share 51 = .ok (.goto (-37), 3) := by decide +kernel
theorem dX2_share_54 : decode cX2_share 54 = .ok (.iload 6, 2) := by decide +kernel
theorem dX2_share_56 : decode cX2_share 56 = .ok (.ifCond .gt 5, 3) := by decide +kernel
theorem dX2_share_59 : decode cX2_share 59 = .ok (.iconst 0, 1) := by decide +kernel
theorem dX2_share_60 : decode cX2_share 60 = .ok (.ireturn, 1) := by decide +kernel
theorem dX2_share_61 : decode cX2_share 61 = .ok (.iload 5, 2) := by decide +kernel
theorem dX2_share_63 : decode cX2_share 63 = .ok (.istore 7, 2) := by decide +kernel
theorem dX2_share_65 : decode cX2_share 65 = .ok (.iconst 0, 1) := by decide +kernel
theorem dX2_share_66 : decode cX2_share 66 = .ok (.istore 8, 2) := by decide +kernel
theorem dX2_share_68 : decode cX2_share 68 = .ok (.iconst 0, 1) := by decide +kernel
theorem dX2_share_69 : decode cX2_share 69 = .ok (.istore 9, 2) := by decide +kernel
theorem dX2_share_71 : decode cX2_share 71 = .ok (.iload 9, 2) := by decide +kernel
theorem dX2_share_73 : decode cX2_share 73 = .ok (.aload_n 1, 1) := by decide +kernel
theorem dX2_share_74 : decode cX2_share 74 = .ok (.getfield 34, 3) := by decide +kernel
theorem dX2_share_77 : decode cX2_share 77 = .ok (.if_icmp .ge 56, 3) := by decide +kernel
theorem dX2_share_80 : decode cX2_share 80 = .ok (.aload_n 0, 1) := by decide +kernel
theorem dX2_share_81 : decode cX2_share 81 = .ok (.aload_n 1, 1) := by decide +kernel
theorem dX2_share_82 : decode cX2_share 82 = .ok (.iload_n 2, 1) := by decide +kernel
theorem dX2_share_83 : decode cX2_share 83 = .ok (.iload 9, 2) := by decide +kernel
theorem dX2_share_85 : decode cX2_share 85 = .ok (.iload 4, 2) := by decide +kernel
theorem dX2_share_87 : decode cX2_share 87 = .ok (.invokevirtual 96, 3) := by decide +kernel
theorem dX2_share_90 : decode cX2_share 90 = .ok (.ifCond .eq 37, 3) := by decide +kernel
theorem dX2_share_93 : decode cX2_share 93 = .ok (.iload 7, 2) := by decide +kernel
theorem dX2_share_95 : decode cX2_share 95 = .ok (.iload 5, 2) := by decide +kernel
theorem dX2_share_97 : decode cX2_share 97 = .ok (.aload_n 1, 1) := by decide +kernel
theorem dX2_share_98 : decode cX2_share 98 = .ok (.getfield 57, 3) := by decide +kernel
theorem dX2_share_101 : decode cX2_share 101 = .ok (.iload 9, 2) := by decide +kernel
theorem dX2_share_103 : decode cX2_share 103 = .ok (.iaload, 1) := by decide +kernel
theorem dX2_share_104 : decode cX2_share 104 = .ok (.imul, 1) := by decide +kernel
theorem dX2_share_105 : decode cX2_share 105 = .ok (.iload 6, 2) := by decide +kernel
theorem dX2_share_107 : decode cX2_share 107 = .ok (.idiv, 1) := by decide +kernel
theorem dX2_share_108 : decode cX2_share 108 = .ok (.isub, 1) := by decide +kernel
theorem dX2_share_109 : decode cX2_share 109 = .ok (.istore 7, 2) := by decide +kernel
theorem dX2_share_111 : decode cX2_share 111 = .ok (.iload 8, 2) := by decide +kernel
theorem dX2_share_113 : decode cX2_share 113 = .ok (.iload 9, 2) := by decide +kernel
theorem dX2_share_115 : decode cX2_share 115 = .ok (.iload_n 2, 1) := by decide +kernel
theorem dX2_share_116 : decode cX2_share 116 = .ok (.if_icmp .ge 7, 3) := by decide +kernel
theorem dX2_share_119 : decode cX2_share 119 = .ok (.iconst 1, 1) := by decide +kernel
theorem dX2_share_120 : decode cX2_share 120 = .ok (.goto 4, 3) := by decide +kernel
theorem dX2_share_123 : decode cX2_share 123 = .ok (.iconst 0, 1) := by decide +kernel
theorem dX2_share_124 : decode cX2_share 124 = .ok (.iadd, 1) := by decide +kernel
theorem dX2_share_125 : decode cX2_share 125 = .ok (.istore 8, 2) := by decide +kernel
theorem dX2_share_127 : decode cX2_share 127 = .ok (.iinc 9 1, 3) := by decide +kernel
theorem dX2_share_130 : decode cX2_share 130 = .ok (.goto (-59), 3) := by decide +kernel
theorem dX2_share_133 : decode cX2_share 133 = .ok (.iload 5, 2) := by decide +kernel
theorem dX2_share_135 : decode cX2_share 135 = .ok (.aload_n 1, 1) := by decide +kernel
theorem dX2_share_136 : decode cX2_share 136 = .ok (.getfield 57, 3) := by decide +kernel
theorem dX2_share_139 : decode cX2_share 139 = .ok (.iload_n 2, 1) := by decide +kernel
theorem dX2_share_140 : decode cX2_share 140 = .ok (.iaload, 1) := by decide +kernel
theorem dX2_share_141 : decode cX2_share 141 = .ok (.imul, 1) := by decide +kernel
theorem dX2_share_142 : decode cX2_share 142 = .ok (.iload 6, 2) := by decide +kernel
theorem dX2_share_144 : decode cX2_share 144 = .ok (.idiv, 1) := by decide +kernel
theorem dX2_share_145 : decode cX2_share 145 = .ok (.istore 9, 2) := by decide +kernel
theorem dX2_share_147 : decode cX2_share 147 = .ok (.iload 8, 2) := by decide +kernel
theorem dX2_share_149 : decode cX2_share 149 = .ok (.iload 7, 2) := by decide +kernel
theorem dX2_share_151 : decode cX2_share 151 = .ok (.if_icmp .ge 10, 3) := by decide +kernel
theorem dX2_share_154 : decode cX2_share 154 = .ok (.iload 9, 2) := by decide +kernel
theorem dX2_share_156 : decode cX2_share 156 = .ok (.iconst 1, 1) := by decide +kernel
theorem dX2_share_157 : decode cX2_share 157 = .ok (.iadd, 1) := by decide +kernel
theorem dX2_share_158 : decode cX2_share 158 = .ok (.goto 5, 3) := by decide +kernel
theorem dX2_share_161 : decode cX2_share 161 = .ok (.iload 9, 2) := by decide +kernel
theorem dX2_share_163 : decode cX2_share 163 = .ok (.ireturn, 1) := by decide +kernel
theorem dX2_shares_0 : decode cX2_shares 0 = .ok (.aload_n 0, 1) := by decide +kernel
theorem dX2_shares_1 : decode cX2_shares 1 = .ok (.getfield 18, 3) := by decide +kernel
theorem dX2_shares_4 : decode cX2_shares 4 = .ok (.iload_n 2, 1) := by decide +kernel
theorem dX2_shares_5 : decode cX2_shares 5 = .ok (.iaload, 1) := by decide +kernel
theorem dX2_shares_6 : decode cX2_shares 6 = .ok (.aload_n 0, 1) := by decide +kernel
theorem dX2_shares_7 : decode cX2_shares 7 = .ok (.getfield 18, 3) := by decide +kernel
theorem dX2_shares_10 : decode cX2_shares 10 = .ok (.iload_n 3, 1) := by decide +kernel
theorem dX2_shares_11 : decode cX2_shares 11 = .ok (.iaload, 1) := by decide +kernel
theorem dX2_shares_12 : decode cX2_shares 12 = .ok (.if_icmp .ne 25, 3) := by decide +kernel
theorem dX2_shares_15 : decode cX2_shares 15 = .ok (.iload 4, 2) := by decide +kernel
theorem dX2_shares_17 : decode cX2_shares 17 = .ok (.ifCond .eq 16, 3) := by decide +kernel
theorem dX2_shares_20 : decode cX2_shares 20 = .ok (.aload_n 1, 1) := by decide +kernel
theorem dX2_shares_21 : decode cX2_shares 21 = .ok (.iload_n 2, 1) := by decide +kernel
theorem dX2_shares_22 : decode cX2_shares 22 = .ok (.invokevirtual 107, 3) := by decide +kernel
theorem dX2_shares_25 : decode cX2_shares 25 = .ok (.aload_n 1, 1) := by decide +kernel
theorem dX2_shares_26 : decode cX2_shares 26 = .ok (.iload_n 3, 1) := by decide +kernel
theorem dX2_shares_27 : decode cX2_shares 27 = .ok (.invokevirtual 107, 3) := by decide +kernel
theorem dX2_shares_30 : decode cX2_shares 30 = .ok (.if_icmp .ne 7, 3) := by decide +kernel
theorem dX2_shares_33 : decode cX2_shares 33 = .ok (.iconst 1, 1) := by decide +kernel
theorem dX2_shares_34 : decode cX2_shares 34 = .ok (.goto 4, 3) := by decide +kernel
theorem dX2_shares_37 : decode cX2_shares 37 = .ok (.iconst 0, 1) := by decide +kernel
theorem dX2_shares_38 : decode cX2_shares 38 = .ok (.ireturn, 1) := by decide +kernel
theorem dX3_init_0 : decode cX3_init 0 = .ok (.aload_n 0, 1) := by decide +kernel
theorem dX3_init_1 : decode cX3_init 1 = .ok (.invokespecial 3, 3) := by decide +kernel
theorem dX3_init_4 : decode cX3_init 4 = .ok (.aload_n 0, 1) := by decide +kernel
theorem dX3_init_5 : decode cX3_init 5 = .ok (.iconst 5, 1) := by decide +kernel
theorem dX3_init_6 : decode cX3_init 6 = .ok (.newarray .int, 2) := by decide +kernel
theorem dX3_init_8 : decode cX3_init 8 = .ok (.putfield 9, 3) := by decide +kernel
theorem dX3_init_11 : decode cX3_init 11 = .ok (.aload_n 0, 1) := by decide +kernel
theorem dX3_init_12 : decode cX3_init 12 = .ok (.bipush 6, 2) := by decide +kernel
theorem dX3_init_14 : decode cX3_init 14 = .ok (.newarray .int, 2) := by decide +kernel
theorem dX3_init_16 : decode cX3_init 16 = .ok (.putfield 15, 3) := by decide +kernel
theorem dX3_init_19 : decode cX3_init 19 = .ok (.aload_n 0, 1) := by decide +kernel
theorem dX3_init_20 : decode cX3_init 20 = .ok (.bipush 6, 2) := by decide +kernel
theorem dX3_init_22 : decode cX3_init 22 = .ok (.newarray .int, 2) := by decide +kernel
theorem dX3_init_24 : decode cX3_init 24 = .ok (.putfield 18, 3) := by decide +kernel
theorem dX3_init_27 : decode cX3_init 27 = .ok (.aload_n 0, 1) := by decide +kernel
theorem dX3_init_28 : decode cX3_init 28 = .ok (.bipush 8, 2) := by decide +kernel
theorem dX3_init_30 : decode cX3_init 30 = .ok (.newarray .int, 2) := by decide +kernel
theorem dX3_init_32 : decode cX3_init 32 = .ok (.putfield 21, 3) := by decide +kernel
theorem dX3_init_35 : decode cX3_init 35 = .ok (.aload_n 0, 1) := by decide +kernel
theorem dX3_init_36 : decode cX3_init 36 = .ok (.bipush 8, 2) := by decide +kernel
theorem dX3_init_38 : decode cX3_init 38 = .ok (.newarray .int, 2) := by decide +kernel
theorem dX3_init_40 : decode cX3_init 40 = .ok (.putfield 24, 3) := by decide +kernel
theorem dX3_init_43 : decode cX3_init 43 = .ok (.aload_n 0, 1) := by decide +kernel
theorem dX3_init_44 : decode cX3_init 44 = .ok (.bipush 24, 2) := by decide +kernel
theorem dX3_init_46 : decode cX3_init 46 = .ok (.newarray .int, 2) := by decide +kernel
theorem dX3_init_48 : decode cX3_init 48 = .ok (.putfield 27, 3) := by decide +kernel
theorem dX3_init_51 : decode cX3_init 51 = .ok (.aload_n 0, 1) := by decide +kernel
theorem dX3_init_52 : decode cX3_init 52 = .ok (.bipush 24, 2) := by decide +kernel
theorem dX3_init_54 : decode cX3_init 54 = .ok (.newarray .int, 2) := by decide +kernel
theorem dX3_init_56 : decode cX3_init 56 = .ok (.putfield 30, 3) := by decide +kernel
theorem dX3_init_59 : decode cX3_init 59 = .ok (.aload_n 0, 1) := by decide +kernel
theorem dX3_init_60 : decode cX3_init 60 = .ok (.bipush 24, 2) := by decide +kernel
theorem dX3_init_62 : decode cX3_init 62 = .ok (.newarray .int, 2) := by decide +kernel
theorem dX3_init_64 : decode cX3_init 64 = .ok (.putfield 33, 3) := by decide +kernel
theorem dX3_init_67 : decode cX3_init 67 = .ok (.aload_n 0, 1) := by decide +kernel
theorem dX3_init_68 : decode cX3_init 68 = .ok (.bipush 24, 2) := by decide +kernel
theorem dX3_init_70 : decode cX3_init 70 = .ok (.newarray .int, 2) := by decide +kernel
theorem dX3_init_72 : decode cX3_init 72 = .ok (.putfield 36, 3) := by decide +kernel
theorem dX3_init_75 : decode cX3_init 75 = .ok (.iconst 0, 1) := by decide +kernel
theorem dX3_init_76 : decode cX3_init 76 = .ok (.istore_n 1, 1) := by decide +kernel
theorem dX3_init_77 : decode cX3_init 77 = .ok (.iload_n 1, 1) := by decide +kernel
theorem dX3_init_78 : decode cX3_init 78 = .ok (.iconst 5, 1) := by decide +kernel
theorem dX3_init_79 : decode cX3_init 79 = .ok (.if_icmp .ge 20, 3) := by decide +kernel
theorem dX3_init_82 : decode cX3_init 82 = .ok (.aload_n 0, 1) := by decide +kernel
theorem dX3_init_83 : decode cX3_init 83 = .ok (.getfield 9, 3) := by decide +kernel
theorem dX3_init_86 : decode cX3_init 86 = .ok (.iload_n 1, 1) := by decide +kernel
theorem dX3_init_87 : decode cX3_init 87 = .ok (.getstatic 39, 3) := by decide +kernel
theorem dX3_init_90 : decode cX3_init 90 = .ok (.iload_n 1, 1) := by decide +kernel
theorem dX3_init_91 : decode cX3_init 91 = .ok (.iaload, 1) := by decide +kernel
theorem dX3_init_92 : decode cX3_init 92 = .ok (.iastore, 1) := by decide +kernel
theorem dX3_init_93 : decode cX3_init 93 = .ok (.iinc 1 1, 3) := by decide +kernel
theorem dX3_init_96 : decode cX3_init 96 = .ok (.goto (-19), 3) := by decide +kernel
theorem dX3_init_99 : decode cX3_init 99 = .ok (.iconst 0, 1) := by decide +kernel
theorem dX3_init_100 : decode cX3_init 100 = .ok (.istore_n 1, 1) := by decide +kernel
theorem dX3_init_101 : decode cX3_init 101 = .ok (.iload_n 1, 1) := by decide +kernel
theorem dX3_init_102 : decode cX3_init 102 = .ok (.bipush 6, 2) := by decide +kernel
theorem dX3_init_104 : decode cX3_init 104 = .ok (.if_icmp .ge 19, 3) := by decide +kernel
theorem dX3_init_107 : decode cX3_init 107 = .ok (.aload_n 0, 1) := by decide +kernel
theorem dX3_init_108 : decode cX3_init 108 = .ok (.getfield 15, 3) := by decide +kernel
theorem dX3_init_111 : decode cX3_init 111 = .ok (.iload_n 1, 1) := by decide +kernel
theorem dX3_init_112 : decode cX3_init 112 = .ok (.bipush 60, 2) := by decide +kernel
theorem dX3_init_114 : decode cX3_init 114 = .ok (.iload_n 1, 1) := by decide +kernel
theorem dX3_init_115 : decode cX3_init 115 = .ok (.imul, 1) := by decide +kernel
theorem dX3_init_116 : decode cX3_init 116 = .ok (.iastore, 1) := by decide +kernel
theorem dX3_init_117 : decode cX3_init 117 = .ok (.iinc 1 1, 3) := by decide +kernel
theorem dX3_init_120 : decode cX3_init 120 = .ok (.goto (-19), 3) := by decide +kernel
theorem dX3_init_123 : decode cX3_init 123 = .ok (.iconst 0, 1) := by decide +kernel
theorem dX3_init_124 : decode cX3_init 124 = .ok (.istore_n 1, 1) := by decide +kernel
theorem dX3_init_125 : decode cX3_init 125 = .ok (.iload_n 1, 1) := by decide +kernel
theorem dX3_init_126 : decode cX3_init 126 = .ok (.bipush 8, 2) := by decide +kernel
theorem dX3_init_128 : decode cX3_init 128 = .ok (.if_icmp .ge 30, 3) := by decide +kernel
theorem dX3_init_131 : decode cX3_init 131 = .ok (.aload_n 0, 1) := by decide +kernel
theorem dX3_init_132 : decode cX3_init 132 = .ok (.getfield 21, 3) := by decide +kernel
theorem dX3_init_135 : decode cX3_init 135 = .ok (.iload_n 1, 1) := by decide +kernel
theorem dX3_init_136 : decode cX3_init 136 = .ok (.bipush 60, 2) := by decide +kernel
theorem dX3_init_138 : decode cX3_init 138 = .ok (.iload_n 1, 1) := by decide +kernel
theorem dX3_init_139 : decode cX3_init 139 = .ok (.imul, 1) := by decide +kernel
theorem dX3_init_140 : decode cX3_init 140 = .ok (.bipush 60, 2) := by decide +kernel
theorem dX3_init_142 : decode cX3_init 142 = .ok (.iadd, 1) := by decide +kernel
theorem dX3_init_143 : decode cX3_init 143 = .ok (.iastore, 1) := by decide +kernel
theorem dX3_init_144 : decode cX3_init 144 = .ok (.aload_n 0, 1) := by decide +kernel
theorem dX3_init_145 : decode cX3_init 145 = .ok (.getfield 24, 3) := by decide +kernel
theorem dX3_init_148 : decode cX3_init 148 = .ok (.iload_n 1, 1) := by decide +kernel
theorem dX3_init_149 : decode cX3_init 149 = .ok (.bipush 6, 2) := by decide +kernel
theorem dX3_init_151 : decode cX3_init 151 = .ok (.iastore, 1) := by decide +kernel
theorem dX3_init_152 : decode cX3_init 152 = .ok (.iinc 1 1, 3) := by decide +kernel
theorem dX3_init_155 : decode cX3_init 155 = .ok (.goto (-30), 3) := by decide +kernel
theorem dX3_init_158 : decode cX3_init 158 = .ok (.return_, 1) := by decide +kernel
theorem dX3_copyFrom_0 : decode cX3_copyFrom 0 = .ok (.aload_n 1, 1) := by decide +kernel
theorem dX3_copyFrom_1 : decode cX3_copyFrom 1 = .ok (.getfield 9, 3) := by decide +kernel
theorem dX3_copyFrom_4 : decode cX3_copyFrom 4 = .ok (.iconst 0, 1) := by decide +kernel
theorem dX3_copyFrom_5 : decode cX3_copyFrom 5 = .ok (.aload_n 0, 1) := by decide +kernel
theorem dX3_copyFrom_6 : decode cX3_copyFrom 6 = .ok (.getfield 9, 3) := by decide +kernel
theorem dX3_copyFrom_9 : decode cX3_copyFrom 9 = .ok (.iconst 0, 1) := by decide +kernel
theorem dX3_copyFrom_10 : decode cX3_copyFrom 10 = .ok (.iconst 5, 1) := by decide +kernel
theorem dX3_copyFrom_11 : decode cX3_copyFrom 11 = .ok (.invokestatic 42, 3) := by decide +kernel
theorem dX3_copyFrom_14 : decode cX3_copyFrom 14 = .ok (.aload_n 1, 1) := by decide +kernel
theorem dX3_copyFrom_15 : decode cX3_copyFrom 15 = .ok (.getfield 15, 3) := by decide +kernel
theorem dX3_copyFrom_18 : decode cX3_copyFrom 18 = .ok (.iconst 0, 1) := by decide +kernel
theorem dX3_copyFrom_19 : decode cX3_copyFrom 19 = .ok (.aload_n 0, 1) := by decide +kernel
theorem dX3_copyFrom_20 : decode cX3_copyFrom 20 = .ok (.getfield 15, 3) := by decide +kernel
theorem dX3_copyFrom_23 : decode cX3_copyFrom 23 = .ok (.iconst 0, 1) := by decide +kernel
theorem dX3_copyFrom_24 : decode cX3_copyFrom 24 = .ok (.bipush 6, 2) := by decide +kernel
theorem dX3_copyFrom_26 : decode cX3_copyFrom 26 = .ok (.invokestatic 42, 3) := by decide +kernel
theorem dX3_copyFrom_29 : decode cX3_copyFrom 29 = .ok (.aload_n 1, 1) := by decide +kernel
theorem dX3_copyFrom_30 : decode cX3_copyFrom 30 = .ok (.getfield 18, 3) := by decide +kernel
theorem dX3_copyFrom_33 : decode cX3_copyFrom 33 = .ok (.iconst 0, 1) := by decide +kernel
theorem dX3_copyFrom_34 : decode cX3_copyFrom 34 = .ok (.aload_n 0, 1) := by decide +kernel
theorem dX3_copyFrom_35 : decode cX3_copyFrom 35 = .ok (.getfield 18, 3) := by decide +kernel
theorem dX3_copyFrom_38 : decode cX3_copyFrom 38 = .ok (.iconst 0, 1) := by decide +kernel
theorem dX3_copyFrom_39 : decode cX3_copyFrom 39 = .ok (.bipush 6, 2) := by decide +kernel
theorem dX3_copyFrom_41 : decode cX3_copyFrom 41 = .ok (.invokestatic 42, 3) := by decide +kernel
theorem dX3_copyFrom_44 : decode cX3_copyFrom 44 = .ok (.aload_n 1, 1) := by decide +kernel
theorem dX3_copyFrom_45 : decode cX3_copyFrom 45 = .ok (.getfield 21, 3) := by decide +kernel
theorem dX3_copyFrom_48 : decode cX3_copyFrom 48 = .ok (.iconst 0, 1) := by decide +kernel
theorem dX3_copyFrom_49 : decode cX3_copyFrom 49 = .ok (.aload_n 0, 1) := by decide +kernel
theorem dX3_copyFrom_50 : decode cX3_copyFrom 50 = .ok (.getfield 21, 3) := by decide +kernel
theorem dX3_copyFrom_53 : decode cX3_copyFrom 53 = .ok (.iconst 0, 1) := by decide +kernel
theorem dX3_copyFrom_54 : decode cX3_copyFrom 54 = .ok (.bipush 8, 2) := by decide +kernel
theorem dX3_copyFrom_56 : decode cX3_copyFrom 56 = .ok (.invokestatic 42, 3) := by decide +kernel
theorem dX3_copyFrom_59 : decode cX3_copyFrom 59 = .ok (.aload_n 1, 1) := by decide +kernel
theorem dX3_copyFrom_60 : decode cX3_copyFrom 60 = .ok (.getfield 24, 3) := by decide +kernel
theorem dX3_copyFrom_63 : decode cX3_copyFrom 63 = .ok (.iconst 0, 1) := by decide +kernel
theorem dX3_copyFrom_64 : decode cX3_copyFrom 64 = .ok (.aload_n 0, 1) := by decide +kernel
theorem dX3_copyFrom_65 : decode cX3_copyFrom 65 = .ok (.getfield 24, 3) := by decide +kernel
theorem dX3_copyFrom_68 : decode cX3_copyFrom 68 = .ok (.iconst 0, 1) := by decide +kernel
theorem dX3_copyFrom_69 : decode cX3_copyFrom 69 = .ok (.bipush 8, 2) := by decide +kernel
theorem dX3_copyFrom_71 : decode cX3_copyFrom 71 = .ok (.invokestatic 42, 3) := by decide +kernel
theorem dX3_copyFrom_74 : decode cX3_copyFrom 74 = .ok (.aload_n 1, 1) := by decide +kernel
theorem dX3_copyFrom_75 : decode cX3_copyFrom 75 = .ok (.getfield 27, 3) := by decide +kernel
theorem dX3_copyFrom_78 : decode cX3_copyFrom 78 = .ok (.iconst 0, 1) := by decide +kernel
theorem dX3_copyFrom_79 : decode cX3_copyFrom 79 = .ok (.aload_n 0, 1) := by decide +kernel
theorem dX3_copyFrom_80 : decode cX3_copyFrom 80 = .ok (.getfield 27, 3) := by decide +kernel
theorem dX3_copyFrom_83 : decode cX3_copyFrom 83 = .ok (.iconst 0, 1) := by decide +kernel
theorem dX3_copyFrom_84 : decode cX3_copyFrom 84 = .ok (.bipush 24, 2) := by decide +kernel
theorem dX3_copyFrom_86 : decode cX3_copyFrom 86 = .ok (.invokestatic 42, 3) := by decide +kernel
theorem dX3_copyFrom_89 : decode cX3_copyFrom 89 = .ok (.aload_n 1, 1) := by decide +kernel
theorem dX3_copyFrom_90 : decode cX3_copyFrom 90 = .ok (.getfield 30, 3) := by decide +kernel
theorem dX3_copyFrom_93 : decode cX3_copyFrom 93 = .ok (.iconst 0, 1) := by decide +kernel
theorem dX3_copyFrom_94 : decode cX3_copyFrom 94 = .ok (.aload_n 0, 1) := by decide +kernel
theorem dX3_copyFrom_95 : decode cX3_copyFrom 95 = .ok (.getfield 30, 3) := by decide +kernel
theorem dX3_copyFrom_98 : decode cX3_copyFrom 98 = .ok (.iconst 0, 1) := by decide +kernel
theorem dX3_copyFrom_99 : decode cX3_copyFrom 99 = .ok (.bipush 24, 2) := by decide +kernel
theorem dX3_copyFrom_101 : decode cX3_copyFrom 101 = .ok (.invokestatic 42, 3) := by decide +kernel
theorem dX3_copyFrom_104 : decode cX3_copyFrom 104 = .ok (.aload_n 1, 1) := by decide +kernel
theorem dX3_copyFrom_105 : decode cX3_copyFrom 105 = .ok (.getfield 33, 3) := by decide +kernel
theorem dX3_copyFrom_108 : decode cX3_copyFrom 108 = .ok (.iconst 0, 1) := by decide +kernel
theorem dX3_copyFrom_109 : decode cX3_copyFrom 109 = .ok (.aload_n 0, 1) := by decide +kernel
theorem dX3_copyFrom_110 : decode cX3_copyFrom 110 = .ok (.getfield 33, 3) := by decide +kernel
theorem dX3_copyFrom_113 : decode cX3_copyFrom 113 = .ok (.iconst 0, 1) := by decide +kernel
theorem dX3_copyFrom_114 : decode cX3_copyFrom 114 = .ok (.bipush 24, 2) := by decide +kernel
theorem dX3_copyFrom_116 : decode cX3_copyFrom 116 = .ok (.invokestatic 42, 3) := by decide +kernel
theorem dX3_copyFrom_119 : decode cX3_copyFrom 119 = .ok (.aload_n 1, 1) := by decide +kernel
theorem dX3_copyFrom_120 : decode cX3_copyFrom 120 = .ok (.getfield 36, 3) := by decide +kernel
theorem dX3_copyFrom_123 : decode cX3_copyFrom 123 = .ok (.iconst 0, 1) := by decide +kernel
theorem dX3_copyFrom_124 : decode cX3_copyFrom 124 = .ok (.aload_n 0, 1) := by decide +kernel
theorem dX3_copyFrom_125 : decode cX3_copyFrom 125 = .ok (.getfield 36, 3) := by decide +kernel
theorem dX3_copyFrom_128 : decode cX3_copyFrom 128 = .ok (.iconst 0, 1) := by decide +kernel
theorem dX3_copyFrom_129 : decode cX3_copyFrom 129 = .ok (.bipush 24, 2) := by decide +kernel
theorem dX3_copyFrom_131 : decode cX3_copyFrom 131 = .ok (.invokestatic 42, 3) := by decide +kernel
theorem dX3_copyFrom_134 : decode cX3_copyFrom 134 = .ok (.aload_n 0, 1) := by decide +kernel
theorem dX3_copyFrom_135 : decode cX3_copyFrom 135 = .ok (.aload_n 1, 1) := by decide +kernel
theorem dX3_copyFrom_136 : decode cX3_copyFrom 136 = .ok (.getfield 48, 3) := by decide +kernel
theorem dX3_copyFrom_139 : decode cX3_copyFrom 139 = .ok (.putfield 48, 3) := by decide +kernel
theorem dX3_copyFrom_142 : decode cX3_copyFrom 142 = .ok (.return_, 1) := by decide +kernel
theorem dX3_addRider_0 : decode cX3_addRider 0 = .ok (.aload_n 0, 1) := by decide +kernel
theorem dX3_addRider_1 : decode cX3_addRider 1 = .ok (.getfield 48, 3) := by decide +kernel
theorem dX3_addRider_4 : decode cX3_addRider 4 = .ok (.bipush 24, 2) := by decide +kernel
theorem dX3_addRider_6 : decode cX3_addRider 6 = .ok (.if_icmp .lt 4, 3) := by decide +kernel
theorem dX3_addRider_9 : decode cX3_addRider 9 = .ok (.return_, 1) := by decide +kernel
theorem dX3_addRider_10 : decode cX3_addRider 10 = .ok (.aload_n 0, 1) := by decide +kernel
theorem dX3_addRider_11 : decode cX3_addRider 11 = .ok (.getfield 27, 3) := by decide +kernel
theorem dX3_addRider_14 : decode cX3_addRider 14 = .ok (.aload_n 0, 1) := by decide +kernel
theorem dX3_addRider_15 : decode cX3_addRider 15 = .ok (.getfield 48, 3) := by decide +kernel
theorem dX3_addRider_18 : decode cX3_addRider 18 = .ok (.iload_n 1, 1) := by decide +kernel
theorem dX3_addRider_19 : decode cX3_addRider 19 = .ok (.iastore, 1) := by decide +kernel
theorem dX3_addRider_20 : decode cX3_addRider 20 = .ok (.aload_n 0, 1) := by decide +kernel
theorem dX3_addRider_21 : decode cX3_addRider 21 = .ok (.getfield 30, 3) := by decide +kernel
theorem dX3_addRider_24 : decode cX3_addRider 24 = .ok (.aload_n 0, 1) := by decide +kernel
theorem dX3_addRider_25 : decode cX3_addRider 25 = .ok (.getfield 48, 3) := by decide +kernel
theorem dX3_addRider_28 : decode cX3_addRider 28 = .ok (.iload_n 2, 1) := by decide +kernel
theorem dX3_addRider_29 : decode cX3_addRider 29 = .ok (.iastore, 1) := by decide +kernel
theorem dX3_addRider_30 : decode cX3_addRider 30 = .ok (.aload_n 0, 1) := by decide +kernel
theorem dX3_addRider_31 : decode cX3_addRider 31 = .ok (.getfield 33, 3) := by decide +kernel
theorem dX3_addRider_34 : decode cX3_addRider 34 = .ok (.aload_n 0, 1) := by decide +kernel
theorem dX3_addRider_35 : decode cX3_addRider 35 = .ok (.getfield 48, 3) := by decide +kernel
theorem dX3_addRider_38 : decode cX3_addRider 38 = .ok (.iload_n 3, 1) := by decide +kernel
theorem dX3_addRider_39 : decode cX3_addRider 39 = .ok (.iastore, 1) := by decide +kernel
theorem dX3_addRider_40 : decode cX3_addRider 40 = .ok (.aload_n 0, 1) := by decide +kernel
theorem dX3_addRider_41 : decode cX3_addRider 41 = .ok (.getfield 36, 3) := by decide +kernel
theorem dX3_addRider_44 : decode cX3_addRider 44 = .ok (.aload_n 0, 1) := by decide +kernel
theorem dX3_addRider_45 : decode cX3_addRider 45 = .ok (.getfield 48, 3) := by decide +kernel
theorem dX3_addRider_48 : decode cX3_addRider 48 = .ok (.iload 4, 2) := by decide +kernel
theorem dX3_addRider_50 : decode cX3_addRider 50 = .ok (.iastore, 1) := by decide +kernel
theorem dX3_addRider_51 : decode cX3_addRider 51 = .ok (.aload_n 0, 1) := by decide +kernel
theorem dX3_addRider_52 : decode cX3_addRider 52 = .ok (.dup, 1) := by decide +kernel
theorem dX3_addRider_53 : decode cX3_addRider 53 = .ok (.getfield 48, 3) := by decide +kernel
theorem dX3_addRider_56 : decode cX3_addRider 56 = .ok (.iconst 1, 1) := by decide +kernel
theorem dX3_addRider_57 : decode cX3_addRider 57 = .ok (.iadd, 1) := by decide +kernel
theorem dX3_addRider_58 : decode cX3_addRider 58 = .ok (.putfield 48, 3) := by decide +kernel
theorem dX3_addRider_61 : decode cX3_addRider 61 = .ok (.return_, 1) := by decide +kernel
theorem dX3_removeRider_0 : decode cX3_removeRider 0 = .ok (.iload_n 1, 1) := by decide +kernel
theorem dX3_removeRider_1 : decode cX3_removeRider 1 = .ok (.istore_n 2, 1) := by decide +kernel
theorem dX3_removeRider_2 : decode cX3_removeRider 2 = .ok (.iload_n 2, 1) := by decide +kernel
theorem dX3_removeRider_3 : decode cX3_removeRider 3 = .ok (.aload_n 0, 1) := by decide +kernel
theorem dX3_removeRider_4 : decode cX3_removeRider 4 = .ok (.getfield 48, 3) := by decide +kernel
theorem dX3_removeRider_7 : decode cX3_removeRider 7 = .ok (.iconst 1, 1) := by decide +kernel
theorem dX3_removeRider_8 : decode cX3_removeRider 8 = .ok (.isub, 1) := by decide +kernel
theorem dX3_removeRider_9 : decode cX3_removeRider 9 = .ok (.if_icmp .ge 65, 3) := by decide +kernel
theorem dX3_removeRider_12 : decode cX3_removeRider 12 = .ok (.aload_n 0, 1) := by decide +kernel
theorem dX3_removeRider_13 : decode cX3_removeRider 13 = .ok (.getfield 27, 3) := by decide +kernel
theorem dX3_removeRider_16 : decode cX3_removeRider 16 = .ok (.iload_n 2, 1) := by decide +kernel
theorem dX3_removeRider_17 : decode cX3_removeRider 17 = .ok (.aload_n 0, 1) := by decide +kernel
theorem dX3_removeRider_18 : decode cX3_removeRider 18 = .ok (.getfield 27, 3) := by decide +kernel
theorem dX3_removeRider_21 : decode cX3_removeRider 21 = .ok (.iload_n 2, 1) := by decide +kernel
theorem dX3_removeRider_22 : decode cX3_removeRider 22 = .ok (.iconst 1, 1) := by decide +kernel
theorem dX3_removeRider_23 : decode cX3_removeRider 23 = .ok (.iadd, 1) := by decide +kernel
theorem dX3_removeRider_24 : decode cX3_removeRider 24 = .ok (.iaload, 1) := by decide +kernel
theorem dX3_removeRider_25 : decode cX3_removeRider 25 = .ok (.iastore, 1) := by decide +kernel
theorem dX3_removeRider_26 : decode cX3_removeRider 26 = .ok (.aload_n 0, 1) := by decide +kernel
theorem dX3_removeRider_27 : decode cX3_removeRider 27 = .ok (.getfield 30, 3) := by decide +kernel
theorem dX3_removeRider_30 : decode cX3_removeRider 30 = .ok (.iload_n 2, 1) := by decide +kernel
theorem dX3_removeRider_31 : decode cX3_removeRider 31 = .ok (.aload_n 0, 1) := by decide +kernel
theorem dX3_removeRider_32 : decode cX3_removeRider 32 = .ok (.getfield 30, 3) := by decide +kernel
theorem dX3_removeRider_35 : decode cX3_removeRider 35 = .ok (.iload_n 2, 1) := by decide +kernel
theorem dX3_removeRider_36 : decode cX3_removeRider 36 = .ok (.iconst 1, 1) := by decide +kernel
theorem dX3_removeRider_37 : decode cX3_removeRider 37 = .ok (.iadd, 1) := by decide +kernel
theorem dX3_removeRider_38 : decode cX3_removeRider 38 = .ok (.iaload, 1) := by decide +kernel
theorem dX3_removeRider_39 : decode cX3_removeRider 39 = .ok (.iastore, 1) := by decide +kernel
theorem dX3_removeRider_40 : decode cX3_removeRider 40 = .ok (.aload_n 0, 1) := by decide +kernel
theorem dX3_removeRider_41 : decode cX3_removeRider 41 = .ok (.getfield 33, 3) := by decide +kernel
theorem dX3_removeRider_44 : decode cX3_removeRider 44 = .ok (.iload_n 2, 1) := by decide +kernel
theorem dX3_removeRider_45 : decode cX3_removeRider 45 = .ok (.aload_n 0, 1) := by decide +kernel
theorem dX3_removeRider_46 : decode cX3_removeRider 46 = .ok (.getfield 33, 3) := by decide +kernel
theorem dX3_removeRider_49 : decode cX3_removeRider 49 = .ok (.iload_n 2, 1) := by decide +kernel
theorem dX3_removeRider_50 : decode cX3_removeRider 50 = .ok (.iconst 1, 1) := by decide +kernel
theorem dX3_removeRider_51 : decode cX3_removeRider 51 = .ok (.iadd, 1) := by decide +kernel
theorem dX3_removeRider_52 : decode cX3_removeRider 52 = .ok (.iaload, 1) := by decide +kernel
theorem dX3_removeRider_53 : decode cX3_removeRider 53 = .ok (.iastore, 1) := by decide +kernel
theorem dX3_removeRider_54 : decode cX3_removeRider 54 = .ok (.aload_n 0, 1) := by decide +kernel
theorem dX3_removeRider_55 : decode cX3_removeRider 55 = .ok (.getfield 36, 3) := by decide +kernel
theorem dX3_removeRider_58 : decode cX3_removeRider 58 = .ok (.iload_n 2, 1) := by decide +kernel
theorem dX3_removeRider_59 : decode cX3_removeRider 59 = .ok (.aload_n 0, 1) := by decide +kernel
theorem dX3_removeRider_60 : decode cX3_removeRider 60 = .ok (.getfield 36, 3) := by decide +kernel
theorem dX3_removeRider_63 : decode cX3_removeRider 63 = .ok (.iload_n 2, 1) := by decide +kernel
theorem dX3_removeRider_64 : decode cX3_removeRider 64 = .ok (.iconst 1, 1) := by decide +kernel
theorem dX3_removeRider_65 : decode cX3_removeRider 65 = .ok (.iadd, 1) := by decide +kernel
theorem dX3_removeRider_66 : decode cX3_removeRider 66 = .ok (.iaload, 1) := by decide +kernel
theorem dX3_removeRider_67 : decode cX3_removeRider 67 = .ok (.iastore, 1) := by decide +kernel
theorem dX3_removeRider_68 : decode cX3_removeRider 68 = .ok (.iinc 2 1, 3) := by decide +kernel
theorem dX3_removeRider_71 : decode cX3_removeRider 71 = .ok (.goto (-69), 3) := by decide +kernel
theorem dX3_removeRider_74 : decode cX3_removeRider 74 = .ok (.aload_n 0, 1) := by decide +kernel
theorem dX3_removeRider_75 : decode cX3_removeRider 75 = .ok (.dup, 1) := by decide +kernel
theorem dX3_removeRider_76 : decode cX3_removeRider 76 = .ok (.getfield 48, 3) := by decide +kernel
theorem dX3_removeRider_79 : decode cX3_removeRider 79 = .ok (.iconst 1, 1) := by decide +kernel
theorem dX3_removeRider_80 : decode cX3_removeRider 80 = .ok (.isub, 1) := by decide +kernel
theorem dX3_removeRider_81 : decode cX3_removeRider 81 = .ok (.putfield 48, 3) := by decide +kernel
theorem dX3_removeRider_84 : decode cX3_removeRider 84 = .ok (.return_, 1) := by decide +kernel
theorem dX3_flightReady_0 : decode cX3_flightReady 0 = .ok (.aload_n 0, 1) := by decide +kernel
theorem dX3_flightReady_1 : decode cX3_flightReady 1 = .ok (.getfield 15, 3) := by decide +kernel
theorem dX3_flightReady_4 : decode cX3_flightReady 4 = .ok (.iload_n 1, 1) := by decide +kernel
theorem dX3_flightReady_5 : decode cX3_flightReady 5 = .ok (.iaload, 1) := by decide +kernel
theorem dX3_flightReady_6 : decode cX3_flightReady 6 = .ok (.aload_n 0, 1) := by decide +kernel
theorem dX3_flightReady_7 : decode cX3_flightReady 7 = .ok (.getfield 18, 3) := by decide +kernel
theorem dX3_flightReady_10 : decode cX3_flightReady 10 = .ok (.iload_n 1, 1) := by decide +kernel
theorem dX3_flightReady_11 : decode cX3_flightReady 11 = .ok (.iaload, 1) := by decide +kernel
theorem dX3_flightReady_12 : decode cX3_flightReady 12 = .ok (.iadd, 1) := by decide +kernel
theorem dX3_flightReady_13 : decode cX3_flightReady 13 = .ok (.aload_n 0, 1) := by decide +kernel
theorem dX3_flightReady_14 : decode cX3_flightReady 14 = .ok (.getfield 9, 3) := by decide +kernel
theorem dX3_flightReady_17 : decode cX3_flightReady 17 = .ok (.iconst 0, 1) := by decide +kernel
theorem dX3_flightReady_18 : decode cX3_flightReady 18 = .ok (.iaload, 1) := by decide +kernel
theorem dX3_flightReady_19 : decode cX3_flightReady 19 = .ok (.iadd, 1) := by decide +kernel
theorem dX3_flightReady_20 : decode cX3_flightReady 20 = .ok (.ireturn, 1) := by decide +kernel
theorem dX3_riderReady_0 : decode cX3_riderReady 0 = .ok (.aload_n 0, 1) := by decide +kernel
theorem dX3_riderReady_1 : decode cX3_riderReady 1 = .ok (.aload_n 0, 1) := by decide +kernel
theorem dX3_riderReady_2 : decode cX3_riderReady 2 = .ok (.getfield 27, 3) := by decide +kernel
theorem dX3_riderReady_5 : decode cX3_riderReady 5 = .ok (.iload_n 1, 1) := by decide +kernel
theorem dX3_riderReady_6 : decode cX3_riderReady 6 = .ok (.iaload, 1) := by decide +kernel
theorem dX3_riderReady_7 : decode cX3_riderReady 7 = .ok (.invokevirtual 52, 3) := by decide +kernel
theorem dX3_riderReady_10 : decode cX3_riderReady 10 = .ok (.ireturn, 1) := by decide +kernel
theorem dX3_allPeople_0 : decode cX3_allPeople 0 = .ok (.iconst 0, 1) := by decide +kernel
theorem dX3_allPeople_1 : decode cX3_allPeople 1 = .ok (.istore_n 1, 1) := by decide +kernel
theorem dX3_allPeople_2 : decode cX3_allPeople 2 = .ok (.iconst 0, 1) := by decide +kernel
theorem dX3_allPeople_3 : decode cX3_allPeople 3 = .ok (.istore_n 2, 1) := by decide +kernel
theorem dX3_allPeople_4 : decode cX3_allPeople 4 = .ok (.iload_n 2, 1) := by decide +kernel
theorem dX3_allPeople_5 : decode cX3_allPeople 5 = .ok (.aload_n 0, 1) := by decide +kernel
theorem dX3_allPeople_6 : decode cX3_allPeople 6 = .ok (.getfield 48, 3) := by decide +kernel
theorem dX3_allPeople_9 : decode cX3_allPeople 9 = .ok (.if_icmp .ge 18, 3) := by decide +kernel
theorem dX3_allPeople_12 : decode cX3_allPeople 12 = .ok (.iload_n 1, 1) := by decide +kernel
theorem dX3_allPeople_13 : decode cX3_allPeople 13 = .ok (.aload_n 0, 1) := by decide +kernel
theorem dX3_allPeople_14 : decode cX3_allPeople 14 = .ok (.getfield 36, 3) := by decide +kernel
theorem dX3_allPeople_17 : decode cX3_allPeople 17 = .ok (.iload_n 2, 1) := by decide +kernel
theorem dX3_allPeople_18 : decode cX3_allPeople 18 = .ok (.iaload, 1) := by decide +kernel
theorem dX3_allPeople_19 : decode cX3_allPeople 19 = .ok (.iadd, 1) := by decide +kernel
theorem dX3_allPeople_20 : decode cX3_allPeople 20 = .ok (.istore_n 1, 1) := by decide +kernel
theorem dX3_allPeople_21 : decode cX3_allPeople 21 = .ok (.iinc 2 1, 3) := by decide +kernel
theorem dX3_allPeople_24 : decode cX3_allPeople 24 = .ok (.goto (-20), 3) := by decide +kernel
theorem dX3_allPeople_27 : decode cX3_allPeople 27 = .ok (.iload_n 1, 1) := by decide +kernel
theorem dX3_allPeople_28 : decode cX3_allPeople 28 = .ok (.ireturn, 1) := by decide +kernel
theorem dX3_stopKey_0 : decode cX3_stopKey 0 = .ok (.aload_n 0, 1) := by decide +kernel
theorem dX3_stopKey_1 : decode cX3_stopKey 1 = .ok (.getfield 30, 3) := by decide +kernel
theorem dX3_stopKey_4 : decode cX3_stopKey 4 = .ok (.iload_n 1, 1) := by decide +kernel
theorem dX3_stopKey_5 : decode cX3_stopKey 5 = .ok (.iaload, 1) := by decide +kernel
theorem dX3_stopKey_6 : decode cX3_stopKey 6 = .ok (.bipush 100, 2) := by decide +kernel
theorem dX3_stopKey_8 : decode cX3_stopKey 8 = .ok (.imul, 1) := by decide +kernel
theorem dX3_stopKey_9 : decode cX3_stopKey 9 = .ok (.aload_n 0, 1) := by decide +kernel
theorem dX3_stopKey_10 : decode cX3_stopKey 10 = .ok (.getfield 33, 3) := by decide +kernel
theorem dX3_stopKey_13 : decode cX3_stopKey 13 = .ok (.iload_n 1, 1) := by decide +kernel
theorem dX3_stopKey_14 : decode cX3_stopKey 14 = .ok (.iaload, 1) := by decide +kernel
theorem dX3_stopKey_15 : decode cX3_stopKey 15 = .ok (.iadd, 1) := by decide +kernel
theorem dX3_stopKey_16 : decode cX3_stopKey 16 = .ok (.ireturn, 1) := by decide +kernel
theorem dX3_areaOfStop_0 : decode cX3_areaOfStop 0 = .ok (.iload_n 0, 1) := by decide +kernel
theorem dX3_areaOfStop_1 : decode cX3_areaOfStop 1 = .ok (.bipush 100, 2) := by decide +kernel
theorem dX3_areaOfStop_3 : decode cX3_areaOfStop 3 = .ok (.idiv, 1) := by decide +kernel
theorem dX3_areaOfStop_4 : decode cX3_areaOfStop 4 = .ok (.ireturn, 1) := by decide +kernel
theorem dX3_doorOfStop_0 : decode cX3_doorOfStop 0 = .ok (.iload_n 0, 1) := by decide +kernel
theorem dX3_doorOfStop_1 : decode cX3_doorOfStop 1 = .ok (.bipush 100, 2) := by decide +kernel
theorem dX3_doorOfStop_3 : decode cX3_doorOfStop 3 = .ok (.irem, 1) := by decide +kernel
theorem dX3_doorOfStop_4 : decode cX3_doorOfStop 4 = .ok (.ireturn, 1) := by decide +kernel
theorem dX4_init_0 : decode cX4_init 0 = .ok (.aload_n 0, 1) := by decide +kernel
theorem dX4_init_1 : decode cX4_init 1 = .ok (.invokespecial 3, 3) := by decide +kernel
theorem dX4_init_4 : decode cX4_init 4 = .ok (.aload_n 0, 1) := by decide +kernel
theorem dX4_init_5 : decode cX4_init 5 = .ok (.bipush 24, 2) := by decide +kernel
theorem dX4_init_7 : decode cX4_init 7 = .ok (.newarray .int, 2) := by decide +kernel
theorem dX4_init_9 : decode cX4_init 9 = .ok (.putfield 9, 3) := by decide +kernel
theorem dX4_init_12 : decode cX4_init 12 = .ok (.aload_n 0, 1) := by decide +kernel
theorem dX4_init_13 : decode cX4_init 13 = .ok (.bipush 24, 2) := by decide +kernel
theorem dX4_init_15 : decode cX4_init 15 = .ok (.newarray .int, 2) := by decide +kernel
theorem dX4_init_17 : decode cX4_init 17 = .ok (.putfield 15, 3) := by decide +kernel
theorem dX4_init_20 : decode cX4_init 20 = .ok (.aload_n 0, 1) := by decide +kernel
theorem dX4_init_21 : decode cX4_init 21 = .ok (.bipush 24, 2) := by decide +kernel
theorem dX4_init_23 : decode cX4_init 23 = .ok (.newarray .int, 2) := by decide +kernel
theorem dX4_init_25 : decode cX4_init 25 = .ok (.putfield 18, 3) := by decide +kernel
theorem dX4_init_28 : decode cX4_init 28 = .ok (.return_, 1) := by decide +kernel
theorem dX4_follow_0 : decode cX4_follow 0 = .ok (.aload_n 0, 1) := by decide +kernel
theorem dX4_follow_1 : decode cX4_follow 1 = .ok (.iconst 0, 1) := by decide +kernel
theorem dX4_follow_2 : decode cX4_follow 2 = .ok (.putfield 21, 3) := by decide +kernel
theorem dX4_follow_5 : decode cX4_follow 5 = .ok (.iconst 0, 1) := by decide +kernel
theorem dX4_follow_6 : decode cX4_follow 6 = .ok (.istore 4, 2) := by decide +kernel
theorem dX4_follow_8 : decode cX4_follow 8 = .ok (.iload 4, 2) := by decide +kernel
theorem dX4_follow_10 : decode cX4_follow 10 = .ok (.aload_n 1, 1) := by decide +kernel
theorem dX4_follow_11 : decode cX4_follow 11 = .ok (.getfield 25, 3) := by decide +kernel
theorem dX4_follow_14 : decode cX4_follow 14 = .ok (.if_icmp .ge 37, 3) := by decide +kernel
theorem dX4_follow_17 : decode cX4_follow 17 = .ok (.aload_n 2, 1) := by decide +kernel
theorem dX4_follow_18 : decode cX4_follow 18 = .ok (.getfield 30, 3) := by decide +kernel
theorem dX4_follow_21 : decode cX4_follow 21 = .ok (.iload 4, 2) := by decide +kernel
theorem dX4_follow_23 : decode cX4_follow 23 = .ok (.iaload, 1) := by decide +kernel
theorem dX4_follow_24 : decode cX4_follow 24 = .ok (.iload_n 3, 1) := by decide +kernel
theorem dX4_follow_25 : decode cX4_follow 25 = .ok (.if_icmp .ne 20, 3) := by decide +kernel
theorem dX4_follow_28 : decode cX4_follow 28 = .ok (.aload_n 0, 1) := by decide +kernel
theorem dX4_follow_29 : decode cX4_follow 29 = .ok (.aload_n 1, 1) := by decide +kernel
theorem dX4_follow_30 : decode cX4_follow 30 = .ok (.iload 4, 2) := by decide +kernel
theorem dX4_follow_32 : decode cX4_follow 32 = .ok (.invokevirtual 35, 3) := by decide +kernel
theorem dX4_follow_35 : decode cX4_follow 35 = .ok (.aload_n 1, 1) := by decide +kernel
theorem dX4_follow_36 : decode cX4_follow 36 = .ok (.getfield 39, 3) := by decide +kernel
theorem dX4_follow_39 : decode cX4_follow 39 = .ok (.iload 4, 2) := by decide +kernel
theorem dX4_follow_41 : decode cX4_follow 41 = .ok (.iaload, 1) := by decide +kernel
theorem dX4_follow_42 : decode cX4_follow 42 = .ok (.invokevirtual 40, 3) := by decide +kernel
theorem dX4_follow_45 : decode cX4_follow 45 = .ok (.iinc 4 1, 3) := by decide +kernel
theorem dX4_follow_48 : decode cX4_follow 48 = .ok (.goto (-40), 3) := by decide +kernel
theorem dX4_follow_51 : decode cX4_follow 51 = .ok (.aload_n 0, 1) := by decide +kernel
theorem dX4_follow_52 : decode cX4_follow 52 = .ok (.aload_n 1, 1) := by decide +kernel
theorem dX4_follow_53 : decode cX4_follow 53 = .ok (.getfield 44, 3) := by decide +kernel
theorem dX4_follow_56 : decode cX4_follow 56 = .ok (.iload_n 3, 1) := by decide +kernel
theorem dX4_follow_57 : decode cX4_follow 57 = .ok (.iaload, 1) := by decide +kernel
end
section
theorem dX4_follow_58 : decode cX4_follow 58 = .ok (.invokevirtual 47, 3) := by decide +kernel
theorem dX4_follow_61 : decode cX4_follow 61 = .ok (.return_, 1) := by decide +kernel
theorem dX4_letOut_0 : decode cX4_letOut 0 = .ok (.aload_n 0, 1) := by decide +kernel
theorem dX4_letOut_1 : decode cX4_letOut 1 = .ok (.iload_n 1, 1) := by decide +kernel
theorem dX4_letOut_2 : decode cX4_letOut 2 = .ok (.invokevirtual 51, 3) := by decide +kernel
theorem dX4_letOut_5 : decode cX4_letOut 5 = .ok (.istore_n 3, 1) := by decide +kernel
theorem dX4_letOut_6 : decode cX4_letOut 6 = .ok (.iload_n 3, 1) := by decide +kernel
theorem dX4_letOut_7 : decode cX4_letOut 7 = .ok (.bipush 24, 2) := by decide +kernel
theorem dX4_letOut_9 : decode cX4_letOut 9 = .ok (.if_icmp .lt 4, 3) := by decide +kernel
theorem dX4_letOut_12 : decode cX4_letOut 12 = .ok (.return_, 1) := by decide +kernel
theorem dX4_letOut_13 : decode cX4_letOut 13 = .ok (.iload_n 3, 1) := by decide +kernel
theorem dX4_letOut_14 : decode cX4_letOut 14 = .ok (.aload_n 0, 1) := by decide +kernel
theorem dX4_letOut_15 : decode cX4_letOut 15 = .ok (.getfield 21, 3) := by decide +kernel
theorem dX4_letOut_18 : decode cX4_letOut 18 = .ok (.if_icmp .eq 13, 3) := by decide +kernel
theorem dX4_letOut_21 : decode cX4_letOut 21 = .ok (.aload_n 0, 1) := by decide +kernel
theorem dX4_letOut_22 : decode cX4_letOut 22 = .ok (.getfield 9, 3) := by decide +kernel
theorem dX4_letOut_25 : decode cX4_letOut 25 = .ok (.iload_n 3, 1) := by decide +kernel
theorem dX4_letOut_26 : decode cX4_letOut 26 = .ok (.iaload, 1) := by decide +kernel
theorem dX4_letOut_27 : decode cX4_letOut 27 = .ok (.iload_n 1, 1) := by decide +kernel
theorem dX4_letOut_28 : decode cX4_letOut 28 = .ok (.if_icmp .eq 9, 3) := by decide +kernel
theorem dX4_letOut_31 : decode cX4_letOut 31 = .ok (.aload_n 0, 1) := by decide +kernel
theorem dX4_letOut_32 : decode cX4_letOut 32 = .ok (.iload_n 3, 1) := by decide +kernel
theorem dX4_letOut_33 : decode cX4_letOut 33 = .ok (.iload_n 1, 1) := by decide +kernel
theorem dX4_letOut_34 : decode cX4_letOut 34 = .ok (.invokevirtual 54, 3) := by decide +kernel
theorem dX4_letOut_37 : decode cX4_letOut 37 = .ok (.aload_n 0, 1) := by decide +kernel
theorem dX4_letOut_38 : decode cX4_letOut 38 = .ok (.getfield 15, 3) := by decide +kernel
theorem dX4_letOut_41 : decode cX4_letOut 41 = .ok (.iload_n 3, 1) := by decide +kernel
theorem dX4_letOut_42 : decode cX4_letOut 42 = .ok (.dup2, 1) := by decide +kernel
theorem dX4_letOut_43 : decode cX4_letOut 43 = .ok (.iaload, 1) := by decide +kernel
theorem dX4_letOut_44 : decode cX4_letOut 44 = .ok (.iload_n 2, 1) := by decide +kernel
theorem dX4_letOut_45 : decode cX4_letOut 45 = .ok (.iadd, 1) := by decide +kernel
theorem dX4_letOut_46 : decode cX4_letOut 46 = .ok (.iastore, 1) := by decide +kernel
theorem dX4_letOut_47 : decode cX4_letOut 47 = .ok (.return_, 1) := by decide +kernel
theorem dX4_placeFor_0 : decode cX4_placeFor 0 = .ok (.iconst 0, 1) := by decide +kernel
theorem dX4_placeFor_1 : decode cX4_placeFor 1 = .ok (.istore_n 2, 1) := by decide +kernel
theorem dX4_placeFor_2 : decode cX4_placeFor 2 = .ok (.iload_n 2, 1) := by decide +kernel
theorem dX4_placeFor_3 : decode cX4_placeFor 3 = .ok (.aload_n 0, 1) := by decide +kernel
theorem dX4_placeFor_4 : decode cX4_placeFor 4 = .ok (.getfield 21, 3) := by decide +kernel
theorem dX4_placeFor_7 : decode cX4_placeFor 7 = .ok (.if_icmp .ge 19, 3) := by decide +kernel
theorem dX4_placeFor_10 : decode cX4_placeFor 10 = .ok (.aload_n 0, 1) := by decide +kernel
theorem dX4_placeFor_11 : decode cX4_placeFor 11 = .ok (.getfield 9, 3) := by decide +kernel
theorem dX4_placeFor_14 : decode cX4_placeFor 14 = .ok (.iload_n 2, 1) := by decide +kernel
theorem dX4_placeFor_15 : decode cX4_placeFor 15 = .ok (.iaload, 1) := by decide +kernel
theorem dX4_placeFor_16 : decode cX4_placeFor 16 = .ok (.iload_n 1, 1) := by decide +kernel
theorem dX4_placeFor_17 : decode cX4_placeFor 17 = .ok (.if_icmp .ge 9, 3) := by decide +kernel
theorem dX4_placeFor_20 : decode cX4_placeFor 20 = .ok (.iinc 2 1, 3) := by decide +kernel
theorem dX4_placeFor_23 : decode cX4_placeFor 23 = .ok (.goto (-21), 3) := by decide +kernel
theorem dX4_placeFor_26 : decode cX4_placeFor 26 = .ok (.iload_n 2, 1) := by decide +kernel
theorem dX4_placeFor_27 : decode cX4_placeFor 27 = .ok (.ireturn, 1) := by decide +kernel
theorem dX4_openStop_0 : decode cX4_openStop 0 = .ok (.aload_n 0, 1) := by decide +kernel
theorem dX4_openStop_1 : decode cX4_openStop 1 = .ok (.getfield 21, 3) := by decide +kernel
theorem dX4_openStop_4 : decode cX4_openStop 4 = .ok (.bipush 24, 2) := by decide +kernel
theorem dX4_openStop_6 : decode cX4_openStop 6 = .ok (.if_icmp .lt 4, 3) := by decide +kernel
theorem dX4_openStop_9 : decode cX4_openStop 9 = .ok (.return_, 1) := by decide +kernel
theorem dX4_openStop_10 : decode cX4_openStop 10 = .ok (.aload_n 0, 1) := by decide +kernel
theorem dX4_openStop_11 : decode cX4_openStop 11 = .ok (.getfield 21, 3) := by decide +kernel
theorem dX4_openStop_14 : decode cX4_openStop 14 = .ok (.istore_n 3, 1) := by decide +kernel
theorem dX4_openStop_15 : decode cX4_openStop 15 = .ok (.iload_n 3, 1) := by decide +kernel
theorem dX4_openStop_16 : decode cX4_openStop 16 = .ok (.iload_n 1, 1) := by decide +kernel
theorem dX4_openStop_17 : decode cX4_openStop 17 = .ok (.if_icmp .le 37, 3) := by decide +kernel
theorem dX4_openStop_20 : decode cX4_openStop 20 = .ok (.aload_n 0, 1) := by decide +kernel
theorem dX4_openStop_21 : decode cX4_openStop 21 = .ok (.getfield 9, 3) := by decide +kernel
theorem dX4_openStop_24 : decode cX4_openStop 24 = .ok (.iload_n 3, 1) := by decide +kernel
theorem dX4_openStop_25 : decode cX4_openStop 25 = .ok (.aload_n 0, 1) := by decide +kernel
theorem dX4_openStop_26 : decode cX4_openStop 26 = .ok (.getfield 9, 3) := by decide +kernel
theorem dX4_openStop_29 : decode cX4_openStop 29 = .ok (.iload_n 3, 1) := by decide +kernel
theorem dX4_openStop_30 : decode cX4_openStop 30 = .ok (.iconst 1, 1) := by decide +kernel
theorem dX4_openStop_31 : decode cX4_openStop 31 = .ok (.isub, 1) := by decide +kernel
theorem dX4_openStop_32 : decode cX4_openStop 32 = .ok (.iaload, 1) := by decide +kernel
theorem dX4_openStop_33 : decode cX4_openStop 33 = .ok (.iastore, 1) := by decide +kernel
theorem dX4_openStop_34 : decode cX4_openStop 34 = .ok (.aload_n 0, 1) := by decide +kernel
theorem dX4_openStop_35 : decode cX4_openStop 35 = .ok (.getfield 15, 3) := by decide +kernel
theorem dX4_openStop_38 : decode cX4_openStop 38 = .ok (.iload_n 3, 1) := by decide +kernel
theorem dX4_openStop_39 : decode cX4_openStop 39 = .ok (.aload_n 0, 1) := by decide +kernel
theorem dX4_openStop_40 : decode cX4_openStop 40 = .ok (.getfield 15, 3) := by decide +kernel
theorem dX4_openStop_43 : decode cX4_openStop 43 = .ok (.iload_n 3, 1) := by decide +kernel
theorem dX4_openStop_44 : decode cX4_openStop 44 = .ok (.iconst 1, 1) := by decide +kernel
theorem dX4_openStop_45 : decode cX4_openStop 45 = .ok (.isub, 1) := by decide +kernel
theorem dX4_openStop_46 : decode cX4_openStop 46 = .ok (.iaload, 1) := by decide +kernel
theorem dX4_openStop_47 : decode cX4_openStop 47 = .ok (.iastore, 1) := by decide +kernel
theorem dX4_openStop_48 : decode cX4_openStop 48 = .ok (.iinc 3 (-1), 3) := by decide +kernel
theorem dX4_openStop_51 : decode cX4_openStop 51 = .ok (.goto (-36), 3) := by decide +kernel
theorem dX4_openStop_54 : decode cX4_openStop 54 = .ok (.aload_n 0, 1) := by decide +kernel
theorem dX4_openStop_55 : decode cX4_openStop 55 = .ok (.getfield 9, 3) := by decide +kernel
theorem dX4_openStop_58 : decode cX4_openStop 58 = .ok (.iload_n 1, 1) := by decide +kernel
theorem dX4_openStop_59 : decode cX4_openStop 59 = .ok (.iload_n 2, 1) := by decide +kernel
theorem dX4_openStop_60 : decode cX4_openStop 60 = .ok (.iastore, 1) := by decide +kernel
theorem dX4_openStop_61 : decode cX4_openStop 61 = .ok (.aload_n 0, 1) := by decide +kernel
theorem dX4_openStop_62 : decode cX4_openStop 62 = .ok (.getfield 15, 3) := by decide +kernel
theorem dX4_openStop_65 : decode cX4_openStop 65 = .ok (.iload_n 1, 1) := by decide +kernel
theorem dX4_openStop_66 : decode cX4_openStop 66 = .ok (.iconst 0, 1) := by decide +kernel
theorem dX4_openStop_67 : decode cX4_openStop 67 = .ok (.iastore, 1) := by decide +kernel
theorem dX4_openStop_68 : decode cX4_openStop 68 = .ok (.aload_n 0, 1) := by decide +kernel
theorem dX4_openStop_69 : decode cX4_openStop 69 = .ok (.dup, 1) := by decide +kernel
theorem dX4_openStop_70 : decode cX4_openStop 70 = .ok (.getfield 21, 3) := by decide +kernel
theorem dX4_openStop_73 : decode cX4_openStop 73 = .ok (.iconst 1, 1) := by decide +kernel
theorem dX4_openStop_74 : decode cX4_openStop 74 = .ok (.iadd, 1) := by decide +kernel
theorem dX4_openStop_75 : decode cX4_openStop 75 = .ok (.putfield 21, 3) := by decide +kernel
theorem dX4_openStop_78 : decode cX4_openStop 78 = .ok (.return_, 1) := by decide +kernel
theorem dX4_tellMinutes_0 : decode cX4_tellMinutes 0 = .ok (.iconst 0, 1) := by decide +kernel
theorem dX4_tellMinutes_1 : decode cX4_tellMinutes 1 = .ok (.istore_n 2, 1) := by decide +kernel
theorem dX4_tellMinutes_2 : decode cX4_tellMinutes 2 = .ok (.iload_n 2, 1) := by decide +kernel
theorem dX4_tellMinutes_3 : decode cX4_tellMinutes 3 = .ok (.aload_n 0, 1) := by decide +kernel
theorem dX4_tellMinutes_4 : decode cX4_tellMinutes 4 = .ok (.getfield 21, 3) := by decide +kernel
theorem dX4_tellMinutes_7 : decode cX4_tellMinutes 7 = .ok (.if_icmp .ge 83, 3) := by decide +kernel
theorem dX4_tellMinutes_10 : decode cX4_tellMinutes 10 = .ok (.aload_n 0, 1) := by decide +kernel
theorem dX4_tellMinutes_11 : decode cX4_tellMinutes 11 = .ok (.getfield 9, 3) := by decide +kernel
theorem dX4_tellMinutes_14 : decode cX4_tellMinutes 14 = .ok (.iload_n 2, 1) := by decide +kernel
theorem dX4_tellMinutes_15 : decode cX4_tellMinutes 15 = .ok (.iaload, 1) := by decide +kernel
theorem dX4_tellMinutes_16 : decode cX4_tellMinutes 16 = .ok (.invokestatic 57, 3) := by decide +kernel
theorem dX4_tellMinutes_19 : decode cX4_tellMinutes 19 = .ok (.istore_n 3, 1) := by decide +kernel
theorem dX4_tellMinutes_20 : decode cX4_tellMinutes 20 = .ok (.iload_n 2, 1) := by decide +kernel
theorem dX4_tellMinutes_21 : decode cX4_tellMinutes 21 = .ok (.ifCond .ne 20, 3) := by decide +kernel
theorem dX4_tellMinutes_24 : decode cX4_tellMinutes 24 = .ok (.aload_n 0, 1) := by decide +kernel
theorem dX4_tellMinutes_25 : decode cX4_tellMinutes 25 = .ok (.getfield 18, 3) := by decide +kernel
theorem dX4_tellMinutes_28 : decode cX4_tellMinutes 28 = .ok (.iload_n 2, 1) := by decide +kernel
theorem dX4_tellMinutes_29 : decode cX4_tellMinutes 29 = .ok (.iload_n 1, 1) := by decide +kernel
theorem dX4_tellMinutes_30 : decode cX4_tellMinutes 30 = .ok (.bipush 10, 2) := by decide +kernel
theorem dX4_tellMinutes_32 : decode cX4_tellMinutes 32 = .ok (.iadd, 1) := by decide +kernel
theorem dX4_tellMinutes_33 : decode cX4_tellMinutes 33 = .ok (.iconst 5, 1) := by decide +kernel
theorem dX4_tellMinutes_34 : decode cX4_tellMinutes 34 = .ok (.iload_n 3, 1) := by decide +kernel
theorem dX4_tellMinutes_35 : decode cX4_tellMinutes 35 = .ok (.imul, 1) := by decide +kernel
theorem dX4_tellMinutes_36 : decode cX4_tellMinutes 36 = .ok (.iadd, 1) := by decide +kernel
theorem dX4_tellMinutes_37 : decode cX4_tellMinutes 37 = .ok (.iastore, 1) := by decide +kernel
theorem dX4_tellMinutes_38 : decode cX4_tellMinutes 38 = .ok (.goto 46, 3) := by decide +kernel
theorem dX4_tellMinutes_41 : decode cX4_tellMinutes 41 = .ok (.iload_n 3, 1) := by decide +kernel
theorem dX4_tellMinutes_42 : decode cX4_tellMinutes 42 = .ok (.aload_n 0, 1) := by decide +kernel
theorem dX4_tellMinutes_43 : decode cX4_tellMinutes 43 = .ok (.getfield 9, 3) := by decide +kernel
theorem dX4_tellMinutes_46 : decode cX4_tellMinutes 46 = .ok (.iload_n 2, 1) := by decide +kernel
theorem dX4_tellMinutes_47 : decode cX4_tellMinutes 47 = .ok (.iconst 1, 1) := by decide +kernel
theorem dX4_tellMinutes_48 : decode cX4_tellMinutes 48 = .ok (.isub, 1) := by decide +kernel
theorem dX4_tellMinutes_49 : decode cX4_tellMinutes 49 = .ok (.iaload, 1) := by decide +kernel
theorem dX4_tellMinutes_50 : decode cX4_tellMinutes 50 = .ok (.invokestatic 57, 3) := by decide +kernel
theorem dX4_tellMinutes_53 : decode cX4_tellMinutes 53 = .ok (.isub, 1) := by decide +kernel
theorem dX4_tellMinutes_54 : decode cX4_tellMinutes 54 = .ok (.istore 4, 2) := by decide +kernel
theorem dX4_tellMinutes_56 : decode cX4_tellMinutes 56 = .ok (.aload_n 0, 1) := by decide +kernel
theorem dX4_tellMinutes_57 : decode cX4_tellMinutes 57 = .ok (.getfield 18, 3) := by decide +kernel
theorem dX4_tellMinutes_60 : decode cX4_tellMinutes 60 = .ok (.iload_n 2, 1) := by decide +kernel
theorem dX4_tellMinutes_61 : decode cX4_tellMinutes 61 = .ok (.aload_n 0, 1) := by decide +kernel
theorem dX4_tellMinutes_62 : decode cX4_tellMinutes 62 = .ok (.getfield 18, 3) := by decide +kernel
theorem dX4_tellMinutes_65 : decode cX4_tellMinutes 65 = .ok (.iload_n 2, 1) := by decide +kernel
theorem dX4_tellMinutes_66 : decode cX4_tellMinutes 66 = .ok (.iconst 1, 1) := by decide +kernel
theorem dX4_tellMinutes_67 : decode cX4_tellMinutes 67 = .ok (.isub, 1) := by decide +kernel
theorem dX4_tellMinutes_68 : decode cX4_tellMinutes 68 = .ok (.iaload, 1) := by decide +kernel
theorem dX4_tellMinutes_69 : decode cX4_tellMinutes 69 = .ok (.iload 4, 2) := by decide +kernel
theorem dX4_tellMinutes_71 : decode cX4_tellMinutes 71 = .ok (.ifCond .le 10, 3) := by decide +kernel
theorem dX4_tellMinutes_74 : decode cX4_tellMinutes 74 = .ok (.iconst 5, 1) := by decide +kernel
theorem dX4_tellMinutes_75 : decode cX4_tellMinutes 75 = .ok (.iload 4, 2) := by decide +kernel
theorem dX4_tellMinutes_77 : decode cX4_tellMinutes 77 = .ok (.imul, 1) := by decide +kernel
theorem dX4_tellMinutes_78 : decode cX4_tellMinutes 78 = .ok (.goto 4, 3) := by decide +kernel
theorem dX4_tellMinutes_81 : decode cX4_tellMinutes 81 = .ok (.iconst 3, 1) := by decide +kernel
theorem dX4_tellMinutes_82 : decode cX4_tellMinutes 82 = .ok (.iadd, 1) := by decide +kernel
theorem dX4_tellMinutes_83 : decode cX4_tellMinutes 83 = .ok (.iastore, 1) := by decide +kernel
theorem dX4_tellMinutes_84 : decode cX4_tellMinutes 84 = .ok (.iinc 2 1, 3) := by decide +kernel
theorem dX4_tellMinutes_87 : decode cX4_tellMinutes 87 = .ok (.goto (-85), 3) := by decide +kernel
theorem dX4_tellMinutes_90 : decode cX4_tellMinutes 90 = .ok (.return_, 1) := by decide +kernel
theorem dX4_lastMinute_0 : decode cX4_lastMinute 0 = .ok (.aload_n 0, 1) := by decide +kernel
theorem dX4_lastMinute_1 : decode cX4_lastMinute 1 = .ok (.getfield 21, 3) := by decide +kernel
theorem dX4_lastMinute_4 : decode cX4_lastMinute 4 = .ok (.ifCond .le 17, 3) := by decide +kernel
theorem dX4_lastMinute_7 : decode cX4_lastMinute 7 = .ok (.aload_n 0, 1) := by decide +kernel
theorem dX4_lastMinute_8 : decode cX4_lastMinute 8 = .ok (.getfield 18, 3) := by decide +kernel
theorem dX4_lastMinute_11 : decode cX4_lastMinute 11 = .ok (.aload_n 0, 1) := by decide +kernel
theorem dX4_lastMinute_12 : decode cX4_lastMinute 12 = .ok (.getfield 21, 3) := by decide +kernel
theorem dX4_lastMinute_15 : decode cX4_lastMinute 15 = .ok (.iconst 1, 1) := by decide +kernel
theorem dX4_lastMinute_16 : decode cX4_lastMinute 16 = .ok (.isub, 1) := by decide +kernel
theorem dX4_lastMinute_17 : decode cX4_lastMinute 17 = .ok (.iaload, 1) := by decide +kernel
theorem dX4_lastMinute_18 : decode cX4_lastMinute 18 = .ok (.goto 5, 3) := by decide +kernel
theorem dX4_lastMinute_21 : decode cX4_lastMinute 21 = .ok (.bipush (-106), 2) := by decide +kernel
theorem dX4_lastMinute_23 : decode cX4_lastMinute 23 = .ok (.ireturn, 1) := by decide +kernel
theorem dX4_minuteAt_0 : decode cX4_minuteAt 0 = .ok (.aload_n 0, 1) := by decide +kernel
theorem dX4_minuteAt_1 : decode cX4_minuteAt 1 = .ok (.iload_n 1, 1) := by decide +kernel
theorem dX4_minuteAt_2 : decode cX4_minuteAt 2 = .ok (.invokevirtual 51, 3) := by decide +kernel
theorem dX4_minuteAt_5 : decode cX4_minuteAt 5 = .ok (.istore_n 2, 1) := by decide +kernel
theorem dX4_minuteAt_6 : decode cX4_minuteAt 6 = .ok (.iload_n 2, 1) := by decide +kernel
theorem dX4_minuteAt_7 : decode cX4_minuteAt 7 = .ok (.aload_n 0, 1) := by decide +kernel
theorem dX4_minuteAt_8 : decode cX4_minuteAt 8 = .ok (.getfield 21, 3) := by decide +kernel
theorem dX4_minuteAt_11 : decode cX4_minuteAt 11 = .ok (.if_icmp .ge 12, 3) := by decide +kernel
theorem dX4_minuteAt_14 : decode cX4_minuteAt 14 = .ok (.aload_n 0, 1) := by decide +kernel
theorem dX4_minuteAt_15 : decode cX4_minuteAt 15 = .ok (.getfield 18, 3) := by decide +kernel
theorem dX4_minuteAt_18 : decode cX4_minuteAt 18 = .ok (.iload_n 2, 1) := by decide +kernel
theorem dX4_minuteAt_19 : decode cX4_minuteAt 19 = .ok (.iaload, 1) := by decide +kernel
theorem dX4_minuteAt_20 : decode cX4_minuteAt 20 = .ok (.goto 5, 3) := by decide +kernel
theorem dX4_minuteAt_23 : decode cX4_minuteAt 23 = .ok (.bipush (-106), 2) := by decide +kernel
theorem dX4_minuteAt_25 : decode cX4_minuteAt 25 = .ok (.ireturn, 1) := by decide +kernel
theorem dX5_init_0 : decode cX5_init 0 = .ok (.aload_n 0, 1) := by decide +kernel
theorem dX5_init_1 : decode cX5_init 1 = .ok (.invokespecial 1, 3) := by decide +kernel
theorem dX5_init_4 : decode cX5_init 4 = .ok (.aload_n 0, 1) := by decide +kernel
theorem dX5_init_5 : decode cX5_init 5 = .ok (.new 7, 3) := by decide +kernel
theorem dX5_init_8 : decode cX5_init 8 = .ok (.dup, 1) := by decide +kernel
theorem dX5_init_9 : decode cX5_init 9 = .ok (.invokespecial 9, 3) := by decide +kernel
theorem dX5_init_12 : decode cX5_init 12 = .ok (.putfield 10, 3) := by decide +kernel
theorem dX5_init_15 : decode cX5_init 15 = .ok (.aload_n 0, 1) := by decide +kernel
theorem dX5_init_16 : decode cX5_init 16 = .ok (.new 16, 3) := by decide +kernel
theorem dX5_init_19 : decode cX5_init 19 = .ok (.dup, 1) := by decide +kernel
theorem dX5_init_20 : decode cX5_init 20 = .ok (.invokespecial 18, 3) := by decide +kernel
theorem dX5_init_23 : decode cX5_init 23 = .ok (.putfield 19, 3) := by decide +kernel
theorem dX5_init_26 : decode cX5_init 26 = .ok (.aload_n 0, 1) := by decide +kernel
theorem dX5_init_27 : decode cX5_init 27 = .ok (.new 23, 3) := by decide +kernel
theorem dX5_init_30 : decode cX5_init 30 = .ok (.dup, 1) := by decide +kernel
theorem dX5_init_31 : decode cX5_init 31 = .ok (.invokespecial 25, 3) := by decide +kernel
theorem dX5_init_34 : decode cX5_init 34 = .ok (.putfield 26, 3) := by decide +kernel
theorem dX5_init_37 : decode cX5_init 37 = .ok (.aload_n 0, 1) := by decide +kernel
theorem dX5_init_38 : decode cX5_init 38 = .ok (.new 7, 3) := by decide +kernel
theorem dX5_init_41 : decode cX5_init 41 = .ok (.dup, 1) := by decide +kernel
theorem dX5_init_42 : decode cX5_init 42 = .ok (.invokespecial 9, 3) := by decide +kernel
theorem dX5_init_45 : decode cX5_init 45 = .ok (.putfield 30, 3) := by decide +kernel
theorem dX5_init_48 : decode cX5_init 48 = .ok (.aload_n 0, 1) := by decide +kernel
theorem dX5_init_49 : decode cX5_init 49 = .ok (.new 16, 3) := by decide +kernel
theorem dX5_init_52 : decode cX5_init 52 = .ok (.dup, 1) := by decide +kernel
theorem dX5_init_53 : decode cX5_init 53 = .ok (.invokespecial 18, 3) := by decide +kernel
theorem dX5_init_56 : decode cX5_init 56 = .ok (.putfield 33, 3) := by decide +kernel
theorem dX5_init_59 : decode cX5_init 59 = .ok (.aload_n 0, 1) := by decide +kernel
theorem dX5_init_60 : decode cX5_init 60 = .ok (.new 36, 3) := by decide +kernel
theorem dX5_init_63 : decode cX5_init 63 = .ok (.dup, 1) := by decide +kernel
theorem dX5_init_64 : decode cX5_init 64 = .ok (.invokespecial 38, 3) := by decide +kernel
theorem dX5_init_67 : decode cX5_init 67 = .ok (.putfield 39, 3) := by decide +kernel
theorem dX5_init_70 : decode cX5_init 70 = .ok (.aload_n 0, 1) := by decide +kernel
theorem dX5_init_71 : decode cX5_init 71 = .ok (.new 43, 3) := by decide +kernel
theorem dX5_init_74 : decode cX5_init 74 = .ok (.dup, 1) := by decide +kernel
theorem dX5_init_75 : decode cX5_init 75 = .ok (.invokespecial 45, 3) := by decide +kernel
theorem dX5_init_78 : decode cX5_init 78 = .ok (.putfield 46, 3) := by decide +kernel
theorem dX5_init_81 : decode cX5_init 81 = .ok (.aload_n 0, 1) := by decide +kernel
theorem dX5_init_82 : decode cX5_init 82 = .ok (.iconst 2, 1) := by decide +kernel
theorem dX5_init_83 : decode cX5_init 83 = .ok (.anewarray 7, 3) := by decide +kernel
theorem dX5_init_86 : decode cX5_init 86 = .ok (.putfield 50, 3) := by decide +kernel
theorem dX5_init_89 : decode cX5_init 89 = .ok (.return_, 1) := by decide +kernel
theorem dX5_set_0 : decode cX5_set 0 = .ok (.iload_n 1, 1) := by decide +kernel
theorem dX5_set_1 : decode cX5_set 1 = .ok (.iconst 0, 1) := by decide +kernel
theorem dX5_set_2 : decode cX5_set 2 = .ok (.iconst 4, 1) := by decide +kernel
theorem dX5_set_3 : decode cX5_set 3 = .ok (.invokestatic 54, 3) := by decide +kernel
theorem dX5_set_6 : decode cX5_set 6 = .ok (.ifCond .ne 6, 3) := by decide +kernel
theorem dX5_set_9 : decode cX5_set 9 = .ok (.bipush (-102), 2) := by decide +kernel
theorem dX5_set_11 : decode cX5_set 11 = .ok (.ireturn, 1) := by decide +kernel
theorem dX5_set_12 : decode cX5_set 12 = .ok (.iload_n 2, 1) := by decide +kernel
theorem dX5_set_13 : decode cX5_set 13 = .ok (.getstatic 58, 3) := by decide +kernel
theorem dX5_set_16 : decode cX5_set 16 = .ok (.iload_n 1, 1) := by decide +kernel
theorem dX5_set_17 : decode cX5_set 17 = .ok (.iaload, 1) := by decide +kernel
theorem dX5_set_18 : decode cX5_set 18 = .ok (.getstatic 62, 3) := by decide +kernel
theorem dX5_set_21 : decode cX5_set 21 = .ok (.iload_n 1, 1) := by decide +kernel
theorem dX5_set_22 : decode cX5_set 22 = .ok (.iaload, 1) := by decide +kernel
theorem dX5_set_23 : decode cX5_set 23 = .ok (.invokestatic 54, 3) := by decide +kernel
theorem dX5_set_26 : decode cX5_set 26 = .ok (.ifCond .ne 6, 3) := by decide +kernel
theorem dX5_set_29 : decode cX5_set 29 = .ok (.bipush (-102), 2) := by decide +kernel
theorem dX5_set_31 : decode cX5_set 31 = .ok (.ireturn, 1) := by decide +kernel
theorem dX5_set_32 : decode cX5_set 32 = .ok (.aload_n 0, 1) := by decide +kernel
theorem dX5_set_33 : decode cX5_set 33 = .ok (.getfield 10, 3) := by decide +kernel
theorem dX5_set_36 : decode cX5_set 36 = .ok (.getfield 65, 3) := by decide +kernel
theorem dX5_set_39 : decode cX5_set 39 = .ok (.iload_n 1, 1) := by decide +kernel
theorem dX5_set_40 : decode cX5_set 40 = .ok (.iaload, 1) := by decide +kernel
theorem dX5_set_41 : decode cX5_set 41 = .ok (.istore_n 3, 1) := by decide +kernel
theorem dX5_set_42 : decode cX5_set 42 = .ok (.aload_n 0, 1) := by decide +kernel
theorem dX5_set_43 : decode cX5_set 43 = .ok (.getfield 46, 3) := by decide +kernel
theorem dX5_set_46 : decode cX5_set 46 = .ok (.aload_n 0, 1) := by decide +kernel
theorem dX5_set_47 : decode cX5_set 47 = .ok (.getfield 10, 3) := by decide +kernel
theorem dX5_set_50 : decode cX5_set 50 = .ok (.invokevirtual 68, 3) := by decide +kernel
theorem dX5_set_53 : decode cX5_set 53 = .ok (.aload_n 0, 1) := by decide +kernel
theorem dX5_set_54 : decode cX5_set 54 = .ok (.getfield 10, 3) := by decide +kernel
theorem dX5_set_57 : decode cX5_set 57 = .ok (.getfield 65, 3) := by decide +kernel
theorem dX5_set_60 : decode cX5_set 60 = .ok (.iload_n 1, 1) := by decide +kernel
theorem dX5_set_61 : decode cX5_set 61 = .ok (.iload_n 2, 1) := by decide +kernel
theorem dX5_set_62 : decode cX5_set 62 = .ok (.iastore, 1) := by decide +kernel
theorem dX5_set_63 : decode cX5_set 63 = .ok (.aload_n 0, 1) := by decide +kernel
theorem dX5_set_64 : decode cX5_set 64 = .ok (.getfield 19, 3) := by decide +kernel
theorem dX5_set_67 : decode cX5_set 67 = .ok (.aload_n 0, 1) := by decide +kernel
theorem dX5_set_68 : decode cX5_set 68 = .ok (.getfield 10, 3) := by decide +kernel
theorem dX5_set_71 : decode cX5_set 71 = .ok (.invokevirtual 72, 3) := by decide +kernel
theorem dX5_set_74 : decode cX5_set 74 = .ok (.iload_n 3, 1) := by decide +kernel
theorem dX5_set_75 : decode cX5_set 75 = .ok (.ireturn, 1) := by decide +kernel
theorem dX5_land_0 : decode cX5_land 0 = .ok (.iload_n 1, 1) := by decide +kernel
theorem dX5_land_1 : decode cX5_land 1 = .ok (.invokestatic 75, 3) := by decide +kernel
theorem dX5_land_4 : decode cX5_land 4 = .ok (.ifCond .ne 6, 3) := by decide +kernel
theorem dX5_land_7 : decode cX5_land 7 = .ok (.bipush (-101), 2) := by decide +kernel
theorem dX5_land_9 : decode cX5_land 9 = .ok (.ireturn, 1) := by decide +kernel
theorem dX5_land_10 : decode cX5_land 10 = .ok (.iload_n 2, 1) := by decide +kernel
theorem dX5_land_11 : decode cX5_land 11 = .ok (.iconst 0, 1) := by decide +kernel
theorem dX5_land_12 : decode cX5_land 12 = .ok (.sipush 1200, 3) := by decide +kernel
theorem dX5_land_15 : decode cX5_land 15 = .ok (.invokestatic 54, 3) := by decide +kernel
theorem dX5_land_18 : decode cX5_land 18 = .ok (.ifCond .ne 6, 3) := by decide +kernel
theorem dX5_land_21 : decode cX5_land 21 = .ok (.bipush (-102), 2) := by decide +kernel
theorem dX5_land_23 : decode cX5_land 23 = .ok (.ireturn, 1) := by decide +kernel
theorem dX5_land_24 : decode cX5_land 24 = .ok (.aload_n 0, 1) := by decide +kernel
theorem dX5_land_25 : decode cX5_land 25 = .ok (.getfield 10, 3) := by decide +kernel
theorem dX5_land_28 : decode cX5_land 28 = .ok (.getfield 79, 3) := by decide +kernel
theorem dX5_land_31 : decode cX5_land 31 = .ok (.iload_n 1, 1) := by decide +kernel
theorem dX5_land_32 : decode cX5_land 32 = .ok (.iaload, 1) := by decide +kernel
theorem dX5_land_33 : decode cX5_land 33 = .ok (.istore_n 3, 1) := by decide +kernel
theorem dX5_land_34 : decode cX5_land 34 = .ok (.aload_n 0, 1) := by decide +kernel
theorem dX5_land_35 : decode cX5_land 35 = .ok (.getfield 46, 3) := by decide +kernel
theorem dX5_land_38 : decode cX5_land 38 = .ok (.aload_n 0, 1) := by decide +kernel
theorem dX5_land_39 : decode cX5_land 39 = .ok (.getfield 10, 3) := by decide +kernel
theorem dX5_land_42 : decode cX5_land 42 = .ok (.invokevirtual 68, 3) := by decide +kernel
theorem dX5_land_45 : decode cX5_land 45 = .ok (.aload_n 0, 1) := by decide +kernel
theorem dX5_land_46 : decode cX5_land 46 = .ok (.getfield 10, 3) := by decide +kernel
theorem dX5_land_49 : decode cX5_land 49 = .ok (.getfield 79, 3) := by decide +kernel
theorem dX5_land_52 : decode cX5_land 52 = .ok (.iload_n 1, 1) := by decide +kernel
theorem dX5_land_53 : decode cX5_land 53 = .ok (.iload_n 2, 1) := by decide +kernel
theorem dX5_land_54 : decode cX5_land 54 = .ok (.iastore, 1) := by decide +kernel
theorem dX5_land_55 : decode cX5_land 55 = .ok (.aload_n 0, 1) := by decide +kernel
theorem dX5_land_56 : decode cX5_land 56 = .ok (.getfield 19, 3) := by decide +kernel
theorem dX5_land_59 : decode cX5_land 59 = .ok (.aload_n 0, 1) := by decide +kernel
theorem dX5_land_60 : decode cX5_land 60 = .ok (.getfield 10, 3) := by decide +kernel
theorem dX5_land_63 : decode cX5_land 63 = .ok (.invokevirtual 72, 3) := by decide +kernel
theorem dX5_land_66 : decode cX5_land 66 = .ok (.iload_n 3, 1) := by decide +kernel
theorem dX5_land_67 : decode cX5_land 67 = .ok (.ireturn, 1) := by decide +kernel
theorem dX5_delay_0 : decode cX5_delay 0 = .ok (.iload_n 1, 1) := by decide +kernel
theorem dX5_delay_1 : decode cX5_delay 1 = .ok (.invokestatic 75, 3) := by decide +kernel
theorem dX5_delay_4 : decode cX5_delay 4 = .ok (.ifCond .ne 6, 3) := by decide +kernel
theorem dX5_delay_7 : decode cX5_delay 7 = .ok (.bipush (-101), 2) := by decide +kernel
theorem dX5_delay_9 : decode cX5_delay 9 = .ok (.ireturn, 1) := by decide +kernel
theorem dX5_delay_10 : decode cX5_delay 10 = .ok (.iload_n 2, 1) := by decide +kernel
theorem dX5_delay_11 : decode cX5_delay 11 = .ok (.invokestatic 82, 3) := by decide +kernel
theorem dX5_delay_14 : decode cX5_delay 14 = .ok (.ifCond .ne 6, 3) := by decide +kernel
theorem dX5_delay_17 : decode cX5_delay 17 = .ok (.bipush (-102), 2) := by decide +kernel
theorem dX5_delay_19 : decode cX5_delay 19 = .ok (.ireturn, 1) := by decide +kernel
theorem dX5_delay_20 : decode cX5_delay 20 = .ok (.aload_n 0, 1) := by decide +kernel
theorem dX5_delay_21 : decode cX5_delay 21 = .ok (.getfield 46, 3) := by decide +kernel
theorem dX5_delay_24 : decode cX5_delay 24 = .ok (.aload_n 0, 1) := by decide +kernel
theorem dX5_delay_25 : decode cX5_delay 25 = .ok (.getfield 10, 3) := by decide +kernel
theorem dX5_delay_28 : decode cX5_delay 28 = .ok (.invokevirtual 68, 3) := by decide +kernel
theorem dX5_delay_31 : decode cX5_delay 31 = .ok (.aload_n 0, 1) := by decide +kernel
theorem dX5_delay_32 : decode cX5_delay 32 = .ok (.getfield 10, 3) := by decide +kernel
theorem dX5_delay_35 : decode cX5_delay 35 = .ok (.getfield 85, 3) := by decide +kernel
theorem dX5_delay_38 : decode cX5_delay 38 = .ok (.iload_n 1, 1) := by decide +kernel
theorem dX5_delay_39 : decode cX5_delay 39 = .ok (.iload_n 2, 1) := by decide +kernel
theorem dX5_delay_40 : decode cX5_delay 40 = .ok (.iastore, 1) := by decide +kernel
theorem dX5_delay_41 : decode cX5_delay 41 = .ok (.aload_n 0, 1) := by decide +kernel
theorem dX5_delay_42 : decode cX5_delay 42 = .ok (.getfield 19, 3) := by decide +kernel
theorem dX5_delay_45 : decode cX5_delay 45 = .ok (.aload_n 0, 1) := by decide +kernel
theorem dX5_delay_46 : decode cX5_delay 46 = .ok (.getfield 10, 3) := by decide +kernel
theorem dX5_delay_49 : decode cX5_delay 49 = .ok (.invokevirtual 72, 3) := by decide +kernel
theorem dX5_delay_52 : decode cX5_delay 52 = .ok (.aload_n 0, 1) := by decide +kernel
theorem dX5_delay_53 : decode cX5_delay 53 = .ok (.getfield 10, 3) := by decide +kernel
theorem dX5_delay_56 : decode cX5_delay 56 = .ok (.iload_n 1, 1) := by decide +kernel
theorem dX5_delay_57 : decode cX5_delay 57 = .ok (.invokevirtual 88, 3) := by decide +kernel
theorem dX5_delay_60 : decode cX5_delay 60 = .ok (.ireturn, 1) := by decide +kernel
theorem dX5_van_0 : decode cX5_van 0 = .ok (.iload_n 1, 1) := by decide +kernel
theorem dX5_van_1 : decode cX5_van 1 = .ok (.invokestatic 92, 3) := by decide +kernel
theorem dX5_van_4 : decode cX5_van 4 = .ok (.ifCond .ne 6, 3) := by decide +kernel
theorem dX5_van_7 : decode cX5_van 7 = .ok (.bipush (-101), 2) := by decide +kernel
theorem dX5_van_9 : decode cX5_van 9 = .ok (.ireturn, 1) := by decide +kernel
theorem dX5_van_10 : decode cX5_van 10 = .ok (.iload_n 2, 1) := by decide +kernel
theorem dX5_van_11 : decode cX5_van 11 = .ok (.iconst 0, 1) := by decide +kernel
theorem dX5_van_12 : decode cX5_van 12 = .ok (.sipush 1500, 3) := by decide +kernel
theorem dX5_van_15 : decode cX5_van 15 = .ok (.invokestatic 54, 3) := by decide +kernel
theorem dX5_van_18 : decode cX5_van 18 = .ok (.ifCond .eq 13, 3) := by decide +kernel
theorem dX5_van_21 : decode cX5_van 21 = .ok (.iload_n 3, 1) := by decide +kernel
theorem dX5_van_22 : decode cX5_van 22 = .ok (.iconst 0, 1) := by decide +kernel
theorem dX5_van_23 : decode cX5_van 23 = .ok (.bipush 12, 2) := by decide +kernel
theorem dX5_van_25 : decode cX5_van 25 = .ok (.invokestatic 54, 3) := by decide +kernel
theorem dX5_van_28 : decode cX5_van 28 = .ok (.ifCond .ne 6, 3) := by decide +kernel
theorem dX5_van_31 : decode cX5_van 31 = .ok (.bipush (-102), 2) := by decide +kernel
theorem dX5_van_33 : decode cX5_van 33 = .ok (.ireturn, 1) := by decide +kernel
theorem dX5_van_34 : decode cX5_van 34 = .ok (.aload_n 0, 1) := by decide +kernel
theorem dX5_van_35 : decode cX5_van 35 = .ok (.getfield 46, 3) := by decide +kernel
theorem dX5_van_38 : decode cX5_van 38 = .ok (.aload_n 0, 1) := by decide +kernel
theorem dX5_van_39 : decode cX5_van 39 = .ok (.getfield 10, 3) := by decide +kernel
theorem dX5_van_42 : decode cX5_van 42 = .ok (.invokevirtual 68, 3) := by decide +kernel
theorem dX5_van_45 : decode cX5_van 45 = .ok (.aload_n 0, 1) := by decide +kernel
theorem dX5_van_46 : decode cX5_van 46 = .ok (.getfield 10, 3) := by decide +kernel
theorem dX5_van_49 : decode cX5_van 49 = .ok (.getfield 95, 3) := by decide +kernel
theorem dX5_van_52 : decode cX5_van 52 = .ok (.iload_n 1, 1) := by decide +kernel
theorem dX5_van_53 : decode cX5_van 53 = .ok (.iload_n 2, 1) := by decide +kernel
theorem dX5_van_54 : decode cX5_van 54 = .ok (.iastore, 1) := by decide +kernel
theorem dX5_van_55 : decode cX5_van 55 = .ok (.aload_n 0, 1) := by decide +kernel
theorem dX5_van_56 : decode cX5_van 56 = .ok (.getfield 10, 3) := by decide +kernel
theorem dX5_van_59 : decode cX5_van 59 = .ok (.getfield 98, 3) := by decide +kernel
theorem dX5_van_62 : decode cX5_van 62 = .ok (.iload_n 1, 1) := by decide +kernel
theorem dX5_van_63 : decode cX5_van 63 = .ok (.iload_n 3, 1) := by decide +kernel
theorem dX5_van_64 : decode cX5_van 64 = .ok (.iastore, 1) := by decide +kernel
theorem dX5_van_65 : decode cX5_van 65 = .ok (.aload_n 0, 1) := by decide +kernel
theorem dX5_van_66 : decode cX5_van 66 = .ok (.getfield 19, 3) := by decide +kernel
theorem dX5_van_69 : decode cX5_van 69 = .ok (.aload_n 0, 1) := by decide +kernel
theorem dX5_van_70 : decode cX5_van 70 = .ok (.getfield 10, 3) := by decide +kernel
theorem dX5_van_73 : decode cX5_van 73 = .ok (.invokevirtual 72, 3) := by decide +kernel
theorem dX5_van_76 : decode cX5_van 76 = .ok (.aload_n 0, 1) := by decide +kernel
theorem dX5_van_77 : decode cX5_van 77 = .ok (.getfield 19, 3) := by decide +kernel
theorem dX5_van_80 : decode cX5_van 80 = .ok (.getfield 101, 3) := by decide +kernel
theorem dX5_van_83 : decode cX5_van 83 = .ok (.ireturn, 1) := by decide +kernel
theorem dX5_ride_0 : decode cX5_ride 0 = .ok (.iload_n 1, 1) := by decide +kernel
theorem dX5_ride_1 : decode cX5_ride 1 = .ok (.invokestatic 75, 3) := by decide +kernel
theorem dX5_ride_4 : decode cX5_ride 4 = .ok (.ifCond .eq 12, 3) := by decide +kernel
theorem dX5_ride_7 : decode cX5_ride 7 = .ok (.iload_n 2, 1) := by decide +kernel
theorem dX5_ride_8 : decode cX5_ride 8 = .ok (.iconst 0, 1) := by decide +kernel
theorem dX5_ride_9 : decode cX5_ride 9 = .ok (.iconst 5, 1) := by decide +kernel
theorem dX5_ride_10 : decode cX5_ride 10 = .ok (.invokestatic 54, 3) := by decide +kernel
theorem dX5_ride_13 : decode cX5_ride 13 = .ok (.ifCond .ne 6, 3) := by decide +kernel
theorem dX5_ride_16 : decode cX5_ride 16 = .ok (.bipush (-101), 2) := by decide +kernel
theorem dX5_ride_18 : decode cX5_ride 18 = .ok (.ireturn, 1) := by decide +kernel
theorem dX5_ride_19 : decode cX5_ride 19 = .ok (.iload_n 3, 1) := by decide +kernel
theorem dX5_ride_20 : decode cX5_ride 20 = .ok (.iconst 0, 1) := by decide +kernel
theorem dX5_ride_21 : decode cX5_ride 21 = .ok (.bipush 99, 2) := by decide +kernel
theorem dX5_ride_23 : decode cX5_ride 23 = .ok (.invokestatic 54, 3) := by decide +kernel
theorem dX5_ride_26 : decode cX5_ride 26 = .ok (.ifCond .eq 13, 3) := by decide +kernel
theorem dX5_ride_29 : decode cX5_ride 29 = .ok (.iload 4, 2) := by decide +kernel
theorem dX5_ride_31 : decode cX5_ride 31 = .ok (.iconst 1, 1) := by decide +kernel
theorem dX5_ride_32 : decode cX5_ride 32 = .ok (.iconst 4, 1) := by decide +kernel
theorem dX5_ride_33 : decode cX5_ride 33 = .ok (.invokestatic 54, 3) := by decide +kernel
theorem dX5_ride_36 : decode cX5_ride 36 = .ok (.ifCond .ne 6, 3) := by decide +kernel
theorem dX5_ride_39 : decode cX5_ride 39 = .ok (.bipush (-102), 2) := by decide +kernel
theorem dX5_ride_41 : decode cX5_ride 41 = .ok (.ireturn, 1) := by decide +kernel
theorem dX5_ride_42 : decode cX5_ride 42 = .ok (.aload_n 0, 1) := by decide +kernel
theorem dX5_ride_43 : decode cX5_ride 43 = .ok (.getfield 10, 3) := by decide +kernel
theorem dX5_ride_46 : decode cX5_ride 46 = .ok (.getfield 105, 3) := by decide +kernel
theorem dX5_ride_49 : decode cX5_ride 49 = .ok (.bipush 24, 2) := by decide +kernel
theorem dX5_ride_51 : decode cX5_ride 51 = .ok (.if_icmp .lt 6, 3) := by decide +kernel
theorem dX5_ride_54 : decode cX5_ride 54 = .ok (.bipush (-104), 2) := by decide +kernel
theorem dX5_ride_56 : decode cX5_ride 56 = .ok (.ireturn, 1) := by decide +kernel
theorem dX5_ride_57 : decode cX5_ride 57 = .ok (.aload_n 0, 1) := by decide +kernel
theorem dX5_ride_58 : decode cX5_ride 58 = .ok (.getfield 46, 3) := by decide +kernel
theorem dX5_ride_61 : decode cX5_ride 61 = .ok (.aload_n 0, 1) := by decide +kernel
theorem dX5_ride_62 : decode cX5_ride 62 = .ok (.getfield 10, 3) := by decide +kernel
theorem dX5_ride_65 : decode cX5_ride 65 = .ok (.invokevirtual 68, 3) := by decide +kernel
theorem dX5_ride_68 : decode cX5_ride 68 = .ok (.aload_n 0, 1) := by decide +kernel
theorem dX5_ride_69 : decode cX5_ride 69 = .ok (.getfield 10, 3) := by decide +kernel
theorem dX5_ride_72 : decode cX5_ride 72 = .ok (.iload_n 1, 1) := by decide +kernel
theorem dX5_ride_73 : decode cX5_ride 73 = .ok (.iload_n 2, 1) := by decide +kernel
theorem dX5_ride_74 : decode cX5_ride 74 = .ok (.iload_n 3, 1) := by decide +kernel
theorem dX5_ride_75 : decode cX5_ride 75 = .ok (.iload 4, 2) := by decide +kernel
theorem dX5_ride_77 : decode cX5_ride 77 = .ok (.invokevirtual 108, 3) := by decide +kernel
theorem dX5_ride_80 : decode cX5_ride 80 = .ok (.aload_n 0, 1) := by decide +kernel
theorem dX5_ride_81 : decode cX5_ride 81 = .ok (.getfield 19, 3) := by decide +kernel
theorem dX5_ride_84 : decode cX5_ride 84 = .ok (.aload_n 0, 1) := by decide +kernel
theorem dX5_ride_85 : decode cX5_ride 85 = .ok (.getfield 10, 3) := by decide +kernel
theorem dX5_ride_88 : decode cX5_ride 88 = .ok (.invokevirtual 72, 3) := by decide +kernel
theorem dX5_ride_91 : decode cX5_ride 91 = .ok (.aload_n 0, 1) := by decide +kernel
theorem dX5_ride_92 : decode cX5_ride 92 = .ok (.getfield 10, 3) := by decide +kernel
theorem dX5_ride_95 : decode cX5_ride 95 = .ok (.getfield 105, 3) := by decide +kernel
theorem dX5_ride_98 : decode cX5_ride 98 = .ok (.iconst 1, 1) := by decide +kernel
theorem dX5_ride_99 : decode cX5_ride 99 = .ok (.isub, 1) := by decide +kernel
theorem dX5_ride_100 : decode cX5_ride 100 = .ok (.ireturn, 1) := by decide +kernel
theorem dX5_cancel_0 : decode cX5_cancel 0 = .ok (.aload_n 0, 1) := by decide +kernel
theorem dX5_cancel_1 : decode cX5_cancel 1 = .ok (.iload_n 1, 1) := by decide +kernel
theorem dX5_cancel_2 : decode cX5_cancel 2 = .ok (.invokevirtual 125, 3) := by decide +kernel
theorem dX5_cancel_5 : decode cX5_cancel 5 = .ok (.ifCond .ne 6, 3) := by decide +kernel
theorem dX5_cancel_8 : decode cX5_cancel 8 = .ok (.bipush (-101), 2) := by decide +kernel
theorem dX5_cancel_10 : decode cX5_cancel 10 = .ok (.ireturn, 1) := by decide +kernel
theorem dX5_cancel_11 : decode cX5_cancel 11 = .ok (.aload_n 0, 1) := by decide +kernel
theorem dX5_cancel_12 : decode cX5_cancel 12 = .ok (.getfield 19, 3) := by decide +kernel
theorem dX5_cancel_15 : decode cX5_cancel 15 = .ok (.aload_n 0, 1) := by decide +kernel
theorem dX5_cancel_16 : decode cX5_cancel 16 = .ok (.getfield 10, 3) := by decide +kernel
theorem dX5_cancel_19 : decode cX5_cancel 19 = .ok (.iload_n 1, 1) := by decide +kernel
theorem dX5_cancel_20 : decode cX5_cancel 20 = .ok (.invokevirtual 128, 3) := by decide +kernel
theorem dX5_cancel_23 : decode cX5_cancel 23 = .ok (.istore_n 2, 1) := by decide +kernel
theorem dX5_cancel_24 : decode cX5_cancel 24 = .ok (.aload_n 0, 1) := by decide +kernel
theorem dX5_cancel_25 : decode cX5_cancel 25 = .ok (.getfield 46, 3) := by decide +kernel
theorem dX5_cancel_28 : decode cX5_cancel 28 = .ok (.aload_n 0, 1) := by decide +kernel
theorem dX5_cancel_29 : decode cX5_cancel 29 = .ok (.getfield 10, 3) := by decide +kernel
theorem dX5_cancel_32 : decode cX5_cancel 32 = .ok (.invokevirtual 68, 3) := by decide +kernel
theorem dX5_cancel_35 : decode cX5_cancel 35 = .ok (.aload_n 0, 1) := by decide +kernel
theorem dX5_cancel_36 : decode cX5_cancel 36 = .ok (.getfield 10, 3) := by decide +kernel
theorem dX5_cancel_39 : decode cX5_cancel 39 = .ok (.iload_n 1, 1) := by decide +kernel
theorem dX5_cancel_40 : decode cX5_cancel 40 = .ok (.invokevirtual 132, 3) := by decide +kernel
theorem dX5_cancel_43 : decode cX5_cancel 43 = .ok (.aload_n 0, 1) := by decide +kernel
theorem dX5_cancel_44 : decode cX5_cancel 44 = .ok (.getfield 19, 3) := by decide +kernel
theorem dX5_cancel_47 : decode cX5_cancel 47 = .ok (.aload_n 0, 1) := by decide +kernel
theorem dX5_cancel_48 : decode cX5_cancel 48 = .ok (.getfield 10, 3) := by decide +kernel
theorem dX5_cancel_51 : decode cX5_cancel 51 = .ok (.invokevirtual 72, 3) := by decide +kernel
theorem dX5_cancel_54 : decode cX5_cancel 54 = .ok (.iload_n 2, 1) := by decide +kernel
theorem dX5_cancel_55 : decode cX5_cancel 55 = .ok (.ireturn, 1) := by decide +kernel
theorem dX5_rebook_0 : decode cX5_rebook 0 = .ok (.aload_n 0, 1) := by decide +kernel
theorem dX5_rebook_1 : decode cX5_rebook 1 = .ok (.iload_n 1, 1) := by decide +kernel
theorem dX5_rebook_2 : decode cX5_rebook 2 = .ok (.invokevirtual 125, 3) := by decide +kernel
theorem dX5_rebook_5 : decode cX5_rebook 5 = .ok (.ifCond .eq 10, 3) := by decide +kernel
theorem dX5_rebook_8 : decode cX5_rebook 8 = .ok (.iload_n 2, 1) := by decide +kernel
theorem dX5_rebook_9 : decode cX5_rebook 9 = .ok (.invokestatic 75, 3) := by decide +kernel
theorem dX5_rebook_12 : decode cX5_rebook 12 = .ok (.ifCond .ne 6, 3) := by decide +kernel
theorem dX5_rebook_15 : decode cX5_rebook 15 = .ok (.bipush (-101), 2) := by decide +kernel
theorem dX5_rebook_17 : decode cX5_rebook 17 = .ok (.ireturn, 1) := by decide +kernel
theorem dX5_rebook_18 : decode cX5_rebook 18 = .ok (.aload_n 0, 1) := by decide +kernel
theorem dX5_rebook_19 : decode cX5_rebook 19 = .ok (.getfield 10, 3) := by decide +kernel
theorem dX5_rebook_22 : decode cX5_rebook 22 = .ok (.getfield 136, 3) := by decide +kernel
theorem dX5_rebook_25 : decode cX5_rebook 25 = .ok (.iload_n 1, 1) := by decide +kernel
theorem dX5_rebook_26 : decode cX5_rebook 26 = .ok (.iaload, 1) := by decide +kernel
theorem dX5_rebook_27 : decode cX5_rebook 27 = .ok (.iload_n 2, 1) := by decide +kernel
theorem dX5_rebook_28 : decode cX5_rebook 28 = .ok (.if_icmp .ne 6, 3) := by decide +kernel
theorem dX5_rebook_31 : decode cX5_rebook 31 = .ok (.bipush (-105), 2) := by decide +kernel
theorem dX5_rebook_33 : decode cX5_rebook 33 = .ok (.ireturn, 1) := by decide +kernel
theorem dX5_rebook_34 : decode cX5_rebook 34 = .ok (.aload_n 0, 1) := by decide +kernel
theorem dX5_rebook_35 : decode cX5_rebook 35 = .ok (.getfield 46, 3) := by decide +kernel
theorem dX5_rebook_38 : decode cX5_rebook 38 = .ok (.aload_n 0, 1) := by decide +kernel
theorem dX5_rebook_39 : decode cX5_rebook 39 = .ok (.getfield 10, 3) := by decide +kernel
theorem dX5_rebook_42 : decode cX5_rebook 42 = .ok (.invokevirtual 68, 3) := by decide +kernel
theorem dX5_rebook_45 : decode cX5_rebook 45 = .ok (.aload_n 0, 1) := by decide +kernel
theorem dX5_rebook_46 : decode cX5_rebook 46 = .ok (.getfield 10, 3) := by decide +kernel
theorem dX5_rebook_49 : decode cX5_rebook 49 = .ok (.getfield 136, 3) := by decide +kernel
theorem dX5_rebook_52 : decode cX5_rebook 52 = .ok (.iload_n 1, 1) := by decide +kernel
theorem dX5_rebook_53 : decode cX5_rebook 53 = .ok (.iload_n 2, 1) := by decide +kernel
theorem dX5_rebook_54 : decode cX5_rebook 54 = .ok (.iastore, 1) := by decide +kernel
theorem dX5_rebook_55 : decode cX5_rebook 55 = .ok (.aload_n 0, 1) := by decide +kernel
theorem dX5_rebook_56 : decode cX5_rebook 56 = .ok (.getfield 19, 3) := by decide +kernel
theorem dX5_rebook_59 : decode cX5_rebook 59 = .ok (.aload_n 0, 1) := by decide +kernel
theorem dX5_rebook_60 : decode cX5_rebook 60 = .ok (.getfield 10, 3) := by decide +kernel
theorem dX5_rebook_63 : decode cX5_rebook 63 = .ok (.invokevirtual 72, 3) := by decide +kernel
theorem dX5_rebook_66 : decode cX5_rebook 66 = .ok (.aload_n 0, 1) := by decide +kernel
theorem dX5_rebook_67 : decode cX5_rebook 67 = .ok (.getfield 19, 3) := by decide +kernel
theorem dX5_rebook_70 : decode cX5_rebook 70 = .ok (.getfield 139, 3) := by decide +kernel
theorem dX5_rebook_73 : decode cX5_rebook 73 = .ok (.iload_n 1, 1) := by decide +kernel
theorem dX5_rebook_74 : decode cX5_rebook 74 = .ok (.iaload, 1) := by decide +kernel
theorem dX5_rebook_75 : decode cX5_rebook 75 = .ok (.ireturn, 1) := by decide +kernel
theorem dX5_rider_0 : decode cX5_rider 0 = .ok (.aload_n 0, 1) := by decide +kernel
theorem dX5_rider_1 : decode cX5_rider 1 = .ok (.iload_n 1, 1) := by decide +kernel
theorem dX5_rider_2 : decode cX5_rider 2 = .ok (.invokevirtual 125, 3) := by decide +kernel
theorem dX5_rider_5 : decode cX5_rider 5 = .ok (.ifCond .ne 6, 3) := by decide +kernel
theorem dX5_rider_8 : decode cX5_rider 8 = .ok (.bipush (-101), 2) := by decide +kernel
theorem dX5_rider_10 : decode cX5_rider 10 = .ok (.ireturn, 1) := by decide +kernel
theorem dX5_rider_11 : decode cX5_rider 11 = .ok (.iload_n 2, 1) := by decide +kernel
theorem dX5_rider_12 : decode cX5_rider 12 = .ok (.tableswitch 160 0 9 #[56, 66, 76, 86, 96, 105, 115, 128, 134, 147], 56) := by decide +kernel
theorem dX5_rider_68 : decode cX5_rider 68 = .ok (.aload_n 0, 1) := by decide +kernel
theorem dX5_rider_69 : decode cX5_rider 69 = .ok (.getfield 10, 3) := by decide +kernel
theorem dX5_rider_72 : decode cX5_rider 72 = .ok (.getfield 136, 3) := by decide +kernel
theorem dX5_rider_75 : decode cX5_rider 75 = .ok (.iload_n 1, 1) := by decide +kernel
theorem dX5_rider_76 : decode cX5_rider 76 = .ok (.iaload, 1) := by decide +kernel
theorem dX5_rider_77 : decode cX5_rider 77 = .ok (.ireturn, 1) := by decide +kernel
theorem dX5_rider_78 : decode cX5_rider 78 = .ok (.aload_n 0, 1) := by decide +kernel
theorem dX5_rider_79 : decode cX5_rider 79 = .ok (.getfield 10, 3) := by decide +kernel
theorem dX5_rider_82 : decode cX5_rider 82 = .ok (.getfield 142, 3) := by decide +kernel
theorem dX5_rider_85 : decode cX5_rider 85 = .ok (.iload_n 1, 1) := by decide +kernel
theorem dX5_rider_86 : decode cX5_rider 86 = .ok (.iaload, 1) := by decide +kernel
theorem dX5_rider_87 : decode cX5_rider 87 = .ok (.ireturn, 1) := by decide +kernel
theorem dX5_rider_88 : decode cX5_rider 88 = .ok (.aload_n 0, 1) := by decide +kernel
theorem dX5_rider_89 : decode cX5_rider 89 = .ok (.getfield 10, 3) := by decide +kernel
theorem dX5_rider_92 : decode cX5_rider 92 = .ok (.getfield 145, 3) := by decide +kernel
theorem dX5_rider_95 : decode cX5_rider 95 = .ok (.iload_n 1, 1) := by decide +kernel
theorem dX5_rider_96 : decode cX5_rider 96 = .ok (.iaload, 1) := by decide +kernel
theorem dX5_rider_97 : decode cX5_rider 97 = .ok (.ireturn, 1) := by decide +kernel
theorem dX5_rider_98 : decode cX5_rider 98 = .ok (.aload_n 0, 1) := by decide +kernel
theorem dX5_rider_99 : decode cX5_rider 99 = .ok (.getfield 10, 3) := by decide +kernel
theorem dX5_rider_102 : decode cX5_rider 102 = .ok (.getfield 148, 3) := by decide +kernel
theorem dX5_rider_105 : decode cX5_rider 105 = .ok (.iload_n 1, 1) := by decide +kernel
theorem dX5_rider_106 : decode cX5_rider 106 = .ok (.iaload, 1) := by decide +kernel
theorem dX5_rider_107 : decode cX5_rider 107 = .ok (.ireturn, 1) := by decide +kernel
theorem dX5_rider_108 : decode cX5_rider 108 = .ok (.aload_n 0, 1) := by decide +kernel
theorem dX5_rider_109 : decode cX5_rider 109 = .ok (.getfield 10, 3) := by decide +kernel
theorem dX5_rider_112 : decode cX5_rider 112 = .ok (.iload_n 1, 1) := by decide +kernel
theorem dX5_rider_113 : decode cX5_rider 113 = .ok (.invokevirtual 151, 3) := by decide +kernel
theorem dX5_rider_116 : decode cX5_rider 116 = .ok (.ireturn, 1) := by decide +kernel
theorem dX5_rider_117 : decode cX5_rider 117 = .ok (.aload_n 0, 1) := by decide +kernel
theorem dX5_rider_118 : decode cX5_rider 118 = .ok (.getfield 19, 3) := by decide +kernel
end
section
theorem dX5_rider_121 : decode cX5_rider 121 = .ok (.getfield 139, 3) := by decide +kernel
theorem dX5_rider_124 : decode cX5_rider 124 = .ok (.iload_n 1, 1) := by decide +kernel
theorem dX5_rider_125 : decode cX5_rider 125 = .ok (.iaload, 1) := by decide +kernel
theorem dX5_rider_126 : decode cX5_rider 126 = .ok (.ireturn, 1) := by decide +kernel
theorem dX5_rider_127 : decode cX5_rider 127 = .ok (.aload_n 0, 1) := by decide +kernel
theorem dX5_rider_128 : decode cX5_rider 128 = .ok (.getfield 19, 3) := by decide +kernel
theorem dX5_rider_131 : decode cX5_rider 131 = .ok (.aload_n 0, 1) := by decide +kernel
theorem dX5_rider_132 : decode cX5_rider 132 = .ok (.getfield 10, 3) := by decide +kernel
theorem dX5_rider_135 : decode cX5_rider 135 = .ok (.iload_n 1, 1) := by decide +kernel
theorem dX5_rider_136 : decode cX5_rider 136 = .ok (.invokevirtual 154, 3) := by decide +kernel
theorem dX5_rider_139 : decode cX5_rider 139 = .ok (.ireturn, 1) := by decide +kernel
theorem dX5_rider_140 : decode cX5_rider 140 = .ok (.aload_n 0, 1) := by decide +kernel
theorem dX5_rider_141 : decode cX5_rider 141 = .ok (.iload_n 1, 1) := by decide +kernel
theorem dX5_rider_142 : decode cX5_rider 142 = .ok (.invokevirtual 157, 3) := by decide +kernel
theorem dX5_rider_145 : decode cX5_rider 145 = .ok (.ireturn, 1) := by decide +kernel
theorem dX5_rider_146 : decode cX5_rider 146 = .ok (.aload_n 0, 1) := by decide +kernel
theorem dX5_rider_147 : decode cX5_rider 147 = .ok (.getfield 19, 3) := by decide +kernel
theorem dX5_rider_150 : decode cX5_rider 150 = .ok (.aload_n 0, 1) := by decide +kernel
theorem dX5_rider_151 : decode cX5_rider 151 = .ok (.getfield 10, 3) := by decide +kernel
theorem dX5_rider_154 : decode cX5_rider 154 = .ok (.iload_n 1, 1) := by decide +kernel
theorem dX5_rider_155 : decode cX5_rider 155 = .ok (.invokevirtual 128, 3) := by decide +kernel
theorem dX5_rider_158 : decode cX5_rider 158 = .ok (.ireturn, 1) := by decide +kernel
theorem dX5_rider_159 : decode cX5_rider 159 = .ok (.aload_n 0, 1) := by decide +kernel
theorem dX5_rider_160 : decode cX5_rider 160 = .ok (.getfield 19, 3) := by decide +kernel
theorem dX5_rider_163 : decode cX5_rider 163 = .ok (.aload_n 0, 1) := by decide +kernel
theorem dX5_rider_164 : decode cX5_rider 164 = .ok (.getfield 10, 3) := by decide +kernel
theorem dX5_rider_167 : decode cX5_rider 167 = .ok (.iload_n 1, 1) := by decide +kernel
theorem dX5_rider_168 : decode cX5_rider 168 = .ok (.invokevirtual 160, 3) := by decide +kernel
theorem dX5_rider_171 : decode cX5_rider 171 = .ok (.ireturn, 1) := by decide +kernel
theorem dX5_rider_172 : decode cX5_rider 172 = .ok (.bipush (-102), 2) := by decide +kernel
theorem dX5_rider_174 : decode cX5_rider 174 = .ok (.ireturn, 1) := by decide +kernel
theorem dX5_vanOf_0 : decode cX5_vanOf 0 = .ok (.iload_n 1, 1) := by decide +kernel
theorem dX5_vanOf_1 : decode cX5_vanOf 1 = .ok (.invokestatic 92, 3) := by decide +kernel
theorem dX5_vanOf_4 : decode cX5_vanOf 4 = .ok (.ifCond .ne 6, 3) := by decide +kernel
theorem dX5_vanOf_7 : decode cX5_vanOf 7 = .ok (.bipush (-101), 2) := by decide +kernel
theorem dX5_vanOf_9 : decode cX5_vanOf 9 = .ok (.ireturn, 1) := by decide +kernel
theorem dX5_vanOf_10 : decode cX5_vanOf 10 = .ok (.aload_n 0, 1) := by decide +kernel
theorem dX5_vanOf_11 : decode cX5_vanOf 11 = .ok (.getfield 26, 3) := by decide +kernel
theorem dX5_vanOf_14 : decode cX5_vanOf 14 = .ok (.aload_n 0, 1) := by decide +kernel
theorem dX5_vanOf_15 : decode cX5_vanOf 15 = .ok (.getfield 10, 3) := by decide +kernel
theorem dX5_vanOf_18 : decode cX5_vanOf 18 = .ok (.aload_n 0, 1) := by decide +kernel
theorem dX5_vanOf_19 : decode cX5_vanOf 19 = .ok (.getfield 19, 3) := by decide +kernel
theorem dX5_vanOf_22 : decode cX5_vanOf 22 = .ok (.iload_n 1, 1) := by decide +kernel
theorem dX5_vanOf_23 : decode cX5_vanOf 23 = .ok (.invokevirtual 163, 3) := by decide +kernel
theorem dX5_vanOf_26 : decode cX5_vanOf 26 = .ok (.iload_n 2, 1) := by decide +kernel
theorem dX5_vanOf_27 : decode cX5_vanOf 27 = .ok (.tableswitch 127 0 7 #[45, 55, 65, 75, 88, 98, 106, 114], 45) := by decide +kernel
theorem dX5_vanOf_72 : decode cX5_vanOf 72 = .ok (.aload_n 0, 1) := by decide +kernel
theorem dX5_vanOf_73 : decode cX5_vanOf 73 = .ok (.getfield 10, 3) := by decide +kernel
theorem dX5_vanOf_76 : decode cX5_vanOf 76 = .ok (.getfield 95, 3) := by decide +kernel
theorem dX5_vanOf_79 : decode cX5_vanOf 79 = .ok (.iload_n 1, 1) := by decide +kernel
theorem dX5_vanOf_80 : decode cX5_vanOf 80 = .ok (.iaload, 1) := by decide +kernel
theorem dX5_vanOf_81 : decode cX5_vanOf 81 = .ok (.ireturn, 1) := by decide +kernel
theorem dX5_vanOf_82 : decode cX5_vanOf 82 = .ok (.aload_n 0, 1) := by decide +kernel
theorem dX5_vanOf_83 : decode cX5_vanOf 83 = .ok (.getfield 10, 3) := by decide +kernel
theorem dX5_vanOf_86 : decode cX5_vanOf 86 = .ok (.getfield 98, 3) := by decide +kernel
theorem dX5_vanOf_89 : decode cX5_vanOf 89 = .ok (.iload_n 1, 1) := by decide +kernel
theorem dX5_vanOf_90 : decode cX5_vanOf 90 = .ok (.iaload, 1) := by decide +kernel
theorem dX5_vanOf_91 : decode cX5_vanOf 91 = .ok (.ireturn, 1) := by decide +kernel
theorem dX5_vanOf_92 : decode cX5_vanOf 92 = .ok (.aload_n 0, 1) := by decide +kernel
theorem dX5_vanOf_93 : decode cX5_vanOf 93 = .ok (.getfield 19, 3) := by decide +kernel
theorem dX5_vanOf_96 : decode cX5_vanOf 96 = .ok (.getfield 167, 3) := by decide +kernel
theorem dX5_vanOf_99 : decode cX5_vanOf 99 = .ok (.iload_n 1, 1) := by decide +kernel
theorem dX5_vanOf_100 : decode cX5_vanOf 100 = .ok (.iaload, 1) := by decide +kernel
theorem dX5_vanOf_101 : decode cX5_vanOf 101 = .ok (.ireturn, 1) := by decide +kernel
theorem dX5_vanOf_102 : decode cX5_vanOf 102 = .ok (.aload_n 0, 1) := by decide +kernel
theorem dX5_vanOf_103 : decode cX5_vanOf 103 = .ok (.getfield 19, 3) := by decide +kernel
theorem dX5_vanOf_106 : decode cX5_vanOf 106 = .ok (.aload_n 0, 1) := by decide +kernel
theorem dX5_vanOf_107 : decode cX5_vanOf 107 = .ok (.getfield 10, 3) := by decide +kernel
theorem dX5_vanOf_110 : decode cX5_vanOf 110 = .ok (.iload_n 1, 1) := by decide +kernel
theorem dX5_vanOf_111 : decode cX5_vanOf 111 = .ok (.invokevirtual 170, 3) := by decide +kernel
theorem dX5_vanOf_114 : decode cX5_vanOf 114 = .ok (.ireturn, 1) := by decide +kernel
theorem dX5_vanOf_115 : decode cX5_vanOf 115 = .ok (.aload_n 0, 1) := by decide +kernel
theorem dX5_vanOf_116 : decode cX5_vanOf 116 = .ok (.getfield 19, 3) := by decide +kernel
theorem dX5_vanOf_119 : decode cX5_vanOf 119 = .ok (.getfield 173, 3) := by decide +kernel
theorem dX5_vanOf_122 : decode cX5_vanOf 122 = .ok (.iload_n 1, 1) := by decide +kernel
theorem dX5_vanOf_123 : decode cX5_vanOf 123 = .ok (.iaload, 1) := by decide +kernel
theorem dX5_vanOf_124 : decode cX5_vanOf 124 = .ok (.ireturn, 1) := by decide +kernel
theorem dX5_vanOf_125 : decode cX5_vanOf 125 = .ok (.aload_n 0, 1) := by decide +kernel
theorem dX5_vanOf_126 : decode cX5_vanOf 126 = .ok (.getfield 26, 3) := by decide +kernel
theorem dX5_vanOf_129 : decode cX5_vanOf 129 = .ok (.getfield 176, 3) := by decide +kernel
theorem dX5_vanOf_132 : decode cX5_vanOf 132 = .ok (.ireturn, 1) := by decide +kernel
theorem dX5_vanOf_133 : decode cX5_vanOf 133 = .ok (.aload_n 0, 1) := by decide +kernel
theorem dX5_vanOf_134 : decode cX5_vanOf 134 = .ok (.getfield 26, 3) := by decide +kernel
theorem dX5_vanOf_137 : decode cX5_vanOf 137 = .ok (.invokevirtual 179, 3) := by decide +kernel
theorem dX5_vanOf_140 : decode cX5_vanOf 140 = .ok (.ireturn, 1) := by decide +kernel
theorem dX5_vanOf_141 : decode cX5_vanOf 141 = .ok (.aload_n 0, 1) := by decide +kernel
theorem dX5_vanOf_142 : decode cX5_vanOf 142 = .ok (.getfield 19, 3) := by decide +kernel
theorem dX5_vanOf_145 : decode cX5_vanOf 145 = .ok (.aload_n 0, 1) := by decide +kernel
theorem dX5_vanOf_146 : decode cX5_vanOf 146 = .ok (.getfield 10, 3) := by decide +kernel
theorem dX5_vanOf_149 : decode cX5_vanOf 149 = .ok (.iload_n 1, 1) := by decide +kernel
theorem dX5_vanOf_150 : decode cX5_vanOf 150 = .ok (.invokevirtual 182, 3) := by decide +kernel
theorem dX5_vanOf_153 : decode cX5_vanOf 153 = .ok (.ireturn, 1) := by decide +kernel
theorem dX5_vanOf_154 : decode cX5_vanOf 154 = .ok (.bipush (-102), 2) := by decide +kernel
theorem dX5_vanOf_156 : decode cX5_vanOf 156 = .ok (.ireturn, 1) := by decide +kernel
theorem dX5_flight_0 : decode cX5_flight 0 = .ok (.iload_n 1, 1) := by decide +kernel
theorem dX5_flight_1 : decode cX5_flight 1 = .ok (.invokestatic 75, 3) := by decide +kernel
theorem dX5_flight_4 : decode cX5_flight 4 = .ok (.ifCond .ne 6, 3) := by decide +kernel
theorem dX5_flight_7 : decode cX5_flight 7 = .ok (.bipush (-101), 2) := by decide +kernel
theorem dX5_flight_9 : decode cX5_flight 9 = .ok (.ireturn, 1) := by decide +kernel
theorem dX5_flight_10 : decode cX5_flight 10 = .ok (.iload_n 2, 1) := by decide +kernel
theorem dX5_flight_11 : decode cX5_flight 11 = .ok (.tableswitch 90 0 4 #[33, 43, 53, 62, 76], 33) := by decide +kernel
theorem dX5_flight_44 : decode cX5_flight 44 = .ok (.aload_n 0, 1) := by decide +kernel
theorem dX5_flight_45 : decode cX5_flight 45 = .ok (.getfield 10, 3) := by decide +kernel
theorem dX5_flight_48 : decode cX5_flight 48 = .ok (.getfield 79, 3) := by decide +kernel
theorem dX5_flight_51 : decode cX5_flight 51 = .ok (.iload_n 1, 1) := by decide +kernel
theorem dX5_flight_52 : decode cX5_flight 52 = .ok (.iaload, 1) := by decide +kernel
theorem dX5_flight_53 : decode cX5_flight 53 = .ok (.ireturn, 1) := by decide +kernel
theorem dX5_flight_54 : decode cX5_flight 54 = .ok (.aload_n 0, 1) := by decide +kernel
theorem dX5_flight_55 : decode cX5_flight 55 = .ok (.getfield 10, 3) := by decide +kernel
theorem dX5_flight_58 : decode cX5_flight 58 = .ok (.getfield 85, 3) := by decide +kernel
theorem dX5_flight_61 : decode cX5_flight 61 = .ok (.iload_n 1, 1) := by decide +kernel
theorem dX5_flight_62 : decode cX5_flight 62 = .ok (.iaload, 1) := by decide +kernel
theorem dX5_flight_63 : decode cX5_flight 63 = .ok (.ireturn, 1) := by decide +kernel
theorem dX5_flight_64 : decode cX5_flight 64 = .ok (.aload_n 0, 1) := by decide +kernel
theorem dX5_flight_65 : decode cX5_flight 65 = .ok (.getfield 10, 3) := by decide +kernel
theorem dX5_flight_68 : decode cX5_flight 68 = .ok (.iload_n 1, 1) := by decide +kernel
theorem dX5_flight_69 : decode cX5_flight 69 = .ok (.invokevirtual 88, 3) := by decide +kernel
theorem dX5_flight_72 : decode cX5_flight 72 = .ok (.ireturn, 1) := by decide +kernel
theorem dX5_flight_73 : decode cX5_flight 73 = .ok (.aload_n 0, 1) := by decide +kernel
theorem dX5_flight_74 : decode cX5_flight 74 = .ok (.getfield 19, 3) := by decide +kernel
theorem dX5_flight_77 : decode cX5_flight 77 = .ok (.aload_n 0, 1) := by decide +kernel
theorem dX5_flight_78 : decode cX5_flight 78 = .ok (.getfield 10, 3) := by decide +kernel
theorem dX5_flight_81 : decode cX5_flight 81 = .ok (.iload_n 1, 1) := by decide +kernel
theorem dX5_flight_82 : decode cX5_flight 82 = .ok (.iconst 0, 1) := by decide +kernel
theorem dX5_flight_83 : decode cX5_flight 83 = .ok (.invokevirtual 185, 3) := by decide +kernel
theorem dX5_flight_86 : decode cX5_flight 86 = .ok (.ireturn, 1) := by decide +kernel
theorem dX5_flight_87 : decode cX5_flight 87 = .ok (.aload_n 0, 1) := by decide +kernel
theorem dX5_flight_88 : decode cX5_flight 88 = .ok (.getfield 19, 3) := by decide +kernel
theorem dX5_flight_91 : decode cX5_flight 91 = .ok (.aload_n 0, 1) := by decide +kernel
theorem dX5_flight_92 : decode cX5_flight 92 = .ok (.getfield 10, 3) := by decide +kernel
theorem dX5_flight_95 : decode cX5_flight 95 = .ok (.iload_n 1, 1) := by decide +kernel
theorem dX5_flight_96 : decode cX5_flight 96 = .ok (.iconst 1, 1) := by decide +kernel
theorem dX5_flight_97 : decode cX5_flight 97 = .ok (.invokevirtual 185, 3) := by decide +kernel
theorem dX5_flight_100 : decode cX5_flight 100 = .ok (.ireturn, 1) := by decide +kernel
theorem dX5_flight_101 : decode cX5_flight 101 = .ok (.bipush (-102), 2) := by decide +kernel
theorem dX5_flight_103 : decode cX5_flight 103 = .ok (.ireturn, 1) := by decide +kernel
theorem dX5_stop_0 : decode cX5_stop 0 = .ok (.iload_n 1, 1) := by decide +kernel
theorem dX5_stop_1 : decode cX5_stop 1 = .ok (.invokestatic 92, 3) := by decide +kernel
theorem dX5_stop_4 : decode cX5_stop 4 = .ok (.ifCond .ne 6, 3) := by decide +kernel
theorem dX5_stop_7 : decode cX5_stop 7 = .ok (.bipush (-101), 2) := by decide +kernel
theorem dX5_stop_9 : decode cX5_stop 9 = .ok (.ireturn, 1) := by decide +kernel
theorem dX5_stop_10 : decode cX5_stop 10 = .ok (.aload_n 0, 1) := by decide +kernel
theorem dX5_stop_11 : decode cX5_stop 11 = .ok (.getfield 26, 3) := by decide +kernel
theorem dX5_stop_14 : decode cX5_stop 14 = .ok (.aload_n 0, 1) := by decide +kernel
theorem dX5_stop_15 : decode cX5_stop 15 = .ok (.getfield 10, 3) := by decide +kernel
theorem dX5_stop_18 : decode cX5_stop 18 = .ok (.aload_n 0, 1) := by decide +kernel
theorem dX5_stop_19 : decode cX5_stop 19 = .ok (.getfield 19, 3) := by decide +kernel
theorem dX5_stop_22 : decode cX5_stop 22 = .ok (.iload_n 1, 1) := by decide +kernel
theorem dX5_stop_23 : decode cX5_stop 23 = .ok (.invokevirtual 163, 3) := by decide +kernel
theorem dX5_stop_26 : decode cX5_stop 26 = .ok (.iload_n 2, 1) := by decide +kernel
theorem dX5_stop_27 : decode cX5_stop 27 = .ok (.iconst 0, 1) := by decide +kernel
theorem dX5_stop_28 : decode cX5_stop 28 = .ok (.aload_n 0, 1) := by decide +kernel
theorem dX5_stop_29 : decode cX5_stop 29 = .ok (.getfield 26, 3) := by decide +kernel
theorem dX5_stop_32 : decode cX5_stop 32 = .ok (.getfield 176, 3) := by decide +kernel
theorem dX5_stop_35 : decode cX5_stop 35 = .ok (.iconst 1, 1) := by decide +kernel
theorem dX5_stop_36 : decode cX5_stop 36 = .ok (.isub, 1) := by decide +kernel
theorem dX5_stop_37 : decode cX5_stop 37 = .ok (.invokestatic 54, 3) := by decide +kernel
theorem dX5_stop_40 : decode cX5_stop 40 = .ok (.ifCond .ne 6, 3) := by decide +kernel
theorem dX5_stop_43 : decode cX5_stop 43 = .ok (.bipush (-101), 2) := by decide +kernel
theorem dX5_stop_45 : decode cX5_stop 45 = .ok (.ireturn, 1) := by decide +kernel
theorem dX5_stop_46 : decode cX5_stop 46 = .ok (.iload_n 3, 1) := by decide +kernel
theorem dX5_stop_47 : decode cX5_stop 47 = .ok (.tableswitch 75 0 3 #[29, 42, 55, 65], 29) := by decide +kernel
theorem dX5_stop_76 : decode cX5_stop 76 = .ok (.aload_n 0, 1) := by decide +kernel
theorem dX5_stop_77 : decode cX5_stop 77 = .ok (.getfield 26, 3) := by decide +kernel
theorem dX5_stop_80 : decode cX5_stop 80 = .ok (.getfield 189, 3) := by decide +kernel
theorem dX5_stop_83 : decode cX5_stop 83 = .ok (.iload_n 2, 1) := by decide +kernel
theorem dX5_stop_84 : decode cX5_stop 84 = .ok (.iaload, 1) := by decide +kernel
theorem dX5_stop_85 : decode cX5_stop 85 = .ok (.invokestatic 192, 3) := by decide +kernel
theorem dX5_stop_88 : decode cX5_stop 88 = .ok (.ireturn, 1) := by decide +kernel
theorem dX5_stop_89 : decode cX5_stop 89 = .ok (.aload_n 0, 1) := by decide +kernel
theorem dX5_stop_90 : decode cX5_stop 90 = .ok (.getfield 26, 3) := by decide +kernel
theorem dX5_stop_93 : decode cX5_stop 93 = .ok (.getfield 189, 3) := by decide +kernel
theorem dX5_stop_96 : decode cX5_stop 96 = .ok (.iload_n 2, 1) := by decide +kernel
theorem dX5_stop_97 : decode cX5_stop 97 = .ok (.iaload, 1) := by decide +kernel
theorem dX5_stop_98 : decode cX5_stop 98 = .ok (.invokestatic 195, 3) := by decide +kernel
theorem dX5_stop_101 : decode cX5_stop 101 = .ok (.ireturn, 1) := by decide +kernel
theorem dX5_stop_102 : decode cX5_stop 102 = .ok (.aload_n 0, 1) := by decide +kernel
theorem dX5_stop_103 : decode cX5_stop 103 = .ok (.getfield 26, 3) := by decide +kernel
theorem dX5_stop_106 : decode cX5_stop 106 = .ok (.getfield 198, 3) := by decide +kernel
theorem dX5_stop_109 : decode cX5_stop 109 = .ok (.iload_n 2, 1) := by decide +kernel
theorem dX5_stop_110 : decode cX5_stop 110 = .ok (.iaload, 1) := by decide +kernel
theorem dX5_stop_111 : decode cX5_stop 111 = .ok (.ireturn, 1) := by decide +kernel
theorem dX5_stop_112 : decode cX5_stop 112 = .ok (.aload_n 0, 1) := by decide +kernel
theorem dX5_stop_113 : decode cX5_stop 113 = .ok (.getfield 26, 3) := by decide +kernel
theorem dX5_stop_116 : decode cX5_stop 116 = .ok (.getfield 201, 3) := by decide +kernel
theorem dX5_stop_119 : decode cX5_stop 119 = .ok (.iload_n 2, 1) := by decide +kernel
theorem dX5_stop_120 : decode cX5_stop 120 = .ok (.iaload, 1) := by decide +kernel
theorem dX5_stop_121 : decode cX5_stop 121 = .ok (.ireturn, 1) := by decide +kernel
theorem dX5_stop_122 : decode cX5_stop 122 = .ok (.bipush (-102), 2) := by decide +kernel
theorem dX5_stop_124 : decode cX5_stop 124 = .ok (.ireturn, 1) := by decide +kernel
theorem dX5_count_0 : decode cX5_count 0 = .ok (.iload_n 1, 1) := by decide +kernel
theorem dX5_count_1 : decode cX5_count 1 = .ok (.iconst 0, 1) := by decide +kernel
theorem dX5_count_2 : decode cX5_count 2 = .ok (.iconst 4, 1) := by decide +kernel
theorem dX5_count_3 : decode cX5_count 3 = .ok (.invokestatic 54, 3) := by decide +kernel
theorem dX5_count_6 : decode cX5_count 6 = .ok (.ifCond .eq 13, 3) := by decide +kernel
theorem dX5_count_9 : decode cX5_count 9 = .ok (.aload_n 0, 1) := by decide +kernel
theorem dX5_count_10 : decode cX5_count 10 = .ok (.getfield 10, 3) := by decide +kernel
theorem dX5_count_13 : decode cX5_count 13 = .ok (.getfield 65, 3) := by decide +kernel
theorem dX5_count_16 : decode cX5_count 16 = .ok (.iload_n 1, 1) := by decide +kernel
theorem dX5_count_17 : decode cX5_count 17 = .ok (.iaload, 1) := by decide +kernel
theorem dX5_count_18 : decode cX5_count 18 = .ok (.ireturn, 1) := by decide +kernel
theorem dX5_count_19 : decode cX5_count 19 = .ok (.iload_n 1, 1) := by decide +kernel
theorem dX5_count_20 : decode cX5_count 20 = .ok (.tableswitch 147 5 15 #[60, 68, 76, 84, 92, 100, 105, 113, 118, 131, 139], 60) := by decide +kernel
theorem dX5_count_80 : decode cX5_count 80 = .ok (.aload_n 0, 1) := by decide +kernel
theorem dX5_count_81 : decode cX5_count 81 = .ok (.getfield 10, 3) := by decide +kernel
theorem dX5_count_84 : decode cX5_count 84 = .ok (.getfield 105, 3) := by decide +kernel
theorem dX5_count_87 : decode cX5_count 87 = .ok (.ireturn, 1) := by decide +kernel
theorem dX5_count_88 : decode cX5_count 88 = .ok (.aload_n 0, 1) := by decide +kernel
theorem dX5_count_89 : decode cX5_count 89 = .ok (.getfield 10, 3) := by decide +kernel
theorem dX5_count_92 : decode cX5_count 92 = .ok (.invokevirtual 202, 3) := by decide +kernel
theorem dX5_count_95 : decode cX5_count 95 = .ok (.ireturn, 1) := by decide +kernel
theorem dX5_count_96 : decode cX5_count 96 = .ok (.aload_n 0, 1) := by decide +kernel
theorem dX5_count_97 : decode cX5_count 97 = .ok (.getfield 19, 3) := by decide +kernel
theorem dX5_count_100 : decode cX5_count 100 = .ok (.getfield 205, 3) := by decide +kernel
theorem dX5_count_103 : decode cX5_count 103 = .ok (.ireturn, 1) := by decide +kernel
theorem dX5_count_104 : decode cX5_count 104 = .ok (.aload_n 0, 1) := by decide +kernel
theorem dX5_count_105 : decode cX5_count 105 = .ok (.getfield 19, 3) := by decide +kernel
theorem dX5_count_108 : decode cX5_count 108 = .ok (.getfield 101, 3) := by decide +kernel
theorem dX5_count_111 : decode cX5_count 111 = .ok (.ireturn, 1) := by decide +kernel
theorem dX5_count_112 : decode cX5_count 112 = .ok (.aload_n 0, 1) := by decide +kernel
theorem dX5_count_113 : decode cX5_count 113 = .ok (.getfield 19, 3) := by decide +kernel
theorem dX5_count_116 : decode cX5_count 116 = .ok (.getfield 208, 3) := by decide +kernel
theorem dX5_count_119 : decode cX5_count 119 = .ok (.ireturn, 1) := by decide +kernel
theorem dX5_count_120 : decode cX5_count 120 = .ok (.aload_n 0, 1) := by decide +kernel
theorem dX5_count_121 : decode cX5_count 121 = .ok (.invokevirtual 211, 3) := by decide +kernel
theorem dX5_count_124 : decode cX5_count 124 = .ok (.ireturn, 1) := by decide +kernel
theorem dX5_count_125 : decode cX5_count 125 = .ok (.aload_n 0, 1) := by decide +kernel
theorem dX5_count_126 : decode cX5_count 126 = .ok (.getfield 19, 3) := by decide +kernel
theorem dX5_count_129 : decode cX5_count 129 = .ok (.invokevirtual 214, 3) := by decide +kernel
theorem dX5_count_132 : decode cX5_count 132 = .ok (.ireturn, 1) := by decide +kernel
theorem dX5_count_133 : decode cX5_count 133 = .ok (.aload_n 0, 1) := by decide +kernel
theorem dX5_count_134 : decode cX5_count 134 = .ok (.invokevirtual 217, 3) := by decide +kernel
theorem dX5_count_137 : decode cX5_count 137 = .ok (.ireturn, 1) := by decide +kernel
theorem dX5_count_138 : decode cX5_count 138 = .ok (.aload_n 0, 1) := by decide +kernel
theorem dX5_count_139 : decode cX5_count 139 = .ok (.aload_n 0, 1) := by decide +kernel
theorem dX5_count_140 : decode cX5_count 140 = .ok (.getfield 10, 3) := by decide +kernel
theorem dX5_count_143 : decode cX5_count 143 = .ok (.aload_n 0, 1) := by decide +kernel
theorem dX5_count_144 : decode cX5_count 144 = .ok (.getfield 19, 3) := by decide +kernel
theorem dX5_count_147 : decode cX5_count 147 = .ok (.invokevirtual 220, 3) := by decide +kernel
theorem dX5_count_150 : decode cX5_count 150 = .ok (.ireturn, 1) := by decide +kernel
theorem dX5_count_151 : decode cX5_count 151 = .ok (.aload_n 0, 1) := by decide +kernel
theorem dX5_count_152 : decode cX5_count 152 = .ok (.getfield 39, 3) := by decide +kernel
theorem dX5_count_155 : decode cX5_count 155 = .ok (.getfield 122, 3) := by decide +kernel
theorem dX5_count_158 : decode cX5_count 158 = .ok (.ireturn, 1) := by decide +kernel
theorem dX5_count_159 : decode cX5_count 159 = .ok (.aload_n 0, 1) := by decide +kernel
theorem dX5_count_160 : decode cX5_count 160 = .ok (.getfield 46, 3) := by decide +kernel
theorem dX5_count_163 : decode cX5_count 163 = .ok (.getfield 224, 3) := by decide +kernel
theorem dX5_count_166 : decode cX5_count 166 = .ok (.ireturn, 1) := by decide +kernel
theorem dX5_count_167 : decode cX5_count 167 = .ok (.bipush (-102), 2) := by decide +kernel
theorem dX5_count_169 : decode cX5_count 169 = .ok (.ireturn, 1) := by decide +kernel
theorem dX5_kerb_0 : decode cX5_kerb 0 = .ok (.iload_n 1, 1) := by decide +kernel
theorem dX5_kerb_1 : decode cX5_kerb 1 = .ok (.iconst 0, 1) := by decide +kernel
theorem dX5_kerb_2 : decode cX5_kerb 2 = .ok (.sipush 3000, 3) := by decide +kernel
theorem dX5_kerb_5 : decode cX5_kerb 5 = .ok (.invokestatic 54, 3) := by decide +kernel
theorem dX5_kerb_8 : decode cX5_kerb 8 = .ok (.ifCond .ne 6, 3) := by decide +kernel
theorem dX5_kerb_11 : decode cX5_kerb 11 = .ok (.bipush (-102), 2) := by decide +kernel
theorem dX5_kerb_13 : decode cX5_kerb 13 = .ok (.ireturn, 1) := by decide +kernel
theorem dX5_kerb_14 : decode cX5_kerb 14 = .ok (.iconst 0, 1) := by decide +kernel
theorem dX5_kerb_15 : decode cX5_kerb 15 = .ok (.istore_n 2, 1) := by decide +kernel
theorem dX5_kerb_16 : decode cX5_kerb 16 = .ok (.iconst 0, 1) := by decide +kernel
theorem dX5_kerb_17 : decode cX5_kerb 17 = .ok (.istore_n 3, 1) := by decide +kernel
theorem dX5_kerb_18 : decode cX5_kerb 18 = .ok (.iload_n 3, 1) := by decide +kernel
theorem dX5_kerb_19 : decode cX5_kerb 19 = .ok (.aload_n 0, 1) := by decide +kernel
theorem dX5_kerb_20 : decode cX5_kerb 20 = .ok (.getfield 10, 3) := by decide +kernel
theorem dX5_kerb_23 : decode cX5_kerb 23 = .ok (.getfield 105, 3) := by decide +kernel
theorem dX5_kerb_26 : decode cX5_kerb 26 = .ok (.if_icmp .ge 37, 3) := by decide +kernel
theorem dX5_kerb_29 : decode cX5_kerb 29 = .ok (.aload_n 0, 1) := by decide +kernel
theorem dX5_kerb_30 : decode cX5_kerb 30 = .ok (.getfield 19, 3) := by decide +kernel
theorem dX5_kerb_33 : decode cX5_kerb 33 = .ok (.aload_n 0, 1) := by decide +kernel
theorem dX5_kerb_34 : decode cX5_kerb 34 = .ok (.getfield 10, 3) := by decide +kernel
theorem dX5_kerb_37 : decode cX5_kerb 37 = .ok (.iload_n 3, 1) := by decide +kernel
theorem dX5_kerb_38 : decode cX5_kerb 38 = .ok (.iload_n 1, 1) := by decide +kernel
theorem dX5_kerb_39 : decode cX5_kerb 39 = .ok (.invokevirtual 227, 3) := by decide +kernel
theorem dX5_kerb_42 : decode cX5_kerb 42 = .ok (.ifCond .eq 15, 3) := by decide +kernel
theorem dX5_kerb_45 : decode cX5_kerb 45 = .ok (.iload_n 2, 1) := by decide +kernel
theorem dX5_kerb_46 : decode cX5_kerb 46 = .ok (.aload_n 0, 1) := by decide +kernel
theorem dX5_kerb_47 : decode cX5_kerb 47 = .ok (.getfield 10, 3) := by decide +kernel
theorem dX5_kerb_50 : decode cX5_kerb 50 = .ok (.getfield 148, 3) := by decide +kernel
theorem dX5_kerb_53 : decode cX5_kerb 53 = .ok (.iload_n 3, 1) := by decide +kernel
theorem dX5_kerb_54 : decode cX5_kerb 54 = .ok (.iaload, 1) := by decide +kernel
theorem dX5_kerb_55 : decode cX5_kerb 55 = .ok (.iadd, 1) := by decide +kernel
theorem dX5_kerb_56 : decode cX5_kerb 56 = .ok (.istore_n 2, 1) := by decide +kernel
theorem dX5_kerb_57 : decode cX5_kerb 57 = .ok (.iinc 3 1, 3) := by decide +kernel
theorem dX5_kerb_60 : decode cX5_kerb 60 = .ok (.goto (-42), 3) := by decide +kernel
theorem dX5_kerb_63 : decode cX5_kerb 63 = .ok (.iload_n 2, 1) := by decide +kernel
theorem dX5_kerb_64 : decode cX5_kerb 64 = .ok (.ireturn, 1) := by decide +kernel
theorem dX5_fullest_0 : decode cX5_fullest 0 = .ok (.bipush (-106), 2) := by decide +kernel
theorem dX5_fullest_2 : decode cX5_fullest 2 = .ok (.istore_n 1, 1) := by decide +kernel
theorem dX5_fullest_3 : decode cX5_fullest 3 = .ok (.iconst 0, 1) := by decide +kernel
theorem dX5_fullest_4 : decode cX5_fullest 4 = .ok (.istore_n 2, 1) := by decide +kernel
theorem dX5_fullest_5 : decode cX5_fullest 5 = .ok (.iconst 0, 1) := by decide +kernel
theorem dX5_fullest_6 : decode cX5_fullest 6 = .ok (.istore_n 3, 1) := by decide +kernel
theorem dX5_fullest_7 : decode cX5_fullest 7 = .ok (.iload_n 3, 1) := by decide +kernel
theorem dX5_fullest_8 : decode cX5_fullest 8 = .ok (.bipush 8, 2) := by decide +kernel
theorem dX5_fullest_10 : decode cX5_fullest 10 = .ok (.if_icmp .ge 34, 3) := by decide +kernel
theorem dX5_fullest_13 : decode cX5_fullest 13 = .ok (.aload_n 0, 1) := by decide +kernel
theorem dX5_fullest_14 : decode cX5_fullest 14 = .ok (.getfield 19, 3) := by decide +kernel
theorem dX5_fullest_17 : decode cX5_fullest 17 = .ok (.getfield 167, 3) := by decide +kernel
theorem dX5_fullest_20 : decode cX5_fullest 20 = .ok (.iload_n 3, 1) := by decide +kernel
theorem dX5_fullest_21 : decode cX5_fullest 21 = .ok (.iaload, 1) := by decide +kernel
theorem dX5_fullest_22 : decode cX5_fullest 22 = .ok (.iload_n 2, 1) := by decide +kernel
theorem dX5_fullest_23 : decode cX5_fullest 23 = .ok (.if_icmp .le 15, 3) := by decide +kernel
theorem dX5_fullest_26 : decode cX5_fullest 26 = .ok (.iload_n 3, 1) := by decide +kernel
theorem dX5_fullest_27 : decode cX5_fullest 27 = .ok (.istore_n 1, 1) := by decide +kernel
theorem dX5_fullest_28 : decode cX5_fullest 28 = .ok (.aload_n 0, 1) := by decide +kernel
theorem dX5_fullest_29 : decode cX5_fullest 29 = .ok (.getfield 19, 3) := by decide +kernel
theorem dX5_fullest_32 : decode cX5_fullest 32 = .ok (.getfield 167, 3) := by decide +kernel
theorem dX5_fullest_35 : decode cX5_fullest 35 = .ok (.iload_n 3, 1) := by decide +kernel
theorem dX5_fullest_36 : decode cX5_fullest 36 = .ok (.iaload, 1) := by decide +kernel
theorem dX5_fullest_37 : decode cX5_fullest 37 = .ok (.istore_n 2, 1) := by decide +kernel
theorem dX5_fullest_38 : decode cX5_fullest 38 = .ok (.iinc 3 1, 3) := by decide +kernel
theorem dX5_fullest_41 : decode cX5_fullest 41 = .ok (.goto (-34), 3) := by decide +kernel
theorem dX5_fullest_44 : decode cX5_fullest 44 = .ok (.iload_n 1, 1) := by decide +kernel
theorem dX5_fullest_45 : decode cX5_fullest 45 = .ok (.ireturn, 1) := by decide +kernel
theorem dX5_undo_0 : decode cX5_undo 0 = .ok (.aload_n 0, 1) := by decide +kernel
theorem dX5_undo_1 : decode cX5_undo 1 = .ok (.getfield 46, 3) := by decide +kernel
theorem dX5_undo_4 : decode cX5_undo 4 = .ok (.getfield 224, 3) := by decide +kernel
theorem dX5_undo_7 : decode cX5_undo 7 = .ok (.ifCond .ne 6, 3) := by decide +kernel
theorem dX5_undo_10 : decode cX5_undo 10 = .ok (.bipush (-105), 2) := by decide +kernel
theorem dX5_undo_12 : decode cX5_undo 12 = .ok (.ireturn, 1) := by decide +kernel
theorem dX5_undo_13 : decode cX5_undo 13 = .ok (.aload_n 0, 1) := by decide +kernel
theorem dX5_undo_14 : decode cX5_undo 14 = .ok (.getfield 46, 3) := by decide +kernel
theorem dX5_undo_17 : decode cX5_undo 17 = .ok (.aload_n 0, 1) := by decide +kernel
theorem dX5_undo_18 : decode cX5_undo 18 = .ok (.getfield 10, 3) := by decide +kernel
theorem dX5_undo_21 : decode cX5_undo 21 = .ok (.invokevirtual 248, 3) := by decide +kernel
theorem dX5_undo_24 : decode cX5_undo 24 = .ok (.aload_n 0, 1) := by decide +kernel
theorem dX5_undo_25 : decode cX5_undo 25 = .ok (.getfield 19, 3) := by decide +kernel
theorem dX5_undo_28 : decode cX5_undo 28 = .ok (.aload_n 0, 1) := by decide +kernel
theorem dX5_undo_29 : decode cX5_undo 29 = .ok (.getfield 10, 3) := by decide +kernel
theorem dX5_undo_32 : decode cX5_undo 32 = .ok (.invokevirtual 72, 3) := by decide +kernel
theorem dX5_undo_35 : decode cX5_undo 35 = .ok (.aload_n 0, 1) := by decide +kernel
theorem dX5_undo_36 : decode cX5_undo 36 = .ok (.getfield 46, 3) := by decide +kernel
theorem dX5_undo_39 : decode cX5_undo 39 = .ok (.getfield 224, 3) := by decide +kernel
theorem dX5_undo_42 : decode cX5_undo 42 = .ok (.ireturn, 1) := by decide +kernel
theorem dX5_isIn_0 : decode cX5_isIn 0 = .ok (.iload_n 0, 1) := by decide +kernel
theorem dX5_isIn_1 : decode cX5_isIn 1 = .ok (.iload_n 1, 1) := by decide +kernel
theorem dX5_isIn_2 : decode cX5_isIn 2 = .ok (.if_icmp .lt 12, 3) := by decide +kernel
theorem dX5_isIn_5 : decode cX5_isIn 5 = .ok (.iload_n 0, 1) := by decide +kernel
theorem dX5_isIn_6 : decode cX5_isIn 6 = .ok (.iload_n 2, 1) := by decide +kernel
theorem dX5_isIn_7 : decode cX5_isIn 7 = .ok (.if_icmp .gt 7, 3) := by decide +kernel
theorem dX5_isIn_10 : decode cX5_isIn 10 = .ok (.iconst 1, 1) := by decide +kernel
theorem dX5_isIn_11 : decode cX5_isIn 11 = .ok (.goto 4, 3) := by decide +kernel
theorem dX5_isIn_14 : decode cX5_isIn 14 = .ok (.iconst 0, 1) := by decide +kernel
theorem dX5_isIn_15 : decode cX5_isIn 15 = .ok (.ireturn, 1) := by decide +kernel
theorem dX5_isFlight_0 : decode cX5_isFlight 0 = .ok (.iload_n 0, 1) := by decide +kernel
theorem dX5_isFlight_1 : decode cX5_isFlight 1 = .ok (.iconst 0, 1) := by decide +kernel
theorem dX5_isFlight_2 : decode cX5_isFlight 2 = .ok (.iconst 5, 1) := by decide +kernel
theorem dX5_isFlight_3 : decode cX5_isFlight 3 = .ok (.invokestatic 54, 3) := by decide +kernel
theorem dX5_isFlight_6 : decode cX5_isFlight 6 = .ok (.ireturn, 1) := by decide +kernel
theorem dX5_isDelay_0 : decode cX5_isDelay 0 = .ok (.iload_n 0, 1) := by decide +kernel
theorem dX5_isDelay_1 : decode cX5_isDelay 1 = .ok (.bipush (-30), 2) := by decide +kernel
theorem dX5_isDelay_3 : decode cX5_isDelay 3 = .ok (.sipush 300, 3) := by decide +kernel
theorem dX5_isDelay_6 : decode cX5_isDelay 6 = .ok (.invokestatic 54, 3) := by decide +kernel
theorem dX5_isDelay_9 : decode cX5_isDelay 9 = .ok (.ireturn, 1) := by decide +kernel
theorem dX5_isVan_0 : decode cX5_isVan 0 = .ok (.iload_n 0, 1) := by decide +kernel
theorem dX5_isVan_1 : decode cX5_isVan 1 = .ok (.iconst 0, 1) := by decide +kernel
theorem dX5_isVan_2 : decode cX5_isVan 2 = .ok (.bipush 7, 2) := by decide +kernel
theorem dX5_isVan_4 : decode cX5_isVan 4 = .ok (.invokestatic 54, 3) := by decide +kernel
theorem dX5_isVan_7 : decode cX5_isVan 7 = .ok (.ireturn, 1) := by decide +kernel
theorem dX5_isRider_0 : decode cX5_isRider 0 = .ok (.iload_n 1, 1) := by decide +kernel
theorem dX5_isRider_1 : decode cX5_isRider 1 = .ok (.iconst 0, 1) := by decide +kernel
theorem dX5_isRider_2 : decode cX5_isRider 2 = .ok (.aload_n 0, 1) := by decide +kernel
theorem dX5_isRider_3 : decode cX5_isRider 3 = .ok (.getfield 10, 3) := by decide +kernel
theorem dX5_isRider_6 : decode cX5_isRider 6 = .ok (.getfield 105, 3) := by decide +kernel
theorem dX5_isRider_9 : decode cX5_isRider 9 = .ok (.iconst 1, 1) := by decide +kernel
theorem dX5_isRider_10 : decode cX5_isRider 10 = .ok (.isub, 1) := by decide +kernel
theorem dX5_isRider_11 : decode cX5_isRider 11 = .ok (.invokestatic 54, 3) := by decide +kernel
theorem dX5_isRider_14 : decode cX5_isRider 14 = .ok (.ireturn, 1) := by decide +kernel
theorem dX5_minuteAtDoor_0 : decode cX5_minuteAtDoor 0 = .ok (.aload_n 0, 1) := by decide +kernel
theorem dX5_minuteAtDoor_1 : decode cX5_minuteAtDoor 1 = .ok (.getfield 19, 3) := by decide +kernel
theorem dX5_minuteAtDoor_4 : decode cX5_minuteAtDoor 4 = .ok (.getfield 139, 3) := by decide +kernel
theorem dX5_minuteAtDoor_7 : decode cX5_minuteAtDoor 7 = .ok (.iload_n 1, 1) := by decide +kernel
theorem dX5_minuteAtDoor_8 : decode cX5_minuteAtDoor 8 = .ok (.iaload, 1) := by decide +kernel
theorem dX5_minuteAtDoor_9 : decode cX5_minuteAtDoor 9 = .ok (.istore_n 2, 1) := by decide +kernel
theorem dX5_minuteAtDoor_10 : decode cX5_minuteAtDoor 10 = .ok (.iload_n 2, 1) := by decide +kernel
theorem dX5_minuteAtDoor_11 : decode cX5_minuteAtDoor 11 = .ok (.invokestatic 92, 3) := by decide +kernel
theorem dX5_minuteAtDoor_14 : decode cX5_minuteAtDoor 14 = .ok (.ifCond .ne 6, 3) := by decide +kernel
theorem dX5_minuteAtDoor_17 : decode cX5_minuteAtDoor 17 = .ok (.bipush (-106), 2) := by decide +kernel
theorem dX5_minuteAtDoor_19 : decode cX5_minuteAtDoor 19 = .ok (.ireturn, 1) := by decide +kernel
theorem dX5_minuteAtDoor_20 : decode cX5_minuteAtDoor 20 = .ok (.aload_n 0, 1) := by decide +kernel
theorem dX5_minuteAtDoor_21 : decode cX5_minuteAtDoor 21 = .ok (.getfield 26, 3) := by decide +kernel
theorem dX5_minuteAtDoor_24 : decode cX5_minuteAtDoor 24 = .ok (.aload_n 0, 1) := by decide +kernel
theorem dX5_minuteAtDoor_25 : decode cX5_minuteAtDoor 25 = .ok (.getfield 10, 3) := by decide +kernel
theorem dX5_minuteAtDoor_28 : decode cX5_minuteAtDoor 28 = .ok (.aload_n 0, 1) := by decide +kernel
theorem dX5_minuteAtDoor_29 : decode cX5_minuteAtDoor 29 = .ok (.getfield 19, 3) := by decide +kernel
theorem dX5_minuteAtDoor_32 : decode cX5_minuteAtDoor 32 = .ok (.iload_n 2, 1) := by decide +kernel
theorem dX5_minuteAtDoor_33 : decode cX5_minuteAtDoor 33 = .ok (.invokevirtual 163, 3) := by decide +kernel
theorem dX5_minuteAtDoor_36 : decode cX5_minuteAtDoor 36 = .ok (.aload_n 0, 1) := by decide +kernel
theorem dX5_minuteAtDoor_37 : decode cX5_minuteAtDoor 37 = .ok (.getfield 26, 3) := by decide +kernel
theorem dX5_minuteAtDoor_40 : decode cX5_minuteAtDoor 40 = .ok (.aload_n 0, 1) := by decide +kernel
theorem dX5_minuteAtDoor_41 : decode cX5_minuteAtDoor 41 = .ok (.getfield 10, 3) := by decide +kernel
theorem dX5_minuteAtDoor_44 : decode cX5_minuteAtDoor 44 = .ok (.iload_n 1, 1) := by decide +kernel
theorem dX5_minuteAtDoor_45 : decode cX5_minuteAtDoor 45 = .ok (.invokevirtual 254, 3) := by decide +kernel
theorem dX5_minuteAtDoor_48 : decode cX5_minuteAtDoor 48 = .ok (.invokevirtual 257, 3) := by decide +kernel
theorem dX5_minuteAtDoor_51 : decode cX5_minuteAtDoor 51 = .ok (.ireturn, 1) := by decide +kernel
theorem dX5_allFares_0 : decode cX5_allFares 0 = .ok (.iconst 0, 1) := by decide +kernel
theorem dX5_allFares_1 : decode cX5_allFares 1 = .ok (.istore_n 1, 1) := by decide +kernel
theorem dX5_allFares_2 : decode cX5_allFares 2 = .ok (.iconst 0, 1) := by decide +kernel
theorem dX5_allFares_3 : decode cX5_allFares 3 = .ok (.istore_n 2, 1) := by decide +kernel
theorem dX5_allFares_4 : decode cX5_allFares 4 = .ok (.iload_n 2, 1) := by decide +kernel
theorem dX5_allFares_5 : decode cX5_allFares 5 = .ok (.aload_n 0, 1) := by decide +kernel
theorem dX5_allFares_6 : decode cX5_allFares 6 = .ok (.getfield 10, 3) := by decide +kernel
theorem dX5_allFares_9 : decode cX5_allFares 9 = .ok (.getfield 105, 3) := by decide +kernel
theorem dX5_allFares_12 : decode cX5_allFares 12 = .ok (.if_icmp .ge 24, 3) := by decide +kernel
theorem dX5_allFares_15 : decode cX5_allFares 15 = .ok (.iload_n 1, 1) := by decide +kernel
theorem dX5_allFares_16 : decode cX5_allFares 16 = .ok (.aload_n 0, 1) := by decide +kernel
theorem dX5_allFares_17 : decode cX5_allFares 17 = .ok (.getfield 19, 3) := by decide +kernel
theorem dX5_allFares_20 : decode cX5_allFares 20 = .ok (.aload_n 0, 1) := by decide +kernel
theorem dX5_allFares_21 : decode cX5_allFares 21 = .ok (.getfield 10, 3) := by decide +kernel
theorem dX5_allFares_24 : decode cX5_allFares 24 = .ok (.iload_n 2, 1) := by decide +kernel
theorem dX5_allFares_25 : decode cX5_allFares 25 = .ok (.invokevirtual 128, 3) := by decide +kernel
theorem dX5_allFares_28 : decode cX5_allFares 28 = .ok (.iadd, 1) := by decide +kernel
theorem dX5_allFares_29 : decode cX5_allFares 29 = .ok (.istore_n 1, 1) := by decide +kernel
theorem dX5_allFares_30 : decode cX5_allFares 30 = .ok (.iinc 2 1, 3) := by decide +kernel
theorem dX5_allFares_33 : decode cX5_allFares 33 = .ok (.goto (-29), 3) := by decide +kernel
theorem dX5_allFares_36 : decode cX5_allFares 36 = .ok (.iload_n 1, 1) := by decide +kernel
theorem dX5_allFares_37 : decode cX5_allFares 37 = .ok (.ireturn, 1) := by decide +kernel
theorem dX5_allStops_0 : decode cX5_allStops 0 = .ok (.iconst 0, 1) := by decide +kernel
theorem dX5_allStops_1 : decode cX5_allStops 1 = .ok (.istore_n 1, 1) := by decide +kernel
theorem dX5_allStops_2 : decode cX5_allStops 2 = .ok (.iconst 0, 1) := by decide +kernel
theorem dX5_allStops_3 : decode cX5_allStops 3 = .ok (.istore_n 2, 1) := by decide +kernel
theorem dX5_allStops_4 : decode cX5_allStops 4 = .ok (.iload_n 2, 1) := by decide +kernel
theorem dX5_allStops_5 : decode cX5_allStops 5 = .ok (.bipush 8, 2) := by decide +kernel
theorem dX5_allStops_7 : decode cX5_allStops 7 = .ok (.if_icmp .ge 35, 3) := by decide +kernel
theorem dX5_allStops_10 : decode cX5_allStops 10 = .ok (.aload_n 0, 1) := by decide +kernel
theorem dX5_allStops_11 : decode cX5_allStops 11 = .ok (.getfield 26, 3) := by decide +kernel
theorem dX5_allStops_14 : decode cX5_allStops 14 = .ok (.aload_n 0, 1) := by decide +kernel
theorem dX5_allStops_15 : decode cX5_allStops 15 = .ok (.getfield 10, 3) := by decide +kernel
theorem dX5_allStops_18 : decode cX5_allStops 18 = .ok (.aload_n 0, 1) := by decide +kernel
theorem dX5_allStops_19 : decode cX5_allStops 19 = .ok (.getfield 19, 3) := by decide +kernel
theorem dX5_allStops_22 : decode cX5_allStops 22 = .ok (.iload_n 2, 1) := by decide +kernel
theorem dX5_allStops_23 : decode cX5_allStops 23 = .ok (.invokevirtual 163, 3) := by decide +kernel
theorem dX5_allStops_26 : decode cX5_allStops 26 = .ok (.iload_n 1, 1) := by decide +kernel
theorem dX5_allStops_27 : decode cX5_allStops 27 = .ok (.aload_n 0, 1) := by decide +kernel
theorem dX5_allStops_28 : decode cX5_allStops 28 = .ok (.getfield 26, 3) := by decide +kernel
theorem dX5_allStops_31 : decode cX5_allStops 31 = .ok (.getfield 176, 3) := by decide +kernel
theorem dX5_allStops_34 : decode cX5_allStops 34 = .ok (.iadd, 1) := by decide +kernel
theorem dX5_allStops_35 : decode cX5_allStops 35 = .ok (.istore_n 1, 1) := by decide +kernel
theorem dX5_allStops_36 : decode cX5_allStops 36 = .ok (.iinc 2 1, 3) := by decide +kernel
theorem dX5_allStops_39 : decode cX5_allStops 39 = .ok (.goto (-35), 3) := by decide +kernel
theorem dX5_allStops_42 : decode cX5_allStops 42 = .ok (.iload_n 1, 1) := by decide +kernel
theorem dX5_allStops_43 : decode cX5_allStops 43 = .ok (.ireturn, 1) := by decide +kernel
theorem dX5_lastAtDoor_0 : decode cX5_lastAtDoor 0 = .ok (.bipush (-106), 2) := by decide +kernel
theorem dX5_lastAtDoor_2 : decode cX5_lastAtDoor 2 = .ok (.istore_n 3, 1) := by decide +kernel
theorem dX5_lastAtDoor_3 : decode cX5_lastAtDoor 3 = .ok (.iconst 0, 1) := by decide +kernel
theorem dX5_lastAtDoor_4 : decode cX5_lastAtDoor 4 = .ok (.istore 4, 2) := by decide +kernel
theorem dX5_lastAtDoor_6 : decode cX5_lastAtDoor 6 = .ok (.iload 4, 2) := by decide +kernel
theorem dX5_lastAtDoor_8 : decode cX5_lastAtDoor 8 = .ok (.bipush 8, 2) := by decide +kernel
theorem dX5_lastAtDoor_10 : decode cX5_lastAtDoor 10 = .ok (.if_icmp .ge 42, 3) := by decide +kernel
theorem dX5_lastAtDoor_13 : decode cX5_lastAtDoor 13 = .ok (.aload_n 0, 1) := by decide +kernel
theorem dX5_lastAtDoor_14 : decode cX5_lastAtDoor 14 = .ok (.getfield 26, 3) := by decide +kernel
theorem dX5_lastAtDoor_17 : decode cX5_lastAtDoor 17 = .ok (.aload_n 1, 1) := by decide +kernel
theorem dX5_lastAtDoor_18 : decode cX5_lastAtDoor 18 = .ok (.aload_n 2, 1) := by decide +kernel
theorem dX5_lastAtDoor_19 : decode cX5_lastAtDoor 19 = .ok (.iload 4, 2) := by decide +kernel
theorem dX5_lastAtDoor_21 : decode cX5_lastAtDoor 21 = .ok (.invokevirtual 163, 3) := by decide +kernel
theorem dX5_lastAtDoor_24 : decode cX5_lastAtDoor 24 = .ok (.aload_n 0, 1) := by decide +kernel
theorem dX5_lastAtDoor_25 : decode cX5_lastAtDoor 25 = .ok (.getfield 26, 3) := by decide +kernel
theorem dX5_lastAtDoor_28 : decode cX5_lastAtDoor 28 = .ok (.getfield 176, 3) := by decide +kernel
theorem dX5_lastAtDoor_31 : decode cX5_lastAtDoor 31 = .ok (.ifCond .le 15, 3) := by decide +kernel
theorem dX5_lastAtDoor_34 : decode cX5_lastAtDoor 34 = .ok (.iload_n 3, 1) := by decide +kernel
theorem dX5_lastAtDoor_35 : decode cX5_lastAtDoor 35 = .ok (.aload_n 0, 1) := by decide +kernel
theorem dX5_lastAtDoor_36 : decode cX5_lastAtDoor 36 = .ok (.getfield 26, 3) := by decide +kernel
theorem dX5_lastAtDoor_39 : decode cX5_lastAtDoor 39 = .ok (.invokevirtual 179, 3) := by decide +kernel
theorem dX5_lastAtDoor_42 : decode cX5_lastAtDoor 42 = .ok (.invokestatic 260, 3) := by decide +kernel
theorem dX5_lastAtDoor_45 : decode cX5_lastAtDoor 45 = .ok (.istore_n 3, 1) := by decide +kernel
theorem dX5_lastAtDoor_46 : decode cX5_lastAtDoor 46 = .ok (.iinc 4 1, 3) := by decide +kernel
theorem dX5_lastAtDoor_49 : decode cX5_lastAtDoor 49 = .ok (.goto (-43), 3) := by decide +kernel
theorem dX5_lastAtDoor_52 : decode cX5_lastAtDoor 52 = .ok (.iload_n 3, 1) := by decide +kernel
theorem dX5_lastAtDoor_53 : decode cX5_lastAtDoor 53 = .ok (.ireturn, 1) := by decide +kernel
theorem dJ6_bitCount_0f7a4_0 : decode cJ6_bitCount_0f7a4 0 = .ok (.iload_n 0, 1) := by decide +kernel
theorem dJ6_bitCount_0f7a4_1 : decode cJ6_bitCount_0f7a4 1 = .ok (.iload_n 0, 1) := by decide +kernel
theorem dJ6_bitCount_0f7a4_2 : decode cJ6_bitCount_0f7a4 2 = .ok (.iconst 1, 1) := by decide +kernel
theorem dJ6_bitCount_0f7a4_3 : decode cJ6_bitCount_0f7a4 3 = .ok (.iushr, 1) := by decide +kernel
theorem dJ6_bitCount_0f7a4_4 : decode cJ6_bitCount_0f7a4 4 = .ok (.ldc_w 265, 3) := by decide +kernel
theorem dJ6_bitCount_0f7a4_7 : decode cJ6_bitCount_0f7a4 7 = .ok (.iand, 1) := by decide +kernel
theorem dJ6_bitCount_0f7a4_8 : decode cJ6_bitCount_0f7a4 8 = .ok (.isub, 1) := by decide +kernel
theorem dJ6_bitCount_0f7a4_9 : decode cJ6_bitCount_0f7a4 9 = .ok (.istore_n 0, 1) := by decide +kernel
theorem dJ6_bitCount_0f7a4_10 : decode cJ6_bitCount_0f7a4 10 = .ok (.iload_n 0, 1) := by decide +kernel
theorem dJ6_bitCount_0f7a4_11 : decode cJ6_bitCount_0f7a4 11 = .ok (.ldc_w 266, 3) := by decide +kernel
theorem dJ6_bitCount_0f7a4_14 : decode cJ6_bitCount_0f7a4 14 = .ok (.iand, 1) := by decide +kernel
theorem dJ6_bitCount_0f7a4_15 : decode cJ6_bitCount_0f7a4 15 = .ok (.iload_n 0, 1) := by decide +kernel
theorem dJ6_bitCount_0f7a4_16 : decode cJ6_bitCount_0f7a4 16 = .ok (.iconst 2, 1) := by decide +kernel
theorem dJ6_bitCount_0f7a4_17 : decode cJ6_bitCount_0f7a4 17 = .ok (.iushr, 1) := by decide +kernel
theorem dJ6_bitCount_0f7a4_18 : decode cJ6_bitCount_0f7a4 18 = .ok (.ldc_w 266, 3) := by decide +kernel
theorem dJ6_bitCount_0f7a4_21 : decode cJ6_bitCount_0f7a4 21 = .ok (.iand, 1) := by decide +kernel
theorem dJ6_bitCount_0f7a4_22 : decode cJ6_bitCount_0f7a4 22 = .ok (.iadd, 1) := by decide +kernel
theorem dJ6_bitCount_0f7a4_23 : decode cJ6_bitCount_0f7a4 23 = .ok (.istore_n 0, 1) := by decide +kernel
theorem dJ6_bitCount_0f7a4_24 : decode cJ6_bitCount_0f7a4 24 = .ok (.iload_n 0, 1) := by decide +kernel
theorem dJ6_bitCount_0f7a4_25 : decode cJ6_bitCount_0f7a4 25 = .ok (.iload_n 0, 1) := by decide +kernel
theorem dJ6_bitCount_0f7a4_26 : decode cJ6_bitCount_0f7a4 26 = .ok (.iconst 4, 1) := by decide +kernel
theorem dJ6_bitCount_0f7a4_27 : decode cJ6_bitCount_0f7a4 27 = .ok (.iushr, 1) := by decide +kernel
theorem dJ6_bitCount_0f7a4_28 : decode cJ6_bitCount_0f7a4 28 = .ok (.iadd, 1) := by decide +kernel
theorem dJ6_bitCount_0f7a4_29 : decode cJ6_bitCount_0f7a4 29 = .ok (.ldc_w 267, 3) := by decide +kernel
theorem dJ6_bitCount_0f7a4_32 : decode cJ6_bitCount_0f7a4 32 = .ok (.iand, 1) := by decide +kernel
theorem dJ6_bitCount_0f7a4_33 : decode cJ6_bitCount_0f7a4 33 = .ok (.istore_n 0, 1) := by decide +kernel
theorem dJ6_bitCount_0f7a4_34 : decode cJ6_bitCount_0f7a4 34 = .ok (.iload_n 0, 1) := by decide +kernel
theorem dJ6_bitCount_0f7a4_35 : decode cJ6_bitCount_0f7a4 35 = .ok (.iload_n 0, 1) := by decide +kernel
theorem dJ6_bitCount_0f7a4_36 : decode cJ6_bitCount_0f7a4 36 = .ok (.bipush 8, 2) := by decide +kernel
theorem dJ6_bitCount_0f7a4_38 : decode cJ6_bitCount_0f7a4 38 = .ok (.iushr, 1) := by decide +kernel
theorem dJ6_bitCount_0f7a4_39 : decode cJ6_bitCount_0f7a4 39 = .ok (.iadd, 1) := by decide +kernel
theorem dJ6_bitCount_0f7a4_40 : decode cJ6_bitCount_0f7a4 40 = .ok (.istore_n 0, 1) := by decide +kernel
theorem dJ6_bitCount_0f7a4_41 : decode cJ6_bitCount_0f7a4 41 = .ok (.iload_n 0, 1) := by decide +kernel
theorem dJ6_bitCount_0f7a4_42 : decode cJ6_bitCount_0f7a4 42 = .ok (.iload_n 0, 1) := by decide +kernel
theorem dJ6_bitCount_0f7a4_43 : decode cJ6_bitCount_0f7a4 43 = .ok (.bipush 16, 2) := by decide +kernel
theorem dJ6_bitCount_0f7a4_45 : decode cJ6_bitCount_0f7a4 45 = .ok (.iushr, 1) := by decide +kernel
theorem dJ6_bitCount_0f7a4_46 : decode cJ6_bitCount_0f7a4 46 = .ok (.iadd, 1) := by decide +kernel
theorem dJ6_bitCount_0f7a4_47 : decode cJ6_bitCount_0f7a4 47 = .ok (.istore_n 0, 1) := by decide +kernel
theorem dJ6_bitCount_0f7a4_48 : decode cJ6_bitCount_0f7a4 48 = .ok (.iload_n 0, 1) := by decide +kernel
theorem dJ6_bitCount_0f7a4_49 : decode cJ6_bitCount_0f7a4 49 = .ok (.bipush 63, 2) := by decide +kernel
theorem dJ6_bitCount_0f7a4_51 : decode cJ6_bitCount_0f7a4 51 = .ok (.iand, 1) := by decide +kernel
theorem dJ6_bitCount_0f7a4_52 : decode cJ6_bitCount_0f7a4 52 = .ok (.ireturn, 1) := by decide +kernel
theorem dJ9_max_7cf53_0 : decode cJ9_max_7cf53 0 = .ok (.iload_n 0, 1) := by decide +kernel
theorem dJ9_max_7cf53_1 : decode cJ9_max_7cf53 1 = .ok (.iload_n 1, 1) := by decide +kernel
theorem dJ9_max_7cf53_2 : decode cJ9_max_7cf53 2 = .ok (.if_icmp .lt 7, 3) := by decide +kernel
theorem dJ9_max_7cf53_5 : decode cJ9_max_7cf53 5 = .ok (.iload_n 0, 1) := by decide +kernel
theorem dJ9_max_7cf53_6 : decode cJ9_max_7cf53 6 = .ok (.goto 4, 3) := by decide +kernel
theorem dJ9_max_7cf53_9 : decode cJ9_max_7cf53 9 = .ok (.iload_n 1, 1) := by decide +kernel
theorem dJ9_max_7cf53_10 : decode cJ9_max_7cf53 10 = .ok (.ireturn, 1) := by decide +kernel
theorem dL_cell_0 : decode cL_cell 0 = .ok (.iload_n 1, 1) := by decide +kernel
theorem dL_cell_1 : decode cL_cell 1 = .ok (.aload_n 0, 1) := by decide +kernel
theorem dL_cell_2 : decode cL_cell 2 = .ok (.arraylength, 1) := by decide +kernel
theorem dL_cell_3 : decode cL_cell 3 = .ok (.if_icmp .ge 9, 3) := by decide +kernel
theorem dL_cell_6 : decode cL_cell 6 = .ok (.aload_n 0, 1) := by decide +kernel
theorem dL_cell_7 : decode cL_cell 7 = .ok (.iload_n 1, 1) := by decide +kernel
theorem dL_cell_8 : decode cL_cell 8 = .ok (.iaload, 1) := by decide +kernel
theorem dL_cell_9 : decode cL_cell 9 = .ok (.goto 12, 3) := by decide +kernel
theorem dL_cell_12 : decode cL_cell 12 = .ok (.ldc 7, 2) := by decide +kernel
theorem dL_cell_14 : decode cL_cell 14 = .ok (.iload_n 1, 1) := by decide +kernel
theorem dL_cell_15 : decode cL_cell 15 = .ok (.iconst 5, 1) := by decide +kernel
theorem dL_cell_16 : decode cL_cell 16 = .ok (.iadd, 1) := by decide +kernel
theorem dL_cell_17 : decode cL_cell 17 = .ok (.imul, 1) := by decide +kernel
theorem dL_cell_18 : decode cL_cell 18 = .ok (.ldc 8, 2) := by decide +kernel
theorem dL_cell_20 : decode cL_cell 20 = .ok (.iadd, 1) := by decide +kernel
theorem dL_cell_21 : decode cL_cell 21 = .ok (.ireturn, 1) := by decide +kernel
theorem dL_low_0 : decode cL_low 0 = .ok (.iload_n 0, 1) := by decide +kernel
theorem dL_low_1 : decode cL_low 1 = .ok (.ldc 9, 2) := by decide +kernel
theorem dL_low_3 : decode cL_low 3 = .ok (.iand, 1) := by decide +kernel
theorem dL_low_4 : decode cL_low 4 = .ok (.iload_n 1, 1) := by decide +kernel
end
section
theorem dL_low_5 : decode cL_low 5 = .ok (.irem, 1) := by decide +kernel
theorem dL_low_6 : decode cL_low 6 = .ok (.ireturn, 1) := by decide +kernel
theorem dL_flightOf_0 : decode cL_flightOf 0 = .ok (.iload_n 0, 1) := by decide +kernel
theorem dL_flightOf_1 : decode cL_flightOf 1 = .ok (.bipush 7, 2) := by decide +kernel
theorem dL_flightOf_3 : decode cL_flightOf 3 = .ok (.iand, 1) := by decide +kernel
theorem dL_flightOf_4 : decode cL_flightOf 4 = .ok (.ireturn, 1) := by decide +kernel
theorem dL_areaOf_0 : decode cL_areaOf 0 = .ok (.iload_n 0, 1) := by decide +kernel
theorem dL_areaOf_1 : decode cL_areaOf 1 = .ok (.iconst 3, 1) := by decide +kernel
theorem dL_areaOf_2 : decode cL_areaOf 2 = .ok (.ishr, 1) := by decide +kernel
theorem dL_areaOf_3 : decode cL_areaOf 3 = .ok (.bipush 7, 2) := by decide +kernel
theorem dL_areaOf_5 : decode cL_areaOf 5 = .ok (.iand, 1) := by decide +kernel
theorem dL_areaOf_6 : decode cL_areaOf 6 = .ok (.ireturn, 1) := by decide +kernel
theorem dL_doorOf_0 : decode cL_doorOf 0 = .ok (.iload_n 0, 1) := by decide +kernel
theorem dL_doorOf_1 : decode cL_doorOf 1 = .ok (.bipush 6, 2) := by decide +kernel
theorem dL_doorOf_3 : decode cL_doorOf 3 = .ok (.ishr, 1) := by decide +kernel
theorem dL_doorOf_4 : decode cL_doorOf 4 = .ok (.bipush 127, 2) := by decide +kernel
theorem dL_doorOf_6 : decode cL_doorOf 6 = .ok (.iand, 1) := by decide +kernel
theorem dL_doorOf_7 : decode cL_doorOf 7 = .ok (.ireturn, 1) := by decide +kernel
theorem dL_people_0 : decode cL_people 0 = .ok (.iload_n 0, 1) := by decide +kernel
theorem dL_people_1 : decode cL_people 1 = .ok (.bipush 13, 2) := by decide +kernel
theorem dL_people_3 : decode cL_people 3 = .ok (.ishr, 1) := by decide +kernel
theorem dL_people_4 : decode cL_people 4 = .ok (.ireturn, 1) := by decide +kernel
theorem dL_ready_0 : decode cL_ready 0 = .ok (.aload_n 1, 1) := by decide +kernel
theorem dL_ready_1 : decode cL_ready 1 = .ok (.bipush 6, 2) := by decide +kernel
theorem dL_ready_3 : decode cL_ready 3 = .ok (.iload_n 0, 1) := by decide +kernel
theorem dL_ready_4 : decode cL_ready 4 = .ok (.invokestatic 10, 3) := by decide +kernel
theorem dL_ready_7 : decode cL_ready 7 = .ok (.iadd, 1) := by decide +kernel
theorem dL_ready_8 : decode cL_ready 8 = .ok (.iaload, 1) := by decide +kernel
theorem dL_ready_9 : decode cL_ready 9 = .ok (.aload_n 1, 1) := by decide +kernel
theorem dL_ready_10 : decode cL_ready 10 = .ok (.bipush 12, 2) := by decide +kernel
theorem dL_ready_12 : decode cL_ready 12 = .ok (.iload_n 0, 1) := by decide +kernel
theorem dL_ready_13 : decode cL_ready 13 = .ok (.invokestatic 10, 3) := by decide +kernel
theorem dL_ready_16 : decode cL_ready 16 = .ok (.iadd, 1) := by decide +kernel
theorem dL_ready_17 : decode cL_ready 17 = .ok (.iaload, 1) := by decide +kernel
theorem dL_ready_18 : decode cL_ready 18 = .ok (.iadd, 1) := by decide +kernel
theorem dL_ready_19 : decode cL_ready 19 = .ok (.aload_n 1, 1) := by decide +kernel
theorem dL_ready_20 : decode cL_ready 20 = .ok (.iconst 0, 1) := by decide +kernel
theorem dL_ready_21 : decode cL_ready 21 = .ok (.iaload, 1) := by decide +kernel
theorem dL_ready_22 : decode cL_ready 22 = .ok (.iadd, 1) := by decide +kernel
theorem dL_ready_23 : decode cL_ready 23 = .ok (.ireturn, 1) := by decide +kernel
theorem dL_ones_0 : decode cL_ones 0 = .ok (.iconst 0, 1) := by decide +kernel
theorem dL_ones_1 : decode cL_ones 1 = .ok (.istore_n 1, 1) := by decide +kernel
theorem dL_ones_2 : decode cL_ones 2 = .ok (.iload_n 0, 1) := by decide +kernel
theorem dL_ones_3 : decode cL_ones 3 = .ok (.istore_n 2, 1) := by decide +kernel
theorem dL_ones_4 : decode cL_ones 4 = .ok (.iload_n 2, 1) := by decide +kernel
theorem dL_ones_5 : decode cL_ones 5 = .ok (.ifCond .eq 15, 3) := by decide +kernel
theorem dL_ones_8 : decode cL_ones 8 = .ok (.iinc 1 1, 3) := by decide +kernel
theorem dL_ones_11 : decode cL_ones 11 = .ok (.iload_n 2, 1) := by decide +kernel
theorem dL_ones_12 : decode cL_ones 12 = .ok (.iload_n 2, 1) := by decide +kernel
theorem dL_ones_13 : decode cL_ones 13 = .ok (.iconst 1, 1) := by decide +kernel
theorem dL_ones_14 : decode cL_ones 14 = .ok (.isub, 1) := by decide +kernel
theorem dL_ones_15 : decode cL_ones 15 = .ok (.iand, 1) := by decide +kernel
theorem dL_ones_16 : decode cL_ones 16 = .ok (.istore_n 2, 1) := by decide +kernel
theorem dL_ones_17 : decode cL_ones 17 = .ok (.goto (-13), 3) := by decide +kernel
theorem dL_ones_20 : decode cL_ones 20 = .ok (.iload_n 1, 1) := by decide +kernel
theorem dL_ones_21 : decode cL_ones 21 = .ok (.ireturn, 1) := by decide +kernel
theorem dL_gives_0 : decode cL_gives 0 = .ok (.iconst 0, 1) := by decide +kernel
theorem dL_gives_1 : decode cL_gives 1 = .ok (.istore 5, 2) := by decide +kernel
theorem dL_gives_3 : decode cL_gives 3 = .ok (.iload 5, 2) := by decide +kernel
theorem dL_gives_5 : decode cL_gives 5 = .ok (.aload_n 0, 1) := by decide +kernel
theorem dL_gives_6 : decode cL_gives 6 = .ok (.iconst 5, 1) := by decide +kernel
theorem dL_gives_7 : decode cL_gives 7 = .ok (.iaload, 1) := by decide +kernel
theorem dL_gives_8 : decode cL_gives 8 = .ok (.if_icmp .ge 63, 3) := by decide +kernel
theorem dL_gives_11 : decode cL_gives 11 = .ok (.iload 5, 2) := by decide +kernel
theorem dL_gives_13 : decode cL_gives 13 = .ok (.istore 6, 2) := by decide +kernel
theorem dL_gives_15 : decode cL_gives 15 = .ok (.iload 6, 2) := by decide +kernel
theorem dL_gives_17 : decode cL_gives 17 = .ok (.ifCond .le 42, 3) := by decide +kernel
theorem dL_gives_20 : decode cL_gives 20 = .ok (.aload_n 1, 1) := by decide +kernel
theorem dL_gives_21 : decode cL_gives 21 = .ok (.aload_n 3, 1) := by decide +kernel
theorem dL_gives_22 : decode cL_gives 22 = .ok (.iload 6, 2) := by decide +kernel
theorem dL_gives_24 : decode cL_gives 24 = .ok (.iconst 1, 1) := by decide +kernel
theorem dL_gives_25 : decode cL_gives 25 = .ok (.isub, 1) := by decide +kernel
theorem dL_gives_26 : decode cL_gives 26 = .ok (.iaload, 1) := by decide +kernel
theorem dL_gives_27 : decode cL_gives 27 = .ok (.iaload, 1) := by decide +kernel
theorem dL_gives_28 : decode cL_gives 28 = .ok (.aload_n 0, 1) := by decide +kernel
theorem dL_gives_29 : decode cL_gives 29 = .ok (.invokestatic 16, 3) := by decide +kernel
theorem dL_gives_32 : decode cL_gives 32 = .ok (.aload_n 1, 1) := by decide +kernel
theorem dL_gives_33 : decode cL_gives 33 = .ok (.iload 5, 2) := by decide +kernel
theorem dL_gives_35 : decode cL_gives 35 = .ok (.iaload, 1) := by decide +kernel
theorem dL_gives_36 : decode cL_gives 36 = .ok (.aload_n 0, 1) := by decide +kernel
theorem dL_gives_37 : decode cL_gives 37 = .ok (.invokestatic 16, 3) := by decide +kernel
theorem dL_gives_40 : decode cL_gives 40 = .ok (.if_icmp .le 19, 3) := by decide +kernel
theorem dL_gives_43 : decode cL_gives 43 = .ok (.aload_n 3, 1) := by decide +kernel
theorem dL_gives_44 : decode cL_gives 44 = .ok (.iload 6, 2) := by decide +kernel
theorem dL_gives_46 : decode cL_gives 46 = .ok (.aload_n 3, 1) := by decide +kernel
theorem dL_gives_47 : decode cL_gives 47 = .ok (.iload 6, 2) := by decide +kernel
theorem dL_gives_49 : decode cL_gives 49 = .ok (.iconst 1, 1) := by decide +kernel
theorem dL_gives_50 : decode cL_gives 50 = .ok (.isub, 1) := by decide +kernel
theorem dL_gives_51 : decode cL_gives 51 = .ok (.iaload, 1) := by decide +kernel
theorem dL_gives_52 : decode cL_gives 52 = .ok (.iastore, 1) := by decide +kernel
theorem dL_gives_53 : decode cL_gives 53 = .ok (.iinc 6 (-1), 3) := by decide +kernel
theorem dL_gives_56 : decode cL_gives 56 = .ok (.goto (-41), 3) := by decide +kernel
theorem dL_gives_59 : decode cL_gives 59 = .ok (.aload_n 3, 1) := by decide +kernel
theorem dL_gives_60 : decode cL_gives 60 = .ok (.iload 6, 2) := by decide +kernel
theorem dL_gives_62 : decode cL_gives 62 = .ok (.iload 5, 2) := by decide +kernel
theorem dL_gives_64 : decode cL_gives 64 = .ok (.iastore, 1) := by decide +kernel
theorem dL_gives_65 : decode cL_gives 65 = .ok (.iinc 5 1, 3) := by decide +kernel
theorem dL_gives_68 : decode cL_gives 68 = .ok (.goto (-65), 3) := by decide +kernel
theorem dL_gives_71 : decode cL_gives 71 = .ok (.iconst 0, 1) := by decide +kernel
theorem dL_gives_72 : decode cL_gives 72 = .ok (.istore 5, 2) := by decide +kernel
theorem dL_gives_74 : decode cL_gives 74 = .ok (.iload 5, 2) := by decide +kernel
theorem dL_gives_76 : decode cL_gives 76 = .ok (.bipush 16, 2) := by decide +kernel
theorem dL_gives_78 : decode cL_gives 78 = .ok (.if_icmp .ge 15, 3) := by decide +kernel
theorem dL_gives_81 : decode cL_gives 81 = .ok (.aload 4, 2) := by decide +kernel
theorem dL_gives_83 : decode cL_gives 83 = .ok (.iload 5, 2) := by decide +kernel
theorem dL_gives_85 : decode cL_gives 85 = .ok (.iconst 0, 1) := by decide +kernel
theorem dL_gives_86 : decode cL_gives 86 = .ok (.iastore, 1) := by decide +kernel
theorem dL_gives_87 : decode cL_gives 87 = .ok (.iinc 5 1, 3) := by decide +kernel
theorem dL_gives_90 : decode cL_gives 90 = .ok (.goto (-16), 3) := by decide +kernel
theorem dL_gives_93 : decode cL_gives 93 = .ok (.iconst 0, 1) := by decide +kernel
theorem dL_gives_94 : decode cL_gives 94 = .ok (.istore 5, 2) := by decide +kernel
theorem dL_gives_96 : decode cL_gives 96 = .ok (.iload 5, 2) := by decide +kernel
theorem dL_gives_98 : decode cL_gives 98 = .ok (.aload_n 0, 1) := by decide +kernel
theorem dL_gives_99 : decode cL_gives 99 = .ok (.iconst 5, 1) := by decide +kernel
theorem dL_gives_100 : decode cL_gives 100 = .ok (.iaload, 1) := by decide +kernel
theorem dL_gives_101 : decode cL_gives 101 = .ok (.if_icmp .ge 197, 3) := by decide +kernel
theorem dL_gives_104 : decode cL_gives 104 = .ok (.aload_n 1, 1) := by decide +kernel
theorem dL_gives_105 : decode cL_gives 105 = .ok (.aload_n 3, 1) := by decide +kernel
theorem dL_gives_106 : decode cL_gives 106 = .ok (.iload 5, 2) := by decide +kernel
theorem dL_gives_108 : decode cL_gives 108 = .ok (.iaload, 1) := by decide +kernel
theorem dL_gives_109 : decode cL_gives 109 = .ok (.iaload, 1) := by decide +kernel
theorem dL_gives_110 : decode cL_gives 110 = .ok (.istore 6, 2) := by decide +kernel
theorem dL_gives_112 : decode cL_gives 112 = .ok (.iconst (-1), 1) := by decide +kernel
theorem dL_gives_113 : decode cL_gives 113 = .ok (.istore 7, 2) := by decide +kernel
theorem dL_gives_115 : decode cL_gives 115 = .ok (.bipush 7, 2) := by decide +kernel
theorem dL_gives_117 : decode cL_gives 117 = .ok (.istore 8, 2) := by decide +kernel
theorem dL_gives_119 : decode cL_gives 119 = .ok (.iload 8, 2) := by decide +kernel
theorem dL_gives_121 : decode cL_gives 121 = .ok (.ifCond .lt 127, 3) := by decide +kernel
theorem dL_gives_124 : decode cL_gives 124 = .ok (.aload_n 0, 1) := by decide +kernel
theorem dL_gives_125 : decode cL_gives 125 = .ok (.bipush 18, 2) := by decide +kernel
theorem dL_gives_127 : decode cL_gives 127 = .ok (.iload 8, 2) := by decide +kernel
theorem dL_gives_129 : decode cL_gives 129 = .ok (.iadd, 1) := by decide +kernel
theorem dL_gives_130 : decode cL_gives 130 = .ok (.iaload, 1) := by decide +kernel
theorem dL_gives_131 : decode cL_gives 131 = .ok (.iload 6, 2) := by decide +kernel
theorem dL_gives_133 : decode cL_gives 133 = .ok (.aload_n 0, 1) := by decide +kernel
theorem dL_gives_134 : decode cL_gives 134 = .ok (.invokestatic 16, 3) := by decide +kernel
theorem dL_gives_137 : decode cL_gives 137 = .ok (.isub, 1) := by decide +kernel
theorem dL_gives_138 : decode cL_gives 138 = .ok (.istore 9, 2) := by decide +kernel
theorem dL_gives_140 : decode cL_gives 140 = .ok (.iload 9, 2) := by decide +kernel
theorem dL_gives_142 : decode cL_gives 142 = .ok (.ifCond .lt 61, 3) := by decide +kernel
theorem dL_gives_145 : decode cL_gives 145 = .ok (.iload 9, 2) := by decide +kernel
theorem dL_gives_147 : decode cL_gives 147 = .ok (.aload_n 0, 1) := by decide +kernel
theorem dL_gives_148 : decode cL_gives 148 = .ok (.iconst 1, 1) := by decide +kernel
theorem dL_gives_149 : decode cL_gives 149 = .ok (.iaload, 1) := by decide +kernel
theorem dL_gives_150 : decode cL_gives 150 = .ok (.if_icmp .gt 53, 3) := by decide +kernel
theorem dL_gives_153 : decode cL_gives 153 = .ok (.aload 4, 2) := by decide +kernel
theorem dL_gives_155 : decode cL_gives 155 = .ok (.iload 8, 2) := by decide +kernel
theorem dL_gives_157 : decode cL_gives 157 = .ok (.iaload, 1) := by decide +kernel
theorem dL_gives_158 : decode cL_gives 158 = .ok (.iload 6, 2) := by decide +kernel
theorem dL_gives_160 : decode cL_gives 160 = .ok (.invokestatic 20, 3) := by decide +kernel
theorem dL_gives_163 : decode cL_gives 163 = .ok (.iadd, 1) := by decide +kernel
theorem dL_gives_164 : decode cL_gives 164 = .ok (.aload_n 0, 1) := by decide +kernel
theorem dL_gives_165 : decode cL_gives 165 = .ok (.bipush 26, 2) := by decide +kernel
theorem dL_gives_167 : decode cL_gives 167 = .ok (.iload 8, 2) := by decide +kernel
theorem dL_gives_169 : decode cL_gives 169 = .ok (.iadd, 1) := by decide +kernel
theorem dL_gives_170 : decode cL_gives 170 = .ok (.iaload, 1) := by decide +kernel
theorem dL_gives_171 : decode cL_gives 171 = .ok (.if_icmp .gt 32, 3) := by decide +kernel
theorem dL_gives_174 : decode cL_gives 174 = .ok (.aload 4, 2) := by decide +kernel
theorem dL_gives_176 : decode cL_gives 176 = .ok (.bipush 8, 2) := by decide +kernel
theorem dL_gives_178 : decode cL_gives 178 = .ok (.iload 8, 2) := by decide +kernel
theorem dL_gives_180 : decode cL_gives 180 = .ok (.iadd, 1) := by decide +kernel
theorem dL_gives_181 : decode cL_gives 181 = .ok (.iaload, 1) := by decide +kernel
theorem dL_gives_182 : decode cL_gives 182 = .ok (.iconst 1, 1) := by decide +kernel
theorem dL_gives_183 : decode cL_gives 183 = .ok (.iload 6, 2) := by decide +kernel
theorem dL_gives_185 : decode cL_gives 185 = .ok (.invokestatic 23, 3) := by decide +kernel
theorem dL_gives_188 : decode cL_gives 188 = .ok (.ishl, 1) := by decide +kernel
theorem dL_gives_189 : decode cL_gives 189 = .ok (.ior, 1) := by decide +kernel
theorem dL_gives_190 : decode cL_gives 190 = .ok (.invokestatic 26, 3) := by decide +kernel
theorem dL_gives_193 : decode cL_gives 193 = .ok (.aload_n 0, 1) := by decide +kernel
theorem dL_gives_194 : decode cL_gives 194 = .ok (.iconst 2, 1) := by decide +kernel
theorem dL_gives_195 : decode cL_gives 195 = .ok (.iaload, 1) := by decide +kernel
theorem dL_gives_196 : decode cL_gives 196 = .ok (.if_icmp .gt 7, 3) := by decide +kernel
theorem dL_gives_199 : decode cL_gives 199 = .ok (.iconst 1, 1) := by decide +kernel
theorem dL_gives_200 : decode cL_gives 200 = .ok (.goto 4, 3) := by decide +kernel
theorem dL_gives_203 : decode cL_gives 203 = .ok (.iconst 0, 1) := by decide +kernel
theorem dL_gives_204 : decode cL_gives 204 = .ok (.istore 10, 2) := by decide +kernel
theorem dL_gives_206 : decode cL_gives 206 = .ok (.iload 10, 2) := by decide +kernel
theorem dL_gives_208 : decode cL_gives 208 = .ok (.ifCond .eq 30, 3) := by decide +kernel
theorem dL_gives_211 : decode cL_gives 211 = .ok (.iload 7, 2) := by decide +kernel
theorem dL_gives_213 : decode cL_gives 213 = .ok (.ifCond .lt 20, 3) := by decide +kernel
theorem dL_gives_216 : decode cL_gives 216 = .ok (.aload_n 0, 1) := by decide +kernel
theorem dL_gives_217 : decode cL_gives 217 = .ok (.bipush 18, 2) := by decide +kernel
theorem dL_gives_219 : decode cL_gives 219 = .ok (.iload 8, 2) := by decide +kernel
theorem dL_gives_221 : decode cL_gives 221 = .ok (.iadd, 1) := by decide +kernel
theorem dL_gives_222 : decode cL_gives 222 = .ok (.iaload, 1) := by decide +kernel
theorem dL_gives_223 : decode cL_gives 223 = .ok (.aload_n 0, 1) := by decide +kernel
theorem dL_gives_224 : decode cL_gives 224 = .ok (.bipush 18, 2) := by decide +kernel
theorem dL_gives_226 : decode cL_gives 226 = .ok (.iload 7, 2) := by decide +kernel
theorem dL_gives_228 : decode cL_gives 228 = .ok (.iadd, 1) := by decide +kernel
theorem dL_gives_229 : decode cL_gives 229 = .ok (.iaload, 1) := by decide +kernel
theorem dL_gives_230 : decode cL_gives 230 = .ok (.if_icmp .gt 8, 3) := by decide +kernel
theorem dL_gives_233 : decode cL_gives 233 = .ok (.iload 8, 2) := by decide +kernel
theorem dL_gives_235 : decode cL_gives 235 = .ok (.goto 5, 3) := by decide +kernel
theorem dL_gives_238 : decode cL_gives 238 = .ok (.iload 7, 2) := by decide +kernel
theorem dL_gives_240 : decode cL_gives 240 = .ok (.istore 7, 2) := by decide +kernel
theorem dL_gives_242 : decode cL_gives 242 = .ok (.iinc 8 (-1), 3) := by decide +kernel
theorem dL_gives_245 : decode cL_gives 245 = .ok (.goto (-126), 3) := by decide +kernel
theorem dL_gives_248 : decode cL_gives 248 = .ok (.aload_n 2, 1) := by decide +kernel
theorem dL_gives_249 : decode cL_gives 249 = .ok (.aload_n 3, 1) := by decide +kernel
theorem dL_gives_250 : decode cL_gives 250 = .ok (.iload 5, 2) := by decide +kernel
theorem dL_gives_252 : decode cL_gives 252 = .ok (.iaload, 1) := by decide +kernel
theorem dL_gives_253 : decode cL_gives 253 = .ok (.iload 7, 2) := by decide +kernel
theorem dL_gives_255 : decode cL_gives 255 = .ok (.iastore, 1) := by decide +kernel
theorem dL_gives_256 : decode cL_gives 256 = .ok (.iload 7, 2) := by decide +kernel
theorem dL_gives_258 : decode cL_gives 258 = .ok (.ifCond .lt 34, 3) := by decide +kernel
theorem dL_gives_261 : decode cL_gives 261 = .ok (.aload 4, 2) := by decide +kernel
theorem dL_gives_263 : decode cL_gives 263 = .ok (.iload 7, 2) := by decide +kernel
theorem dL_gives_265 : decode cL_gives 265 = .ok (.dup2, 1) := by decide +kernel
theorem dL_gives_266 : decode cL_gives 266 = .ok (.iaload, 1) := by decide +kernel
theorem dL_gives_267 : decode cL_gives 267 = .ok (.iload 6, 2) := by decide +kernel
theorem dL_gives_269 : decode cL_gives 269 = .ok (.invokestatic 20, 3) := by decide +kernel
theorem dL_gives_272 : decode cL_gives 272 = .ok (.iadd, 1) := by decide +kernel
theorem dL_gives_273 : decode cL_gives 273 = .ok (.iastore, 1) := by decide +kernel
theorem dL_gives_274 : decode cL_gives 274 = .ok (.aload 4, 2) := by decide +kernel
theorem dL_gives_276 : decode cL_gives 276 = .ok (.bipush 8, 2) := by decide +kernel
theorem dL_gives_278 : decode cL_gives 278 = .ok (.iload 7, 2) := by decide +kernel
theorem dL_gives_280 : decode cL_gives 280 = .ok (.iadd, 1) := by decide +kernel
theorem dL_gives_281 : decode cL_gives 281 = .ok (.dup2, 1) := by decide +kernel
theorem dL_gives_282 : decode cL_gives 282 = .ok (.iaload, 1) := by decide +kernel
theorem dL_gives_283 : decode cL_gives 283 = .ok (.iconst 1, 1) := by decide +kernel
theorem dL_gives_284 : decode cL_gives 284 = .ok (.iload 6, 2) := by decide +kernel
theorem dL_gives_286 : decode cL_gives 286 = .ok (.invokestatic 23, 3) := by decide +kernel
theorem dL_gives_289 : decode cL_gives 289 = .ok (.ishl, 1) := by decide +kernel
theorem dL_gives_290 : decode cL_gives 290 = .ok (.ior, 1) := by decide +kernel
theorem dL_gives_291 : decode cL_gives 291 = .ok (.iastore, 1) := by decide +kernel
theorem dL_gives_292 : decode cL_gives 292 = .ok (.iinc 5 1, 3) := by decide +kernel
theorem dL_gives_295 : decode cL_gives 295 = .ok (.goto (-199), 3) := by decide +kernel
theorem dL_gives_298 : decode cL_gives 298 = .ok (.return_, 1) := by decide +kernel
theorem dL_stopsAhead_0 : decode cL_stopsAhead 0 = .ok (.iconst 0, 1) := by decide +kernel
theorem dL_stopsAhead_1 : decode cL_stopsAhead 1 = .ok (.istore 5, 2) := by decide +kernel
theorem dL_stopsAhead_3 : decode cL_stopsAhead 3 = .ok (.iconst 0, 1) := by decide +kernel
theorem dL_stopsAhead_4 : decode cL_stopsAhead 4 = .ok (.istore 6, 2) := by decide +kernel
theorem dL_stopsAhead_6 : decode cL_stopsAhead 6 = .ok (.iload 6, 2) := by decide +kernel
theorem dL_stopsAhead_8 : decode cL_stopsAhead 8 = .ok (.aload_n 2, 1) := by decide +kernel
theorem dL_stopsAhead_9 : decode cL_stopsAhead 9 = .ok (.iconst 5, 1) := by decide +kernel
theorem dL_stopsAhead_10 : decode cL_stopsAhead 10 = .ok (.iaload, 1) := by decide +kernel
theorem dL_stopsAhead_11 : decode cL_stopsAhead 11 = .ok (.if_icmp .ge 115, 3) := by decide +kernel
theorem dL_stopsAhead_14 : decode cL_stopsAhead 14 = .ok (.aload_n 3, 1) := by decide +kernel
theorem dL_stopsAhead_15 : decode cL_stopsAhead 15 = .ok (.iload 6, 2) := by decide +kernel
theorem dL_stopsAhead_17 : decode cL_stopsAhead 17 = .ok (.iaload, 1) := by decide +kernel
theorem dL_stopsAhead_18 : decode cL_stopsAhead 18 = .ok (.iconst 3, 1) := by decide +kernel
theorem dL_stopsAhead_19 : decode cL_stopsAhead 19 = .ok (.ishr, 1) := by decide +kernel
theorem dL_stopsAhead_20 : decode cL_stopsAhead 20 = .ok (.sipush 1023, 3) := by decide +kernel
theorem dL_stopsAhead_23 : decode cL_stopsAhead 23 = .ok (.iand, 1) := by decide +kernel
theorem dL_stopsAhead_24 : decode cL_stopsAhead 24 = .ok (.istore 7, 2) := by decide +kernel
theorem dL_stopsAhead_26 : decode cL_stopsAhead 26 = .ok (.aload 4, 2) := by decide +kernel
theorem dL_stopsAhead_28 : decode cL_stopsAhead 28 = .ok (.iload 6, 2) := by decide +kernel
theorem dL_stopsAhead_30 : decode cL_stopsAhead 30 = .ok (.iaload, 1) := by decide +kernel
theorem dL_stopsAhead_31 : decode cL_stopsAhead 31 = .ok (.iload_n 0, 1) := by decide +kernel
theorem dL_stopsAhead_32 : decode cL_stopsAhead 32 = .ok (.if_icmp .ne 18, 3) := by decide +kernel
theorem dL_stopsAhead_35 : decode cL_stopsAhead 35 = .ok (.aload_n 3, 1) := by decide +kernel
theorem dL_stopsAhead_36 : decode cL_stopsAhead 36 = .ok (.iload 6, 2) := by decide +kernel
theorem dL_stopsAhead_38 : decode cL_stopsAhead 38 = .ok (.iaload, 1) := by decide +kernel
theorem dL_stopsAhead_39 : decode cL_stopsAhead 39 = .ok (.invokestatic 29, 3) := by decide +kernel
theorem dL_stopsAhead_42 : decode cL_stopsAhead 42 = .ok (.iload_n 1, 1) := by decide +kernel
theorem dL_stopsAhead_43 : decode cL_stopsAhead 43 = .ok (.if_icmp .ge 7, 3) := by decide +kernel
theorem dL_stopsAhead_46 : decode cL_stopsAhead 46 = .ok (.iconst 1, 1) := by decide +kernel
theorem dL_stopsAhead_47 : decode cL_stopsAhead 47 = .ok (.goto 4, 3) := by decide +kernel
theorem dL_stopsAhead_50 : decode cL_stopsAhead 50 = .ok (.iconst 0, 1) := by decide +kernel
theorem dL_stopsAhead_51 : decode cL_stopsAhead 51 = .ok (.istore 8, 2) := by decide +kernel
theorem dL_stopsAhead_53 : decode cL_stopsAhead 53 = .ok (.iconst 0, 1) := by decide +kernel
theorem dL_stopsAhead_54 : decode cL_stopsAhead 54 = .ok (.istore 9, 2) := by decide +kernel
theorem dL_stopsAhead_56 : decode cL_stopsAhead 56 = .ok (.iload 9, 2) := by decide +kernel
theorem dL_stopsAhead_58 : decode cL_stopsAhead 58 = .ok (.iload 6, 2) := by decide +kernel
theorem dL_stopsAhead_60 : decode cL_stopsAhead 60 = .ok (.if_icmp .ge 45, 3) := by decide +kernel
theorem dL_stopsAhead_63 : decode cL_stopsAhead 63 = .ok (.iload 8, 2) := by decide +kernel
theorem dL_stopsAhead_65 : decode cL_stopsAhead 65 = .ok (.ifCond .eq 31, 3) := by decide +kernel
theorem dL_stopsAhead_68 : decode cL_stopsAhead 68 = .ok (.aload 4, 2) := by decide +kernel
theorem dL_stopsAhead_70 : decode cL_stopsAhead 70 = .ok (.iload 9, 2) := by decide +kernel
theorem dL_stopsAhead_72 : decode cL_stopsAhead 72 = .ok (.iaload, 1) := by decide +kernel
theorem dL_stopsAhead_73 : decode cL_stopsAhead 73 = .ok (.iload_n 0, 1) := by decide +kernel
theorem dL_stopsAhead_74 : decode cL_stopsAhead 74 = .ok (.if_icmp .ne 18, 3) := by decide +kernel
theorem dL_stopsAhead_77 : decode cL_stopsAhead 77 = .ok (.aload_n 3, 1) := by decide +kernel
theorem dL_stopsAhead_78 : decode cL_stopsAhead 78 = .ok (.iload 9, 2) := by decide +kernel
theorem dL_stopsAhead_80 : decode cL_stopsAhead 80 = .ok (.iaload, 1) := by decide +kernel
theorem dL_stopsAhead_81 : decode cL_stopsAhead 81 = .ok (.iconst 3, 1) := by decide +kernel
theorem dL_stopsAhead_82 : decode cL_stopsAhead 82 = .ok (.ishr, 1) := by decide +kernel
theorem dL_stopsAhead_83 : decode cL_stopsAhead 83 = .ok (.sipush 1023, 3) := by decide +kernel
theorem dL_stopsAhead_86 : decode cL_stopsAhead 86 = .ok (.iand, 1) := by decide +kernel
theorem dL_stopsAhead_87 : decode cL_stopsAhead 87 = .ok (.iload 7, 2) := by decide +kernel
theorem dL_stopsAhead_89 : decode cL_stopsAhead 89 = .ok (.if_icmp .eq 7, 3) := by decide +kernel
theorem dL_stopsAhead_92 : decode cL_stopsAhead 92 = .ok (.iconst 1, 1) := by decide +kernel
theorem dL_stopsAhead_93 : decode cL_stopsAhead 93 = .ok (.goto 4, 3) := by decide +kernel
theorem dL_stopsAhead_96 : decode cL_stopsAhead 96 = .ok (.iconst 0, 1) := by decide +kernel
theorem dL_stopsAhead_97 : decode cL_stopsAhead 97 = .ok (.istore 8, 2) := by decide +kernel
theorem dL_stopsAhead_99 : decode cL_stopsAhead 99 = .ok (.iinc 9 1, 3) := by decide +kernel
theorem dL_stopsAhead_102 : decode cL_stopsAhead 102 = .ok (.goto (-46), 3) := by decide +kernel
theorem dL_stopsAhead_105 : decode cL_stopsAhead 105 = .ok (.iload 5, 2) := by decide +kernel
theorem dL_stopsAhead_107 : decode cL_stopsAhead 107 = .ok (.iload 8, 2) := by decide +kernel
theorem dL_stopsAhead_109 : decode cL_stopsAhead 109 = .ok (.ifCond .eq 7, 3) := by decide +kernel
theorem dL_stopsAhead_112 : decode cL_stopsAhead 112 = .ok (.iconst 1, 1) := by decide +kernel
theorem dL_stopsAhead_113 : decode cL_stopsAhead 113 = .ok (.goto 4, 3) := by decide +kernel
theorem dL_stopsAhead_116 : decode cL_stopsAhead 116 = .ok (.iconst 0, 1) := by decide +kernel
theorem dL_stopsAhead_117 : decode cL_stopsAhead 117 = .ok (.iadd, 1) := by decide +kernel
theorem dL_stopsAhead_118 : decode cL_stopsAhead 118 = .ok (.istore 5, 2) := by decide +kernel
theorem dL_stopsAhead_120 : decode cL_stopsAhead 120 = .ok (.iinc 6 1, 3) := by decide +kernel
theorem dL_stopsAhead_123 : decode cL_stopsAhead 123 = .ok (.goto (-117), 3) := by decide +kernel
theorem dL_stopsAhead_126 : decode cL_stopsAhead 126 = .ok (.iload 5, 2) := by decide +kernel
theorem dL_stopsAhead_128 : decode cL_stopsAhead 128 = .ok (.ireturn, 1) := by decide +kernel
theorem dL_keyOf_0 : decode cL_keyOf 0 = .ok (.bipush 100, 2) := by decide +kernel
theorem dL_keyOf_2 : decode cL_keyOf 2 = .ok (.iload_n 0, 1) := by decide +kernel
theorem dL_keyOf_3 : decode cL_keyOf 3 = .ok (.invokestatic 23, 3) := by decide +kernel
theorem dL_keyOf_6 : decode cL_keyOf 6 = .ok (.imul, 1) := by decide +kernel
theorem dL_keyOf_7 : decode cL_keyOf 7 = .ok (.iload_n 0, 1) := by decide +kernel
theorem dL_keyOf_8 : decode cL_keyOf 8 = .ok (.invokestatic 32, 3) := by decide +kernel
theorem dL_keyOf_11 : decode cL_keyOf 11 = .ok (.iadd, 1) := by decide +kernel
theorem dL_keyOf_12 : decode cL_keyOf 12 = .ok (.ireturn, 1) := by decide +kernel
theorem dL_minuteAt_0 : decode cL_minuteAt 0 = .ok (.iconst 0, 1) := by decide +kernel
theorem dL_minuteAt_1 : decode cL_minuteAt 1 = .ok (.istore 5, 2) := by decide +kernel
theorem dL_minuteAt_3 : decode cL_minuteAt 3 = .ok (.iconst 0, 1) := by decide +kernel
theorem dL_minuteAt_4 : decode cL_minuteAt 4 = .ok (.istore 6, 2) := by decide +kernel
theorem dL_minuteAt_6 : decode cL_minuteAt 6 = .ok (.iload 6, 2) := by decide +kernel
theorem dL_minuteAt_8 : decode cL_minuteAt 8 = .ok (.aload_n 2, 1) := by decide +kernel
theorem dL_minuteAt_9 : decode cL_minuteAt 9 = .ok (.iconst 5, 1) := by decide +kernel
theorem dL_minuteAt_10 : decode cL_minuteAt 10 = .ok (.iaload, 1) := by decide +kernel
theorem dL_minuteAt_11 : decode cL_minuteAt 11 = .ok (.if_icmp .ge 47, 3) := by decide +kernel
theorem dL_minuteAt_14 : decode cL_minuteAt 14 = .ok (.iload 5, 2) := by decide +kernel
theorem dL_minuteAt_16 : decode cL_minuteAt 16 = .ok (.aload 4, 2) := by decide +kernel
theorem dL_minuteAt_18 : decode cL_minuteAt 18 = .ok (.iload 6, 2) := by decide +kernel
theorem dL_minuteAt_20 : decode cL_minuteAt 20 = .ok (.iaload, 1) := by decide +kernel
theorem dL_minuteAt_21 : decode cL_minuteAt 21 = .ok (.iload_n 0, 1) := by decide +kernel
theorem dL_minuteAt_22 : decode cL_minuteAt 22 = .ok (.if_icmp .ne 26, 3) := by decide +kernel
theorem dL_minuteAt_25 : decode cL_minuteAt 25 = .ok (.aload_n 3, 1) := by decide +kernel
theorem dL_minuteAt_26 : decode cL_minuteAt 26 = .ok (.iload 6, 2) := by decide +kernel
theorem dL_minuteAt_28 : decode cL_minuteAt 28 = .ok (.iaload, 1) := by decide +kernel
theorem dL_minuteAt_29 : decode cL_minuteAt 29 = .ok (.invokestatic 29, 3) := by decide +kernel
theorem dL_minuteAt_32 : decode cL_minuteAt 32 = .ok (.iload_n 1, 1) := by decide +kernel
theorem dL_minuteAt_33 : decode cL_minuteAt 33 = .ok (.if_icmp .gt 15, 3) := by decide +kernel
theorem dL_minuteAt_36 : decode cL_minuteAt 36 = .ok (.iconst 1, 1) := by decide +kernel
theorem dL_minuteAt_37 : decode cL_minuteAt 37 = .ok (.aload_n 3, 1) := by decide +kernel
theorem dL_minuteAt_38 : decode cL_minuteAt 38 = .ok (.iload 6, 2) := by decide +kernel
theorem dL_minuteAt_40 : decode cL_minuteAt 40 = .ok (.iaload, 1) := by decide +kernel
theorem dL_minuteAt_41 : decode cL_minuteAt 41 = .ok (.invokestatic 23, 3) := by decide +kernel
theorem dL_minuteAt_44 : decode cL_minuteAt 44 = .ok (.ishl, 1) := by decide +kernel
theorem dL_minuteAt_45 : decode cL_minuteAt 45 = .ok (.goto 4, 3) := by decide +kernel
theorem dL_minuteAt_48 : decode cL_minuteAt 48 = .ok (.iconst 0, 1) := by decide +kernel
theorem dL_minuteAt_49 : decode cL_minuteAt 49 = .ok (.ior, 1) := by decide +kernel
theorem dL_minuteAt_50 : decode cL_minuteAt 50 = .ok (.istore 5, 2) := by decide +kernel
theorem dL_minuteAt_52 : decode cL_minuteAt 52 = .ok (.iinc 6 1, 3) := by decide +kernel
theorem dL_minuteAt_55 : decode cL_minuteAt 55 = .ok (.goto (-49), 3) := by decide +kernel
theorem dL_minuteAt_58 : decode cL_minuteAt 58 = .ok (.iload_n 0, 1) := by decide +kernel
theorem dL_minuteAt_59 : decode cL_minuteAt 59 = .ok (.iload_n 1, 1) := by decide +kernel
theorem dL_minuteAt_60 : decode cL_minuteAt 60 = .ok (.aload_n 2, 1) := by decide +kernel
theorem dL_minuteAt_61 : decode cL_minuteAt 61 = .ok (.aload_n 3, 1) := by decide +kernel
theorem dL_minuteAt_62 : decode cL_minuteAt 62 = .ok (.aload 4, 2) := by decide +kernel
theorem dL_minuteAt_64 : decode cL_minuteAt 64 = .ok (.invokestatic 35, 3) := by decide +kernel
theorem dL_minuteAt_67 : decode cL_minuteAt 67 = .ok (.iconst 1, 1) := by decide +kernel
theorem dL_minuteAt_68 : decode cL_minuteAt 68 = .ok (.iadd, 1) := by decide +kernel
theorem dL_minuteAt_69 : decode cL_minuteAt 69 = .ok (.istore 6, 2) := by decide +kernel
theorem dL_minuteAt_71 : decode cL_minuteAt 71 = .ok (.aload_n 2, 1) := by decide +kernel
theorem dL_minuteAt_72 : decode cL_minuteAt 72 = .ok (.bipush 18, 2) := by decide +kernel
theorem dL_minuteAt_74 : decode cL_minuteAt 74 = .ok (.iload_n 0, 1) := by decide +kernel
theorem dL_minuteAt_75 : decode cL_minuteAt 75 = .ok (.iadd, 1) := by decide +kernel
theorem dL_minuteAt_76 : decode cL_minuteAt 76 = .ok (.iaload, 1) := by decide +kernel
theorem dL_minuteAt_77 : decode cL_minuteAt 77 = .ok (.bipush 10, 2) := by decide +kernel
theorem dL_minuteAt_79 : decode cL_minuteAt 79 = .ok (.iadd, 1) := by decide +kernel
theorem dL_minuteAt_80 : decode cL_minuteAt 80 = .ok (.iconst 5, 1) := by decide +kernel
theorem dL_minuteAt_81 : decode cL_minuteAt 81 = .ok (.iload_n 1, 1) := by decide +kernel
theorem dL_minuteAt_82 : decode cL_minuteAt 82 = .ok (.bipush 100, 2) := by decide +kernel
theorem dL_minuteAt_84 : decode cL_minuteAt 84 = .ok (.idiv, 1) := by decide +kernel
theorem dL_minuteAt_85 : decode cL_minuteAt 85 = .ok (.imul, 1) := by decide +kernel
theorem dL_minuteAt_86 : decode cL_minuteAt 86 = .ok (.iadd, 1) := by decide +kernel
theorem dL_minuteAt_87 : decode cL_minuteAt 87 = .ok (.iconst 3, 1) := by decide +kernel
theorem dL_minuteAt_88 : decode cL_minuteAt 88 = .ok (.iload 6, 2) := by decide +kernel
theorem dL_minuteAt_90 : decode cL_minuteAt 90 = .ok (.iload 5, 2) := by decide +kernel
theorem dL_minuteAt_92 : decode cL_minuteAt 92 = .ok (.invokestatic 26, 3) := by decide +kernel
theorem dL_minuteAt_95 : decode cL_minuteAt 95 = .ok (.isub, 1) := by decide +kernel
theorem dL_minuteAt_96 : decode cL_minuteAt 96 = .ok (.imul, 1) := by decide +kernel
theorem dL_minuteAt_97 : decode cL_minuteAt 97 = .ok (.iadd, 1) := by decide +kernel
theorem dL_minuteAt_98 : decode cL_minuteAt 98 = .ok (.ireturn, 1) := by decide +kernel
theorem dL_part_0 : decode cL_part 0 = .ok (.iconst 0, 1) := by decide +kernel
theorem dL_part_1 : decode cL_part 1 = .ok (.istore 6, 2) := by decide +kernel
theorem dL_part_3 : decode cL_part 3 = .ok (.iconst 0, 1) := by decide +kernel
theorem dL_part_4 : decode cL_part 4 = .ok (.istore 7, 2) := by decide +kernel
theorem dL_part_6 : decode cL_part 6 = .ok (.iload 7, 2) := by decide +kernel
theorem dL_part_8 : decode cL_part 8 = .ok (.aload_n 3, 1) := by decide +kernel
theorem dL_part_9 : decode cL_part 9 = .ok (.iconst 5, 1) := by decide +kernel
theorem dL_part_10 : decode cL_part 10 = .ok (.iaload, 1) := by decide +kernel
theorem dL_part_11 : decode cL_part 11 = .ok (.if_icmp .ge 72, 3) := by decide +kernel
theorem dL_part_14 : decode cL_part 14 = .ok (.aload 5, 2) := by decide +kernel
theorem dL_part_16 : decode cL_part 16 = .ok (.iload 7, 2) := by decide +kernel
theorem dL_part_18 : decode cL_part 18 = .ok (.iaload, 1) := by decide +kernel
theorem dL_part_19 : decode cL_part 19 = .ok (.aload 5, 2) := by decide +kernel
theorem dL_part_21 : decode cL_part 21 = .ok (.iload_n 0, 1) := by decide +kernel
theorem dL_part_22 : decode cL_part 22 = .ok (.iaload, 1) := by decide +kernel
theorem dL_part_23 : decode cL_part 23 = .ok (.if_icmp .ne 29, 3) := by decide +kernel
theorem dL_part_26 : decode cL_part 26 = .ok (.iload_n 2, 1) := by decide +kernel
theorem dL_part_27 : decode cL_part 27 = .ok (.ifCond .eq 21, 3) := by decide +kernel
theorem dL_part_30 : decode cL_part 30 = .ok (.aload 4, 2) := by decide +kernel
theorem dL_part_32 : decode cL_part 32 = .ok (.iload 7, 2) := by decide +kernel
theorem dL_part_34 : decode cL_part 34 = .ok (.iaload, 1) := by decide +kernel
theorem dL_part_35 : decode cL_part 35 = .ok (.invokestatic 29, 3) := by decide +kernel
theorem dL_part_38 : decode cL_part 38 = .ok (.aload 4, 2) := by decide +kernel
theorem dL_part_40 : decode cL_part 40 = .ok (.iload_n 0, 1) := by decide +kernel
theorem dL_part_41 : decode cL_part 41 = .ok (.iaload, 1) := by decide +kernel
theorem dL_part_42 : decode cL_part 42 = .ok (.invokestatic 29, 3) := by decide +kernel
theorem dL_part_45 : decode cL_part 45 = .ok (.if_icmp .ne 7, 3) := by decide +kernel
theorem dL_part_48 : decode cL_part 48 = .ok (.iconst 1, 1) := by decide +kernel
theorem dL_part_49 : decode cL_part 49 = .ok (.goto 4, 3) := by decide +kernel
theorem dL_part_52 : decode cL_part 52 = .ok (.iconst 0, 1) := by decide +kernel
theorem dL_part_53 : decode cL_part 53 = .ok (.istore 8, 2) := by decide +kernel
theorem dL_part_55 : decode cL_part 55 = .ok (.iload 6, 2) := by decide +kernel
theorem dL_part_57 : decode cL_part 57 = .ok (.iload 8, 2) := by decide +kernel
theorem dL_part_59 : decode cL_part 59 = .ok (.ifCond .eq 14, 3) := by decide +kernel
theorem dL_part_62 : decode cL_part 62 = .ok (.aload 4, 2) := by decide +kernel
theorem dL_part_64 : decode cL_part 64 = .ok (.iload 7, 2) := by decide +kernel
theorem dL_part_66 : decode cL_part 66 = .ok (.iaload, 1) := by decide +kernel
theorem dL_part_67 : decode cL_part 67 = .ok (.invokestatic 20, 3) := by decide +kernel
theorem dL_part_70 : decode cL_part 70 = .ok (.goto 4, 3) := by decide +kernel
theorem dL_part_73 : decode cL_part 73 = .ok (.iconst 0, 1) := by decide +kernel
theorem dL_part_74 : decode cL_part 74 = .ok (.iadd, 1) := by decide +kernel
theorem dL_part_75 : decode cL_part 75 = .ok (.istore 6, 2) := by decide +kernel
theorem dL_part_77 : decode cL_part 77 = .ok (.iinc 7 1, 3) := by decide +kernel
theorem dL_part_80 : decode cL_part 80 = .ok (.goto (-74), 3) := by decide +kernel
theorem dL_part_83 : decode cL_part 83 = .ok (.iload_n 1, 1) := by decide +kernel
theorem dL_part_84 : decode cL_part 84 = .ok (.istore 7, 2) := by decide +kernel
theorem dL_part_86 : decode cL_part 86 = .ok (.iconst 0, 1) := by decide +kernel
theorem dL_part_87 : decode cL_part 87 = .ok (.istore 8, 2) := by decide +kernel
theorem dL_part_89 : decode cL_part 89 = .ok (.iconst 0, 1) := by decide +kernel
theorem dL_part_90 : decode cL_part 90 = .ok (.istore 9, 2) := by decide +kernel
theorem dL_part_92 : decode cL_part 92 = .ok (.iload 9, 2) := by decide +kernel
theorem dL_part_94 : decode cL_part 94 = .ok (.aload_n 3, 1) := by decide +kernel
theorem dL_part_95 : decode cL_part 95 = .ok (.iconst 5, 1) := by decide +kernel
theorem dL_part_96 : decode cL_part 96 = .ok (.iaload, 1) := by decide +kernel
theorem dL_part_97 : decode cL_part 97 = .ok (.if_icmp .ge 98, 3) := by decide +kernel
theorem dL_part_100 : decode cL_part 100 = .ok (.aload 5, 2) := by decide +kernel
theorem dL_part_102 : decode cL_part 102 = .ok (.iload 9, 2) := by decide +kernel
theorem dL_part_104 : decode cL_part 104 = .ok (.iaload, 1) := by decide +kernel
theorem dL_part_105 : decode cL_part 105 = .ok (.aload 5, 2) := by decide +kernel
theorem dL_part_107 : decode cL_part 107 = .ok (.iload_n 0, 1) := by decide +kernel
theorem dL_part_108 : decode cL_part 108 = .ok (.iaload, 1) := by decide +kernel
theorem dL_part_109 : decode cL_part 109 = .ok (.if_icmp .ne 29, 3) := by decide +kernel
theorem dL_part_112 : decode cL_part 112 = .ok (.iload_n 2, 1) := by decide +kernel
theorem dL_part_113 : decode cL_part 113 = .ok (.ifCond .eq 21, 3) := by decide +kernel
theorem dL_part_116 : decode cL_part 116 = .ok (.aload 4, 2) := by decide +kernel
theorem dL_part_118 : decode cL_part 118 = .ok (.iload 9, 2) := by decide +kernel
theorem dL_part_120 : decode cL_part 120 = .ok (.iaload, 1) := by decide +kernel
theorem dL_part_121 : decode cL_part 121 = .ok (.invokestatic 29, 3) := by decide +kernel
theorem dL_part_124 : decode cL_part 124 = .ok (.aload 4, 2) := by decide +kernel
theorem dL_part_126 : decode cL_part 126 = .ok (.iload_n 0, 1) := by decide +kernel
theorem dL_part_127 : decode cL_part 127 = .ok (.iaload, 1) := by decide +kernel
theorem dL_part_128 : decode cL_part 128 = .ok (.invokestatic 29, 3) := by decide +kernel
theorem dL_part_131 : decode cL_part 131 = .ok (.if_icmp .ne 7, 3) := by decide +kernel
theorem dL_part_134 : decode cL_part 134 = .ok (.iconst 1, 1) := by decide +kernel
theorem dL_part_135 : decode cL_part 135 = .ok (.goto 4, 3) := by decide +kernel
theorem dL_part_138 : decode cL_part 138 = .ok (.iconst 0, 1) := by decide +kernel
theorem dL_part_139 : decode cL_part 139 = .ok (.istore 10, 2) := by decide +kernel
theorem dL_part_141 : decode cL_part 141 = .ok (.iload 7, 2) := by decide +kernel
theorem dL_part_143 : decode cL_part 143 = .ok (.iload 10, 2) := by decide +kernel
theorem dL_part_145 : decode cL_part 145 = .ok (.ifCond .eq 19, 3) := by decide +kernel
theorem dL_part_148 : decode cL_part 148 = .ok (.iload_n 1, 1) := by decide +kernel
theorem dL_part_149 : decode cL_part 149 = .ok (.aload 4, 2) := by decide +kernel
theorem dL_part_151 : decode cL_part 151 = .ok (.iload 9, 2) := by decide +kernel
theorem dL_part_153 : decode cL_part 153 = .ok (.iaload, 1) := by decide +kernel
theorem dL_part_154 : decode cL_part 154 = .ok (.invokestatic 20, 3) := by decide +kernel
theorem dL_part_157 : decode cL_part 157 = .ok (.imul, 1) := by decide +kernel
theorem dL_part_158 : decode cL_part 158 = .ok (.iload 6, 2) := by decide +kernel
theorem dL_part_160 : decode cL_part 160 = .ok (.idiv, 1) := by decide +kernel
theorem dL_part_161 : decode cL_part 161 = .ok (.goto 4, 3) := by decide +kernel
theorem dL_part_164 : decode cL_part 164 = .ok (.iconst 0, 1) := by decide +kernel
theorem dL_part_165 : decode cL_part 165 = .ok (.isub, 1) := by decide +kernel
theorem dL_part_166 : decode cL_part 166 = .ok (.istore 7, 2) := by decide +kernel
theorem dL_part_168 : decode cL_part 168 = .ok (.iload 8, 2) := by decide +kernel
theorem dL_part_170 : decode cL_part 170 = .ok (.iload 10, 2) := by decide +kernel
theorem dL_part_172 : decode cL_part 172 = .ok (.ifCond .eq 13, 3) := by decide +kernel
theorem dL_part_175 : decode cL_part 175 = .ok (.iload 9, 2) := by decide +kernel
theorem dL_part_177 : decode cL_part 177 = .ok (.iload_n 0, 1) := by decide +kernel
theorem dL_part_178 : decode cL_part 178 = .ok (.if_icmp .ge 7, 3) := by decide +kernel
theorem dL_part_181 : decode cL_part 181 = .ok (.iconst 1, 1) := by decide +kernel
theorem dL_part_182 : decode cL_part 182 = .ok (.goto 4, 3) := by decide +kernel
theorem dL_part_185 : decode cL_part 185 = .ok (.iconst 0, 1) := by decide +kernel
theorem dL_part_186 : decode cL_part 186 = .ok (.iadd, 1) := by decide +kernel
theorem dL_part_187 : decode cL_part 187 = .ok (.istore 8, 2) := by decide +kernel
theorem dL_part_189 : decode cL_part 189 = .ok (.iinc 9 1, 3) := by decide +kernel
theorem dL_part_192 : decode cL_part 192 = .ok (.goto (-100), 3) := by decide +kernel
theorem dL_part_195 : decode cL_part 195 = .ok (.iload_n 1, 1) := by decide +kernel
theorem dL_part_196 : decode cL_part 196 = .ok (.aload 4, 2) := by decide +kernel
theorem dL_part_198 : decode cL_part 198 = .ok (.iload_n 0, 1) := by decide +kernel
theorem dL_part_199 : decode cL_part 199 = .ok (.iaload, 1) := by decide +kernel
theorem dL_part_200 : decode cL_part 200 = .ok (.invokestatic 20, 3) := by decide +kernel
theorem dL_part_203 : decode cL_part 203 = .ok (.imul, 1) := by decide +kernel
theorem dL_part_204 : decode cL_part 204 = .ok (.iload 6, 2) := by decide +kernel
theorem dL_part_206 : decode cL_part 206 = .ok (.idiv, 1) := by decide +kernel
theorem dL_part_207 : decode cL_part 207 = .ok (.iload 8, 2) := by decide +kernel
theorem dL_part_209 : decode cL_part 209 = .ok (.iload 7, 2) := by decide +kernel
theorem dL_part_211 : decode cL_part 211 = .ok (.if_icmp .ge 7, 3) := by decide +kernel
theorem dL_part_214 : decode cL_part 214 = .ok (.iconst 1, 1) := by decide +kernel
theorem dL_part_215 : decode cL_part 215 = .ok (.goto 4, 3) := by decide +kernel
theorem dL_part_218 : decode cL_part 218 = .ok (.iconst 0, 1) := by decide +kernel
theorem dL_part_219 : decode cL_part 219 = .ok (.iadd, 1) := by decide +kernel
theorem dL_part_220 : decode cL_part 220 = .ok (.ireturn, 1) := by decide +kernel
theorem dL_isRider_0 : decode cL_isRider 0 = .ok (.aload_n 3, 1) := by decide +kernel
theorem dL_isRider_1 : decode cL_isRider 1 = .ok (.iload_n 1, 1) := by decide +kernel
theorem dL_isRider_2 : decode cL_isRider 2 = .ok (.iaload, 1) := by decide +kernel
theorem dL_isRider_3 : decode cL_isRider 3 = .ok (.istore 5, 2) := by decide +kernel
theorem dL_isRider_5 : decode cL_isRider 5 = .ok (.aload 4, 2) := by decide +kernel
theorem dL_isRider_7 : decode cL_isRider 7 = .ok (.iload_n 1, 1) := by decide +kernel
theorem dL_isRider_8 : decode cL_isRider 8 = .ok (.iaload, 1) := by decide +kernel
theorem dL_isRider_9 : decode cL_isRider 9 = .ok (.istore 6, 2) := by decide +kernel
theorem dL_isRider_11 : decode cL_isRider 11 = .ok (.aload_n 0, 1) := by decide +kernel
theorem dL_isRider_12 : decode cL_isRider 12 = .ok (.iload_n 1, 1) := by decide +kernel
theorem dL_isRider_13 : decode cL_isRider 13 = .ok (.iconst 0, 1) := by decide +kernel
theorem dL_isRider_14 : decode cL_isRider 14 = .ok (.invokevirtual 39, 3) := by decide +kernel
theorem dL_isRider_17 : decode cL_isRider 17 = .ok (.iload 5, 2) := by decide +kernel
theorem dL_isRider_19 : decode cL_isRider 19 = .ok (.invokestatic 10, 3) := by decide +kernel
theorem dL_isRider_22 : decode cL_isRider 22 = .ok (.if_icmp .ne 85, 3) := by decide +kernel
theorem dL_isRider_25 : decode cL_isRider 25 = .ok (.aload_n 0, 1) := by decide +kernel
theorem dL_isRider_26 : decode cL_isRider 26 = .ok (.iload_n 1, 1) := by decide +kernel
theorem dL_isRider_27 : decode cL_isRider 27 = .ok (.iconst 1, 1) := by decide +kernel
theorem dL_isRider_28 : decode cL_isRider 28 = .ok (.invokevirtual 39, 3) := by decide +kernel
theorem dL_isRider_31 : decode cL_isRider 31 = .ok (.iload 5, 2) := by decide +kernel
theorem dL_isRider_33 : decode cL_isRider 33 = .ok (.invokestatic 23, 3) := by decide +kernel
theorem dL_isRider_36 : decode cL_isRider 36 = .ok (.if_icmp .ne 71, 3) := by decide +kernel
theorem dL_isRider_39 : decode cL_isRider 39 = .ok (.aload_n 0, 1) := by decide +kernel
theorem dL_isRider_40 : decode cL_isRider 40 = .ok (.iload_n 1, 1) := by decide +kernel
theorem dL_isRider_41 : decode cL_isRider 41 = .ok (.iconst 2, 1) := by decide +kernel
theorem dL_isRider_42 : decode cL_isRider 42 = .ok (.invokevirtual 39, 3) := by decide +kernel
theorem dL_isRider_45 : decode cL_isRider 45 = .ok (.iload 5, 2) := by decide +kernel
theorem dL_isRider_47 : decode cL_isRider 47 = .ok (.invokestatic 32, 3) := by decide +kernel
theorem dL_isRider_50 : decode cL_isRider 50 = .ok (.if_icmp .ne 57, 3) := by decide +kernel
theorem dL_isRider_53 : decode cL_isRider 53 = .ok (.aload_n 0, 1) := by decide +kernel
theorem dL_isRider_54 : decode cL_isRider 54 = .ok (.iload_n 1, 1) := by decide +kernel
theorem dL_isRider_55 : decode cL_isRider 55 = .ok (.iconst 3, 1) := by decide +kernel
theorem dL_isRider_56 : decode cL_isRider 56 = .ok (.invokevirtual 39, 3) := by decide +kernel
theorem dL_isRider_59 : decode cL_isRider 59 = .ok (.iload 5, 2) := by decide +kernel
theorem dL_isRider_61 : decode cL_isRider 61 = .ok (.invokestatic 20, 3) := by decide +kernel
theorem dL_isRider_64 : decode cL_isRider 64 = .ok (.if_icmp .ne 43, 3) := by decide +kernel
theorem dL_isRider_67 : decode cL_isRider 67 = .ok (.aload_n 0, 1) := by decide +kernel
theorem dL_isRider_68 : decode cL_isRider 68 = .ok (.iload_n 1, 1) := by decide +kernel
theorem dL_isRider_69 : decode cL_isRider 69 = .ok (.iconst 4, 1) := by decide +kernel
theorem dL_isRider_70 : decode cL_isRider 70 = .ok (.invokevirtual 39, 3) := by decide +kernel
theorem dL_isRider_73 : decode cL_isRider 73 = .ok (.iload 5, 2) := by decide +kernel
theorem dL_isRider_75 : decode cL_isRider 75 = .ok (.aload_n 2, 1) := by decide +kernel
theorem dL_isRider_76 : decode cL_isRider 76 = .ok (.invokestatic 16, 3) := by decide +kernel
theorem dL_isRider_79 : decode cL_isRider 79 = .ok (.if_icmp .ne 28, 3) := by decide +kernel
theorem dL_isRider_82 : decode cL_isRider 82 = .ok (.aload_n 0, 1) := by decide +kernel
theorem dL_isRider_83 : decode cL_isRider 83 = .ok (.iload_n 1, 1) := by decide +kernel
theorem dL_isRider_84 : decode cL_isRider 84 = .ok (.iconst 5, 1) := by decide +kernel
end
section
theorem dL_isRider_85 : decode cL_isRider 85 = .ok (.invokevirtual 39, 3) := by decide +kernel
theorem dL_isRider_88 : decode cL_isRider 88 = .ok (.iload 6, 2) := by decide +kernel
theorem dL_isRider_90 : decode cL_isRider 90 = .ok (.ifCond .ge 8, 3) := by decide +kernel
theorem dL_isRider_93 : decode cL_isRider 93 = .ok (.bipush (-106), 2) := by decide +kernel
theorem dL_isRider_95 : decode cL_isRider 95 = .ok (.goto 5, 3) := by decide +kernel
theorem dL_isRider_98 : decode cL_isRider 98 = .ok (.iload 6, 2) := by decide +kernel
theorem dL_isRider_100 : decode cL_isRider 100 = .ok (.if_icmp .ne 7, 3) := by decide +kernel
theorem dL_isRider_103 : decode cL_isRider 103 = .ok (.iconst 1, 1) := by decide +kernel
theorem dL_isRider_104 : decode cL_isRider 104 = .ok (.goto 4, 3) := by decide +kernel
theorem dL_isRider_107 : decode cL_isRider 107 = .ok (.iconst 0, 1) := by decide +kernel
theorem dL_isRider_108 : decode cL_isRider 108 = .ok (.istore 7, 2) := by decide +kernel
theorem dL_isRider_110 : decode cL_isRider 110 = .ok (.iload 6, 2) := by decide +kernel
theorem dL_isRider_112 : decode cL_isRider 112 = .ok (.ifCond .ge 58, 3) := by decide +kernel
theorem dL_isRider_115 : decode cL_isRider 115 = .ok (.iload 7, 2) := by decide +kernel
theorem dL_isRider_117 : decode cL_isRider 117 = .ok (.ifCond .eq 51, 3) := by decide +kernel
theorem dL_isRider_120 : decode cL_isRider 120 = .ok (.aload_n 0, 1) := by decide +kernel
theorem dL_isRider_121 : decode cL_isRider 121 = .ok (.iload_n 1, 1) := by decide +kernel
theorem dL_isRider_122 : decode cL_isRider 122 = .ok (.bipush 6, 2) := by decide +kernel
theorem dL_isRider_124 : decode cL_isRider 124 = .ok (.invokevirtual 39, 3) := by decide +kernel
theorem dL_isRider_127 : decode cL_isRider 127 = .ok (.bipush (-106), 2) := by decide +kernel
theorem dL_isRider_129 : decode cL_isRider 129 = .ok (.if_icmp .ne 39, 3) := by decide +kernel
theorem dL_isRider_132 : decode cL_isRider 132 = .ok (.aload_n 0, 1) := by decide +kernel
theorem dL_isRider_133 : decode cL_isRider 133 = .ok (.iload_n 1, 1) := by decide +kernel
theorem dL_isRider_134 : decode cL_isRider 134 = .ok (.bipush 7, 2) := by decide +kernel
theorem dL_isRider_136 : decode cL_isRider 136 = .ok (.invokevirtual 39, 3) := by decide +kernel
theorem dL_isRider_139 : decode cL_isRider 139 = .ok (.bipush (-106), 2) := by decide +kernel
theorem dL_isRider_141 : decode cL_isRider 141 = .ok (.if_icmp .ne 27, 3) := by decide +kernel
theorem dL_isRider_144 : decode cL_isRider 144 = .ok (.aload_n 0, 1) := by decide +kernel
theorem dL_isRider_145 : decode cL_isRider 145 = .ok (.iload_n 1, 1) := by decide +kernel
theorem dL_isRider_146 : decode cL_isRider 146 = .ok (.bipush 8, 2) := by decide +kernel
theorem dL_isRider_148 : decode cL_isRider 148 = .ok (.invokevirtual 39, 3) := by decide +kernel
theorem dL_isRider_151 : decode cL_isRider 151 = .ok (.ifCond .ne 17, 3) := by decide +kernel
theorem dL_isRider_154 : decode cL_isRider 154 = .ok (.aload_n 0, 1) := by decide +kernel
theorem dL_isRider_155 : decode cL_isRider 155 = .ok (.iload_n 1, 1) := by decide +kernel
theorem dL_isRider_156 : decode cL_isRider 156 = .ok (.bipush 9, 2) := by decide +kernel
theorem dL_isRider_158 : decode cL_isRider 158 = .ok (.invokevirtual 39, 3) := by decide +kernel
theorem dL_isRider_161 : decode cL_isRider 161 = .ok (.ifCond .ne 7, 3) := by decide +kernel
theorem dL_isRider_164 : decode cL_isRider 164 = .ok (.iconst 1, 1) := by decide +kernel
theorem dL_isRider_165 : decode cL_isRider 165 = .ok (.goto 4, 3) := by decide +kernel
theorem dL_isRider_168 : decode cL_isRider 168 = .ok (.iconst 0, 1) := by decide +kernel
theorem dL_isRider_169 : decode cL_isRider 169 = .ok (.ireturn, 1) := by decide +kernel
theorem dL_isRider_170 : decode cL_isRider 170 = .ok (.iconst (-1), 1) := by decide +kernel
theorem dL_isRider_171 : decode cL_isRider 171 = .ok (.istore 8, 2) := by decide +kernel
theorem dL_isRider_173 : decode cL_isRider 173 = .ok (.iconst 0, 1) := by decide +kernel
theorem dL_isRider_174 : decode cL_isRider 174 = .ok (.istore 9, 2) := by decide +kernel
theorem dL_isRider_176 : decode cL_isRider 176 = .ok (.iload 9, 2) := by decide +kernel
theorem dL_isRider_178 : decode cL_isRider 178 = .ok (.aload_n 2, 1) := by decide +kernel
theorem dL_isRider_179 : decode cL_isRider 179 = .ok (.iconst 5, 1) := by decide +kernel
theorem dL_isRider_180 : decode cL_isRider 180 = .ok (.iaload, 1) := by decide +kernel
theorem dL_isRider_181 : decode cL_isRider 181 = .ok (.if_icmp .ge 44, 3) := by decide +kernel
theorem dL_isRider_184 : decode cL_isRider 184 = .ok (.iload 8, 2) := by decide +kernel
theorem dL_isRider_186 : decode cL_isRider 186 = .ok (.aload 4, 2) := by decide +kernel
theorem dL_isRider_188 : decode cL_isRider 188 = .ok (.iload 9, 2) := by decide +kernel
theorem dL_isRider_190 : decode cL_isRider 190 = .ok (.iaload, 1) := by decide +kernel
theorem dL_isRider_191 : decode cL_isRider 191 = .ok (.iload 6, 2) := by decide +kernel
theorem dL_isRider_193 : decode cL_isRider 193 = .ok (.if_icmp .ne 22, 3) := by decide +kernel
theorem dL_isRider_196 : decode cL_isRider 196 = .ok (.aload_n 3, 1) := by decide +kernel
theorem dL_isRider_197 : decode cL_isRider 197 = .ok (.iload 9, 2) := by decide +kernel
theorem dL_isRider_199 : decode cL_isRider 199 = .ok (.iaload, 1) := by decide +kernel
theorem dL_isRider_200 : decode cL_isRider 200 = .ok (.invokestatic 29, 3) := by decide +kernel
theorem dL_isRider_203 : decode cL_isRider 203 = .ok (.iload 5, 2) := by decide +kernel
theorem dL_isRider_205 : decode cL_isRider 205 = .ok (.invokestatic 29, 3) := by decide +kernel
theorem dL_isRider_208 : decode cL_isRider 208 = .ok (.if_icmp .ne 7, 3) := by decide +kernel
theorem dL_isRider_211 : decode cL_isRider 211 = .ok (.iconst 1, 1) := by decide +kernel
theorem dL_isRider_212 : decode cL_isRider 212 = .ok (.goto 4, 3) := by decide +kernel
theorem dL_isRider_215 : decode cL_isRider 215 = .ok (.iconst 0, 1) := by decide +kernel
theorem dL_isRider_216 : decode cL_isRider 216 = .ok (.iadd, 1) := by decide +kernel
theorem dL_isRider_217 : decode cL_isRider 217 = .ok (.istore 8, 2) := by decide +kernel
theorem dL_isRider_219 : decode cL_isRider 219 = .ok (.iinc 9 1, 3) := by decide +kernel
theorem dL_isRider_222 : decode cL_isRider 222 = .ok (.goto (-46), 3) := by decide +kernel
theorem dL_isRider_225 : decode cL_isRider 225 = .ok (.iload 7, 2) := by decide +kernel
theorem dL_isRider_227 : decode cL_isRider 227 = .ok (.ifCond .eq 102, 3) := by decide +kernel
theorem dL_isRider_230 : decode cL_isRider 230 = .ok (.aload_n 0, 1) := by decide +kernel
theorem dL_isRider_231 : decode cL_isRider 231 = .ok (.iload_n 1, 1) := by decide +kernel
theorem dL_isRider_232 : decode cL_isRider 232 = .ok (.bipush 6, 2) := by decide +kernel
theorem dL_isRider_234 : decode cL_isRider 234 = .ok (.invokevirtual 39, 3) := by decide +kernel
theorem dL_isRider_237 : decode cL_isRider 237 = .ok (.aload_n 2, 1) := by decide +kernel
theorem dL_isRider_238 : decode cL_isRider 238 = .ok (.bipush 18, 2) := by decide +kernel
theorem dL_isRider_240 : decode cL_isRider 240 = .ok (.iload 6, 2) := by decide +kernel
theorem dL_isRider_242 : decode cL_isRider 242 = .ok (.iadd, 1) := by decide +kernel
theorem dL_isRider_243 : decode cL_isRider 243 = .ok (.iaload, 1) := by decide +kernel
theorem dL_isRider_244 : decode cL_isRider 244 = .ok (.iload 5, 2) := by decide +kernel
theorem dL_isRider_246 : decode cL_isRider 246 = .ok (.aload_n 2, 1) := by decide +kernel
theorem dL_isRider_247 : decode cL_isRider 247 = .ok (.invokestatic 16, 3) := by decide +kernel
theorem dL_isRider_250 : decode cL_isRider 250 = .ok (.isub, 1) := by decide +kernel
theorem dL_isRider_251 : decode cL_isRider 251 = .ok (.if_icmp .ne 78, 3) := by decide +kernel
theorem dL_isRider_254 : decode cL_isRider 254 = .ok (.aload_n 0, 1) := by decide +kernel
theorem dL_isRider_255 : decode cL_isRider 255 = .ok (.iload_n 1, 1) := by decide +kernel
theorem dL_isRider_256 : decode cL_isRider 256 = .ok (.bipush 7, 2) := by decide +kernel
theorem dL_isRider_258 : decode cL_isRider 258 = .ok (.invokevirtual 39, 3) := by decide +kernel
theorem dL_isRider_261 : decode cL_isRider 261 = .ok (.iload 6, 2) := by decide +kernel
theorem dL_isRider_263 : decode cL_isRider 263 = .ok (.iload 5, 2) := by decide +kernel
theorem dL_isRider_265 : decode cL_isRider 265 = .ok (.invokestatic 29, 3) := by decide +kernel
theorem dL_isRider_268 : decode cL_isRider 268 = .ok (.aload_n 2, 1) := by decide +kernel
theorem dL_isRider_269 : decode cL_isRider 269 = .ok (.aload_n 3, 1) := by decide +kernel
theorem dL_isRider_270 : decode cL_isRider 270 = .ok (.aload 4, 2) := by decide +kernel
theorem dL_isRider_272 : decode cL_isRider 272 = .ok (.invokestatic 45, 3) := by decide +kernel
theorem dL_isRider_275 : decode cL_isRider 275 = .ok (.if_icmp .ne 54, 3) := by decide +kernel
theorem dL_isRider_278 : decode cL_isRider 278 = .ok (.aload_n 0, 1) := by decide +kernel
theorem dL_isRider_279 : decode cL_isRider 279 = .ok (.iload_n 1, 1) := by decide +kernel
theorem dL_isRider_280 : decode cL_isRider 280 = .ok (.bipush 8, 2) := by decide +kernel
theorem dL_isRider_282 : decode cL_isRider 282 = .ok (.invokevirtual 39, 3) := by decide +kernel
theorem dL_isRider_285 : decode cL_isRider 285 = .ok (.iload_n 1, 1) := by decide +kernel
theorem dL_isRider_286 : decode cL_isRider 286 = .ok (.aload_n 2, 1) := by decide +kernel
theorem dL_isRider_287 : decode cL_isRider 287 = .ok (.iconst 3, 1) := by decide +kernel
theorem dL_isRider_288 : decode cL_isRider 288 = .ok (.iaload, 1) := by decide +kernel
theorem dL_isRider_289 : decode cL_isRider 289 = .ok (.iconst 0, 1) := by decide +kernel
theorem dL_isRider_290 : decode cL_isRider 290 = .ok (.aload_n 2, 1) := by decide +kernel
theorem dL_isRider_291 : decode cL_isRider 291 = .ok (.aload_n 3, 1) := by decide +kernel
theorem dL_isRider_292 : decode cL_isRider 292 = .ok (.aload 4, 2) := by decide +kernel
theorem dL_isRider_294 : decode cL_isRider 294 = .ok (.invokestatic 48, 3) := by decide +kernel
theorem dL_isRider_297 : decode cL_isRider 297 = .ok (.iload_n 1, 1) := by decide +kernel
theorem dL_isRider_298 : decode cL_isRider 298 = .ok (.aload_n 2, 1) := by decide +kernel
theorem dL_isRider_299 : decode cL_isRider 299 = .ok (.iconst 4, 1) := by decide +kernel
theorem dL_isRider_300 : decode cL_isRider 300 = .ok (.iaload, 1) := by decide +kernel
theorem dL_isRider_301 : decode cL_isRider 301 = .ok (.iconst 1, 1) := by decide +kernel
theorem dL_isRider_302 : decode cL_isRider 302 = .ok (.aload_n 2, 1) := by decide +kernel
theorem dL_isRider_303 : decode cL_isRider 303 = .ok (.aload_n 3, 1) := by decide +kernel
theorem dL_isRider_304 : decode cL_isRider 304 = .ok (.aload 4, 2) := by decide +kernel
theorem dL_isRider_306 : decode cL_isRider 306 = .ok (.invokestatic 48, 3) := by decide +kernel
theorem dL_isRider_309 : decode cL_isRider 309 = .ok (.iadd, 1) := by decide +kernel
theorem dL_isRider_310 : decode cL_isRider 310 = .ok (.if_icmp .ne 19, 3) := by decide +kernel
theorem dL_isRider_313 : decode cL_isRider 313 = .ok (.aload_n 0, 1) := by decide +kernel
theorem dL_isRider_314 : decode cL_isRider 314 = .ok (.iload_n 1, 1) := by decide +kernel
theorem dL_isRider_315 : decode cL_isRider 315 = .ok (.bipush 9, 2) := by decide +kernel
theorem dL_isRider_317 : decode cL_isRider 317 = .ok (.invokevirtual 39, 3) := by decide +kernel
theorem dL_isRider_320 : decode cL_isRider 320 = .ok (.iload 8, 2) := by decide +kernel
theorem dL_isRider_322 : decode cL_isRider 322 = .ok (.if_icmp .ne 7, 3) := by decide +kernel
theorem dL_isRider_325 : decode cL_isRider 325 = .ok (.iconst 1, 1) := by decide +kernel
theorem dL_isRider_326 : decode cL_isRider 326 = .ok (.goto 4, 3) := by decide +kernel
theorem dL_isRider_329 : decode cL_isRider 329 = .ok (.iconst 0, 1) := by decide +kernel
theorem dL_isRider_330 : decode cL_isRider 330 = .ok (.ireturn, 1) := by decide +kernel
theorem dL_isVan_0 : decode cL_isVan 0 = .ok (.iconst 0, 1) := by decide +kernel
theorem dL_isVan_1 : decode cL_isVan 1 = .ok (.istore 7, 2) := by decide +kernel
theorem dL_isVan_3 : decode cL_isVan 3 = .ok (.iconst (-1), 1) := by decide +kernel
theorem dL_isVan_4 : decode cL_isVan 4 = .ok (.istore 8, 2) := by decide +kernel
theorem dL_isVan_6 : decode cL_isVan 6 = .ok (.iconst (-1), 1) := by decide +kernel
theorem dL_isVan_7 : decode cL_isVan 7 = .ok (.istore 9, 2) := by decide +kernel
theorem dL_isVan_9 : decode cL_isVan 9 = .ok (.iload_n 1, 1) := by decide +kernel
theorem dL_isVan_10 : decode cL_isVan 10 = .ok (.sipush 1000, 3) := by decide +kernel
theorem dL_isVan_13 : decode cL_isVan 13 = .ok (.aload_n 3, 1) := by decide +kernel
theorem dL_isVan_14 : decode cL_isVan 14 = .ok (.aload 4, 2) := by decide +kernel
theorem dL_isVan_16 : decode cL_isVan 16 = .ok (.aload 5, 2) := by decide +kernel
theorem dL_isVan_18 : decode cL_isVan 18 = .ok (.invokestatic 35, 3) := by decide +kernel
theorem dL_isVan_21 : decode cL_isVan 21 = .ok (.istore 10, 2) := by decide +kernel
theorem dL_isVan_23 : decode cL_isVan 23 = .ok (.iconst 0, 1) := by decide +kernel
theorem dL_isVan_24 : decode cL_isVan 24 = .ok (.istore 11, 2) := by decide +kernel
theorem dL_isVan_26 : decode cL_isVan 26 = .ok (.iconst 0, 1) := by decide +kernel
theorem dL_isVan_27 : decode cL_isVan 27 = .ok (.istore 12, 2) := by decide +kernel
theorem dL_isVan_29 : decode cL_isVan 29 = .ok (.iload 12, 2) := by decide +kernel
theorem dL_isVan_31 : decode cL_isVan 31 = .ok (.aload_n 3, 1) := by decide +kernel
theorem dL_isVan_32 : decode cL_isVan 32 = .ok (.iconst 5, 1) := by decide +kernel
theorem dL_isVan_33 : decode cL_isVan 33 = .ok (.iaload, 1) := by decide +kernel
theorem dL_isVan_34 : decode cL_isVan 34 = .ok (.if_icmp .ge 113, 3) := by decide +kernel
theorem dL_isVan_37 : decode cL_isVan 37 = .ok (.iload 7, 2) := by decide +kernel
theorem dL_isVan_39 : decode cL_isVan 39 = .ok (.aload 5, 2) := by decide +kernel
theorem dL_isVan_41 : decode cL_isVan 41 = .ok (.iload 12, 2) := by decide +kernel
theorem dL_isVan_43 : decode cL_isVan 43 = .ok (.iaload, 1) := by decide +kernel
theorem dL_isVan_44 : decode cL_isVan 44 = .ok (.iload_n 1, 1) := by decide +kernel
theorem dL_isVan_45 : decode cL_isVan 45 = .ok (.if_icmp .ne 10, 3) := by decide +kernel
theorem dL_isVan_48 : decode cL_isVan 48 = .ok (.iconst 1, 1) := by decide +kernel
theorem dL_isVan_49 : decode cL_isVan 49 = .ok (.iload 12, 2) := by decide +kernel
theorem dL_isVan_51 : decode cL_isVan 51 = .ok (.ishl, 1) := by decide +kernel
theorem dL_isVan_52 : decode cL_isVan 52 = .ok (.goto 4, 3) := by decide +kernel
theorem dL_isVan_55 : decode cL_isVan 55 = .ok (.iconst 0, 1) := by decide +kernel
theorem dL_isVan_56 : decode cL_isVan 56 = .ok (.ior, 1) := by decide +kernel
theorem dL_isVan_57 : decode cL_isVan 57 = .ok (.istore 7, 2) := by decide +kernel
theorem dL_isVan_59 : decode cL_isVan 59 = .ok (.aload 5, 2) := by decide +kernel
theorem dL_isVan_61 : decode cL_isVan 61 = .ok (.iload 12, 2) := by decide +kernel
theorem dL_isVan_63 : decode cL_isVan 63 = .ok (.iaload, 1) := by decide +kernel
theorem dL_isVan_64 : decode cL_isVan 64 = .ok (.iload_n 1, 1) := by decide +kernel
theorem dL_isVan_65 : decode cL_isVan 65 = .ok (.if_icmp .ne 27, 3) := by decide +kernel
theorem dL_isVan_68 : decode cL_isVan 68 = .ok (.aload 4, 2) := by decide +kernel
theorem dL_isVan_70 : decode cL_isVan 70 = .ok (.iload 12, 2) := by decide +kernel
theorem dL_isVan_72 : decode cL_isVan 72 = .ok (.iaload, 1) := by decide +kernel
theorem dL_isVan_73 : decode cL_isVan 73 = .ok (.invokestatic 29, 3) := by decide +kernel
theorem dL_isVan_76 : decode cL_isVan 76 = .ok (.iload 8, 2) := by decide +kernel
theorem dL_isVan_78 : decode cL_isVan 78 = .ok (.if_icmp .le 14, 3) := by decide +kernel
theorem dL_isVan_81 : decode cL_isVan 81 = .ok (.aload 4, 2) := by decide +kernel
theorem dL_isVan_83 : decode cL_isVan 83 = .ok (.iload 12, 2) := by decide +kernel
theorem dL_isVan_85 : decode cL_isVan 85 = .ok (.iaload, 1) := by decide +kernel
theorem dL_isVan_86 : decode cL_isVan 86 = .ok (.invokestatic 29, 3) := by decide +kernel
theorem dL_isVan_89 : decode cL_isVan 89 = .ok (.goto 5, 3) := by decide +kernel
theorem dL_isVan_92 : decode cL_isVan 92 = .ok (.iload 8, 2) := by decide +kernel
theorem dL_isVan_94 : decode cL_isVan 94 = .ok (.istore 8, 2) := by decide +kernel
theorem dL_isVan_96 : decode cL_isVan 96 = .ok (.aload 5, 2) := by decide +kernel
theorem dL_isVan_98 : decode cL_isVan 98 = .ok (.iload 12, 2) := by decide +kernel
theorem dL_isVan_100 : decode cL_isVan 100 = .ok (.iaload, 1) := by decide +kernel
theorem dL_isVan_101 : decode cL_isVan 101 = .ok (.iload_n 1, 1) := by decide +kernel
theorem dL_isVan_102 : decode cL_isVan 102 = .ok (.if_icmp .ne 35, 3) := by decide +kernel
theorem dL_isVan_105 : decode cL_isVan 105 = .ok (.iload_n 1, 1) := by decide +kernel
theorem dL_isVan_106 : decode cL_isVan 106 = .ok (.aload 4, 2) := by decide +kernel
theorem dL_isVan_108 : decode cL_isVan 108 = .ok (.iload 12, 2) := by decide +kernel
theorem dL_isVan_110 : decode cL_isVan 110 = .ok (.iaload, 1) := by decide +kernel
theorem dL_isVan_111 : decode cL_isVan 111 = .ok (.invokestatic 29, 3) := by decide +kernel
theorem dL_isVan_114 : decode cL_isVan 114 = .ok (.aload_n 3, 1) := by decide +kernel
theorem dL_isVan_115 : decode cL_isVan 115 = .ok (.aload 4, 2) := by decide +kernel
theorem dL_isVan_117 : decode cL_isVan 117 = .ok (.aload 5, 2) := by decide +kernel
theorem dL_isVan_119 : decode cL_isVan 119 = .ok (.invokestatic 35, 3) := by decide +kernel
theorem dL_isVan_122 : decode cL_isVan 122 = .ok (.iload_n 2, 1) := by decide +kernel
theorem dL_isVan_123 : decode cL_isVan 123 = .ok (.if_icmp .ne 14, 3) := by decide +kernel
theorem dL_isVan_126 : decode cL_isVan 126 = .ok (.aload 4, 2) := by decide +kernel
theorem dL_isVan_128 : decode cL_isVan 128 = .ok (.iload 12, 2) := by decide +kernel
theorem dL_isVan_130 : decode cL_isVan 130 = .ok (.iaload, 1) := by decide +kernel
theorem dL_isVan_131 : decode cL_isVan 131 = .ok (.invokestatic 29, 3) := by decide +kernel
theorem dL_isVan_134 : decode cL_isVan 134 = .ok (.goto 5, 3) := by decide +kernel
theorem dL_isVan_137 : decode cL_isVan 137 = .ok (.iload 9, 2) := by decide +kernel
theorem dL_isVan_139 : decode cL_isVan 139 = .ok (.istore 9, 2) := by decide +kernel
theorem dL_isVan_141 : decode cL_isVan 141 = .ok (.iinc 12 1, 3) := by decide +kernel
theorem dL_isVan_144 : decode cL_isVan 144 = .ok (.goto (-115), 3) := by decide +kernel
theorem dL_isVan_147 : decode cL_isVan 147 = .ok (.iconst 0, 1) := by decide +kernel
theorem dL_isVan_148 : decode cL_isVan 148 = .ok (.istore 12, 2) := by decide +kernel
theorem dL_isVan_150 : decode cL_isVan 150 = .ok (.iload 12, 2) := by decide +kernel
theorem dL_isVan_152 : decode cL_isVan 152 = .ok (.aload_n 3, 1) := by decide +kernel
theorem dL_isVan_153 : decode cL_isVan 153 = .ok (.iconst 5, 1) := by decide +kernel
theorem dL_isVan_154 : decode cL_isVan 154 = .ok (.iaload, 1) := by decide +kernel
theorem dL_isVan_155 : decode cL_isVan 155 = .ok (.if_icmp .ge 48, 3) := by decide +kernel
theorem dL_isVan_158 : decode cL_isVan 158 = .ok (.iload 11, 2) := by decide +kernel
theorem dL_isVan_160 : decode cL_isVan 160 = .ok (.aload 5, 2) := by decide +kernel
theorem dL_isVan_162 : decode cL_isVan 162 = .ok (.iload 12, 2) := by decide +kernel
theorem dL_isVan_164 : decode cL_isVan 164 = .ok (.iaload, 1) := by decide +kernel
theorem dL_isVan_165 : decode cL_isVan 165 = .ok (.iload_n 1, 1) := by decide +kernel
theorem dL_isVan_166 : decode cL_isVan 166 = .ok (.if_icmp .ne 27, 3) := by decide +kernel
theorem dL_isVan_169 : decode cL_isVan 169 = .ok (.aload 4, 2) := by decide +kernel
theorem dL_isVan_171 : decode cL_isVan 171 = .ok (.iload 12, 2) := by decide +kernel
theorem dL_isVan_173 : decode cL_isVan 173 = .ok (.iaload, 1) := by decide +kernel
theorem dL_isVan_174 : decode cL_isVan 174 = .ok (.invokestatic 29, 3) := by decide +kernel
theorem dL_isVan_177 : decode cL_isVan 177 = .ok (.iload 9, 2) := by decide +kernel
theorem dL_isVan_179 : decode cL_isVan 179 = .ok (.if_icmp .ne 14, 3) := by decide +kernel
theorem dL_isVan_182 : decode cL_isVan 182 = .ok (.aload 4, 2) := by decide +kernel
theorem dL_isVan_184 : decode cL_isVan 184 = .ok (.iload 12, 2) := by decide +kernel
theorem dL_isVan_186 : decode cL_isVan 186 = .ok (.iaload, 1) := by decide +kernel
theorem dL_isVan_187 : decode cL_isVan 187 = .ok (.invokestatic 20, 3) := by decide +kernel
theorem dL_isVan_190 : decode cL_isVan 190 = .ok (.goto 4, 3) := by decide +kernel
theorem dL_isVan_193 : decode cL_isVan 193 = .ok (.iconst 0, 1) := by decide +kernel
theorem dL_isVan_194 : decode cL_isVan 194 = .ok (.iadd, 1) := by decide +kernel
theorem dL_isVan_195 : decode cL_isVan 195 = .ok (.istore 11, 2) := by decide +kernel
theorem dL_isVan_197 : decode cL_isVan 197 = .ok (.iinc 12 1, 3) := by decide +kernel
theorem dL_isVan_200 : decode cL_isVan 200 = .ok (.goto (-50), 3) := by decide +kernel
theorem dL_isVan_203 : decode cL_isVan 203 = .ok (.aload_n 0, 1) := by decide +kernel
theorem dL_isVan_204 : decode cL_isVan 204 = .ok (.iload_n 1, 1) := by decide +kernel
theorem dL_isVan_205 : decode cL_isVan 205 = .ok (.iconst 0, 1) := by decide +kernel
theorem dL_isVan_206 : decode cL_isVan 206 = .ok (.invokevirtual 52, 3) := by decide +kernel
theorem dL_isVan_209 : decode cL_isVan 209 = .ok (.aload_n 3, 1) := by decide +kernel
theorem dL_isVan_210 : decode cL_isVan 210 = .ok (.bipush 18, 2) := by decide +kernel
theorem dL_isVan_212 : decode cL_isVan 212 = .ok (.iload_n 1, 1) := by decide +kernel
theorem dL_isVan_213 : decode cL_isVan 213 = .ok (.iadd, 1) := by decide +kernel
theorem dL_isVan_214 : decode cL_isVan 214 = .ok (.iaload, 1) := by decide +kernel
theorem dL_isVan_215 : decode cL_isVan 215 = .ok (.if_icmp .ne 133, 3) := by decide +kernel
theorem dL_isVan_218 : decode cL_isVan 218 = .ok (.aload_n 0, 1) := by decide +kernel
theorem dL_isVan_219 : decode cL_isVan 219 = .ok (.iload_n 1, 1) := by decide +kernel
theorem dL_isVan_220 : decode cL_isVan 220 = .ok (.iconst 1, 1) := by decide +kernel
theorem dL_isVan_221 : decode cL_isVan 221 = .ok (.invokevirtual 52, 3) := by decide +kernel
theorem dL_isVan_224 : decode cL_isVan 224 = .ok (.aload_n 3, 1) := by decide +kernel
theorem dL_isVan_225 : decode cL_isVan 225 = .ok (.bipush 26, 2) := by decide +kernel
theorem dL_isVan_227 : decode cL_isVan 227 = .ok (.iload_n 1, 1) := by decide +kernel
theorem dL_isVan_228 : decode cL_isVan 228 = .ok (.iadd, 1) := by decide +kernel
theorem dL_isVan_229 : decode cL_isVan 229 = .ok (.iaload, 1) := by decide +kernel
theorem dL_isVan_230 : decode cL_isVan 230 = .ok (.if_icmp .ne 118, 3) := by decide +kernel
theorem dL_isVan_233 : decode cL_isVan 233 = .ok (.aload_n 0, 1) := by decide +kernel
theorem dL_isVan_234 : decode cL_isVan 234 = .ok (.iload_n 1, 1) := by decide +kernel
theorem dL_isVan_235 : decode cL_isVan 235 = .ok (.iconst 2, 1) := by decide +kernel
theorem dL_isVan_236 : decode cL_isVan 236 = .ok (.invokevirtual 52, 3) := by decide +kernel
theorem dL_isVan_239 : decode cL_isVan 239 = .ok (.aload 6, 2) := by decide +kernel
theorem dL_isVan_241 : decode cL_isVan 241 = .ok (.iload_n 1, 1) := by decide +kernel
theorem dL_isVan_242 : decode cL_isVan 242 = .ok (.iaload, 1) := by decide +kernel
theorem dL_isVan_243 : decode cL_isVan 243 = .ok (.if_icmp .ne 105, 3) := by decide +kernel
theorem dL_isVan_246 : decode cL_isVan 246 = .ok (.aload_n 0, 1) := by decide +kernel
theorem dL_isVan_247 : decode cL_isVan 247 = .ok (.iload_n 1, 1) := by decide +kernel
theorem dL_isVan_248 : decode cL_isVan 248 = .ok (.iconst 3, 1) := by decide +kernel
theorem dL_isVan_249 : decode cL_isVan 249 = .ok (.invokevirtual 52, 3) := by decide +kernel
theorem dL_isVan_252 : decode cL_isVan 252 = .ok (.iload 7, 2) := by decide +kernel
theorem dL_isVan_254 : decode cL_isVan 254 = .ok (.if_icmp .ne 94, 3) := by decide +kernel
theorem dL_isVan_257 : decode cL_isVan 257 = .ok (.aload_n 0, 1) := by decide +kernel
theorem dL_isVan_258 : decode cL_isVan 258 = .ok (.iload_n 1, 1) := by decide +kernel
theorem dL_isVan_259 : decode cL_isVan 259 = .ok (.iconst 4, 1) := by decide +kernel
theorem dL_isVan_260 : decode cL_isVan 260 = .ok (.invokevirtual 52, 3) := by decide +kernel
theorem dL_isVan_263 : decode cL_isVan 263 = .ok (.aload 6, 2) := by decide +kernel
theorem dL_isVan_265 : decode cL_isVan 265 = .ok (.bipush 8, 2) := by decide +kernel
theorem dL_isVan_267 : decode cL_isVan 267 = .ok (.iload_n 1, 1) := by decide +kernel
theorem dL_isVan_268 : decode cL_isVan 268 = .ok (.iadd, 1) := by decide +kernel
theorem dL_isVan_269 : decode cL_isVan 269 = .ok (.iaload, 1) := by decide +kernel
theorem dL_isVan_270 : decode cL_isVan 270 = .ok (.if_icmp .ne 78, 3) := by decide +kernel
theorem dL_isVan_273 : decode cL_isVan 273 = .ok (.aload_n 0, 1) := by decide +kernel
theorem dL_isVan_274 : decode cL_isVan 274 = .ok (.iload_n 1, 1) := by decide +kernel
theorem dL_isVan_275 : decode cL_isVan 275 = .ok (.iconst 5, 1) := by decide +kernel
theorem dL_isVan_276 : decode cL_isVan 276 = .ok (.invokevirtual 52, 3) := by decide +kernel
theorem dL_isVan_279 : decode cL_isVan 279 = .ok (.iload 10, 2) := by decide +kernel
theorem dL_isVan_281 : decode cL_isVan 281 = .ok (.if_icmp .ne 67, 3) := by decide +kernel
theorem dL_isVan_284 : decode cL_isVan 284 = .ok (.aload_n 0, 1) := by decide +kernel
theorem dL_isVan_285 : decode cL_isVan 285 = .ok (.iload_n 1, 1) := by decide +kernel
theorem dL_isVan_286 : decode cL_isVan 286 = .ok (.bipush 6, 2) := by decide +kernel
theorem dL_isVan_288 : decode cL_isVan 288 = .ok (.invokevirtual 52, 3) := by decide +kernel
theorem dL_isVan_291 : decode cL_isVan 291 = .ok (.iload 10, 2) := by decide +kernel
theorem dL_isVan_293 : decode cL_isVan 293 = .ok (.ifCond .ne 8, 3) := by decide +kernel
theorem dL_isVan_296 : decode cL_isVan 296 = .ok (.bipush (-106), 2) := by decide +kernel
theorem dL_isVan_298 : decode cL_isVan 298 = .ok (.goto 14, 3) := by decide +kernel
theorem dL_isVan_301 : decode cL_isVan 301 = .ok (.iload_n 1, 1) := by decide +kernel
theorem dL_isVan_302 : decode cL_isVan 302 = .ok (.iload 8, 2) := by decide +kernel
theorem dL_isVan_304 : decode cL_isVan 304 = .ok (.aload_n 3, 1) := by decide +kernel
theorem dL_isVan_305 : decode cL_isVan 305 = .ok (.aload 4, 2) := by decide +kernel
theorem dL_isVan_307 : decode cL_isVan 307 = .ok (.aload 5, 2) := by decide +kernel
theorem dL_isVan_309 : decode cL_isVan 309 = .ok (.invokestatic 45, 3) := by decide +kernel
theorem dL_isVan_312 : decode cL_isVan 312 = .ok (.if_icmp .ne 36, 3) := by decide +kernel
theorem dL_isVan_315 : decode cL_isVan 315 = .ok (.aload_n 0, 1) := by decide +kernel
theorem dL_isVan_316 : decode cL_isVan 316 = .ok (.iload_n 1, 1) := by decide +kernel
theorem dL_isVan_317 : decode cL_isVan 317 = .ok (.bipush 7, 2) := by decide +kernel
theorem dL_isVan_319 : decode cL_isVan 319 = .ok (.invokevirtual 52, 3) := by decide +kernel
theorem dL_isVan_322 : decode cL_isVan 322 = .ok (.iload 10, 2) := by decide +kernel
theorem dL_isVan_324 : decode cL_isVan 324 = .ok (.ifCond .ne 7, 3) := by decide +kernel
theorem dL_isVan_327 : decode cL_isVan 327 = .ok (.iconst 0, 1) := by decide +kernel
theorem dL_isVan_328 : decode cL_isVan 328 = .ok (.goto 13, 3) := by decide +kernel
theorem dL_isVan_331 : decode cL_isVan 331 = .ok (.aload_n 3, 1) := by decide +kernel
theorem dL_isVan_332 : decode cL_isVan 332 = .ok (.iconst 3, 1) := by decide +kernel
theorem dL_isVan_333 : decode cL_isVan 333 = .ok (.iaload, 1) := by decide +kernel
theorem dL_isVan_334 : decode cL_isVan 334 = .ok (.aload_n 3, 1) := by decide +kernel
theorem dL_isVan_335 : decode cL_isVan 335 = .ok (.iconst 4, 1) := by decide +kernel
theorem dL_isVan_336 : decode cL_isVan 336 = .ok (.iaload, 1) := by decide +kernel
theorem dL_isVan_337 : decode cL_isVan 337 = .ok (.iload 10, 2) := by decide +kernel
theorem dL_isVan_339 : decode cL_isVan 339 = .ok (.imul, 1) := by decide +kernel
theorem dL_isVan_340 : decode cL_isVan 340 = .ok (.iadd, 1) := by decide +kernel
theorem dL_isVan_341 : decode cL_isVan 341 = .ok (.if_icmp .ne 7, 3) := by decide +kernel
theorem dL_isVan_344 : decode cL_isVan 344 = .ok (.iconst 1, 1) := by decide +kernel
theorem dL_isVan_345 : decode cL_isVan 345 = .ok (.goto 4, 3) := by decide +kernel
theorem dL_isVan_348 : decode cL_isVan 348 = .ok (.iconst 0, 1) := by decide +kernel
theorem dL_isVan_349 : decode cL_isVan 349 = .ok (.istore 12, 2) := by decide +kernel
theorem dL_isVan_351 : decode cL_isVan 351 = .ok (.iload_n 2, 1) := by decide +kernel
theorem dL_isVan_352 : decode cL_isVan 352 = .ok (.iload 10, 2) := by decide +kernel
theorem dL_isVan_354 : decode cL_isVan 354 = .ok (.if_icmp .lt 26, 3) := by decide +kernel
theorem dL_isVan_357 : decode cL_isVan 357 = .ok (.iload 12, 2) := by decide +kernel
theorem dL_isVan_359 : decode cL_isVan 359 = .ok (.ifCond .eq 19, 3) := by decide +kernel
theorem dL_isVan_362 : decode cL_isVan 362 = .ok (.aload_n 0, 1) := by decide +kernel
theorem dL_isVan_363 : decode cL_isVan 363 = .ok (.iload_n 1, 1) := by decide +kernel
theorem dL_isVan_364 : decode cL_isVan 364 = .ok (.iload_n 2, 1) := by decide +kernel
theorem dL_isVan_365 : decode cL_isVan 365 = .ok (.iconst 0, 1) := by decide +kernel
theorem dL_isVan_366 : decode cL_isVan 366 = .ok (.invokevirtual 55, 3) := by decide +kernel
theorem dL_isVan_369 : decode cL_isVan 369 = .ok (.bipush (-101), 2) := by decide +kernel
theorem dL_isVan_371 : decode cL_isVan 371 = .ok (.if_icmp .ne 7, 3) := by decide +kernel
theorem dL_isVan_374 : decode cL_isVan 374 = .ok (.iconst 1, 1) := by decide +kernel
theorem dL_isVan_375 : decode cL_isVan 375 = .ok (.goto 4, 3) := by decide +kernel
theorem dL_isVan_378 : decode cL_isVan 378 = .ok (.iconst 0, 1) := by decide +kernel
theorem dL_isVan_379 : decode cL_isVan 379 = .ok (.ireturn, 1) := by decide +kernel
theorem dL_isVan_380 : decode cL_isVan 380 = .ok (.iload 12, 2) := by decide +kernel
theorem dL_isVan_382 : decode cL_isVan 382 = .ok (.ifCond .eq 82, 3) := by decide +kernel
theorem dL_isVan_385 : decode cL_isVan 385 = .ok (.aload_n 0, 1) := by decide +kernel
theorem dL_isVan_386 : decode cL_isVan 386 = .ok (.iload_n 1, 1) := by decide +kernel
theorem dL_isVan_387 : decode cL_isVan 387 = .ok (.iload_n 2, 1) := by decide +kernel
theorem dL_isVan_388 : decode cL_isVan 388 = .ok (.iconst 0, 1) := by decide +kernel
theorem dL_isVan_389 : decode cL_isVan 389 = .ok (.invokevirtual 55, 3) := by decide +kernel
theorem dL_isVan_392 : decode cL_isVan 392 = .ok (.iload 9, 2) := by decide +kernel
theorem dL_isVan_394 : decode cL_isVan 394 = .ok (.bipush 100, 2) := by decide +kernel
theorem dL_isVan_396 : decode cL_isVan 396 = .ok (.idiv, 1) := by decide +kernel
theorem dL_isVan_397 : decode cL_isVan 397 = .ok (.if_icmp .ne 67, 3) := by decide +kernel
theorem dL_isVan_400 : decode cL_isVan 400 = .ok (.aload_n 0, 1) := by decide +kernel
theorem dL_isVan_401 : decode cL_isVan 401 = .ok (.iload_n 1, 1) := by decide +kernel
theorem dL_isVan_402 : decode cL_isVan 402 = .ok (.iload_n 2, 1) := by decide +kernel
theorem dL_isVan_403 : decode cL_isVan 403 = .ok (.iconst 1, 1) := by decide +kernel
theorem dL_isVan_404 : decode cL_isVan 404 = .ok (.invokevirtual 55, 3) := by decide +kernel
theorem dL_isVan_407 : decode cL_isVan 407 = .ok (.iload 9, 2) := by decide +kernel
theorem dL_isVan_409 : decode cL_isVan 409 = .ok (.bipush 100, 2) := by decide +kernel
theorem dL_isVan_411 : decode cL_isVan 411 = .ok (.irem, 1) := by decide +kernel
theorem dL_isVan_412 : decode cL_isVan 412 = .ok (.if_icmp .ne 52, 3) := by decide +kernel
theorem dL_isVan_415 : decode cL_isVan 415 = .ok (.aload_n 0, 1) := by decide +kernel
theorem dL_isVan_416 : decode cL_isVan 416 = .ok (.iload_n 1, 1) := by decide +kernel
theorem dL_isVan_417 : decode cL_isVan 417 = .ok (.iload_n 2, 1) := by decide +kernel
theorem dL_isVan_418 : decode cL_isVan 418 = .ok (.iconst 2, 1) := by decide +kernel
theorem dL_isVan_419 : decode cL_isVan 419 = .ok (.invokevirtual 55, 3) := by decide +kernel
theorem dL_isVan_422 : decode cL_isVan 422 = .ok (.iload_n 1, 1) := by decide +kernel
theorem dL_isVan_423 : decode cL_isVan 423 = .ok (.iload 9, 2) := by decide +kernel
theorem dL_isVan_425 : decode cL_isVan 425 = .ok (.aload_n 3, 1) := by decide +kernel
theorem dL_isVan_426 : decode cL_isVan 426 = .ok (.aload 4, 2) := by decide +kernel
theorem dL_isVan_428 : decode cL_isVan 428 = .ok (.aload 5, 2) := by decide +kernel
theorem dL_isVan_430 : decode cL_isVan 430 = .ok (.invokestatic 45, 3) := by decide +kernel
theorem dL_isVan_433 : decode cL_isVan 433 = .ok (.if_icmp .ne 31, 3) := by decide +kernel
theorem dL_isVan_436 : decode cL_isVan 436 = .ok (.aload_n 0, 1) := by decide +kernel
theorem dL_isVan_437 : decode cL_isVan 437 = .ok (.iload_n 1, 1) := by decide +kernel
theorem dL_isVan_438 : decode cL_isVan 438 = .ok (.iload_n 2, 1) := by decide +kernel
theorem dL_isVan_439 : decode cL_isVan 439 = .ok (.iconst 3, 1) := by decide +kernel
theorem dL_isVan_440 : decode cL_isVan 440 = .ok (.invokevirtual 55, 3) := by decide +kernel
theorem dL_isVan_443 : decode cL_isVan 443 = .ok (.iload 11, 2) := by decide +kernel
theorem dL_isVan_445 : decode cL_isVan 445 = .ok (.if_icmp .ne 19, 3) := by decide +kernel
theorem dL_isVan_448 : decode cL_isVan 448 = .ok (.aload_n 0, 1) := by decide +kernel
theorem dL_isVan_449 : decode cL_isVan 449 = .ok (.iload_n 1, 1) := by decide +kernel
theorem dL_isVan_450 : decode cL_isVan 450 = .ok (.iload_n 2, 1) := by decide +kernel
theorem dL_isVan_451 : decode cL_isVan 451 = .ok (.iconst 4, 1) := by decide +kernel
theorem dL_isVan_452 : decode cL_isVan 452 = .ok (.invokevirtual 55, 3) := by decide +kernel
theorem dL_isVan_455 : decode cL_isVan 455 = .ok (.bipush (-102), 2) := by decide +kernel
theorem dL_isVan_457 : decode cL_isVan 457 = .ok (.if_icmp .ne 7, 3) := by decide +kernel
theorem dL_isVan_460 : decode cL_isVan 460 = .ok (.iconst 1, 1) := by decide +kernel
theorem dL_isVan_461 : decode cL_isVan 461 = .ok (.goto 4, 3) := by decide +kernel
theorem dL_isVan_464 : decode cL_isVan 464 = .ok (.iconst 0, 1) := by decide +kernel
theorem dL_isVan_465 : decode cL_isVan 465 = .ok (.ireturn, 1) := by decide +kernel
theorem dL_areCounts_0 : decode cL_areCounts 0 = .ok (.iconst 0, 1) := by decide +kernel
theorem dL_areCounts_1 : decode cL_areCounts 1 = .ok (.istore 6, 2) := by decide +kernel
theorem dL_areCounts_3 : decode cL_areCounts 3 = .ok (.iconst 0, 1) := by decide +kernel
theorem dL_areCounts_4 : decode cL_areCounts 4 = .ok (.istore 7, 2) := by decide +kernel
theorem dL_areCounts_6 : decode cL_areCounts 6 = .ok (.iconst 0, 1) := by decide +kernel
theorem dL_areCounts_7 : decode cL_areCounts 7 = .ok (.istore 8, 2) := by decide +kernel
theorem dL_areCounts_9 : decode cL_areCounts 9 = .ok (.iconst 0, 1) := by decide +kernel
theorem dL_areCounts_10 : decode cL_areCounts 10 = .ok (.istore 9, 2) := by decide +kernel
theorem dL_areCounts_12 : decode cL_areCounts 12 = .ok (.iconst 0, 1) := by decide +kernel
theorem dL_areCounts_13 : decode cL_areCounts 13 = .ok (.istore 10, 2) := by decide +kernel
theorem dL_areCounts_15 : decode cL_areCounts 15 = .ok (.iconst 0, 1) := by decide +kernel
theorem dL_areCounts_16 : decode cL_areCounts 16 = .ok (.istore 11, 2) := by decide +kernel
theorem dL_areCounts_18 : decode cL_areCounts 18 = .ok (.iconst 0, 1) := by decide +kernel
theorem dL_areCounts_19 : decode cL_areCounts 19 = .ok (.istore 12, 2) := by decide +kernel
theorem dL_areCounts_21 : decode cL_areCounts 21 = .ok (.bipush (-106), 2) := by decide +kernel
theorem dL_areCounts_23 : decode cL_areCounts 23 = .ok (.istore 13, 2) := by decide +kernel
theorem dL_areCounts_25 : decode cL_areCounts 25 = .ok (.iload_n 1, 1) := by decide +kernel
theorem dL_areCounts_26 : decode cL_areCounts 26 = .ok (.sipush 1800, 3) := by decide +kernel
theorem dL_areCounts_29 : decode cL_areCounts 29 = .ok (.invokestatic 59, 3) := by decide +kernel
theorem dL_areCounts_32 : decode cL_areCounts 32 = .ok (.istore 14, 2) := by decide +kernel
theorem dL_areCounts_34 : decode cL_areCounts 34 = .ok (.iconst 0, 1) := by decide +kernel
theorem dL_areCounts_35 : decode cL_areCounts 35 = .ok (.istore 15, 2) := by decide +kernel
theorem dL_areCounts_37 : decode cL_areCounts 37 = .ok (.iload_n 1, 1) := by decide +kernel
theorem dL_areCounts_38 : decode cL_areCounts 38 = .ok (.bipush 11, 2) := by decide +kernel
theorem dL_areCounts_40 : decode cL_areCounts 40 = .ok (.ishr, 1) := by decide +kernel
theorem dL_areCounts_41 : decode cL_areCounts 41 = .ok (.bipush 6, 2) := by decide +kernel
theorem dL_areCounts_43 : decode cL_areCounts 43 = .ok (.invokestatic 59, 3) := by decide +kernel
theorem dL_areCounts_46 : decode cL_areCounts 46 = .ok (.istore 16, 2) := by decide +kernel
theorem dL_areCounts_48 : decode cL_areCounts 48 = .ok (.iconst 0, 1) := by decide +kernel
theorem dL_areCounts_49 : decode cL_areCounts 49 = .ok (.istore 17, 2) := by decide +kernel
theorem dL_areCounts_51 : decode cL_areCounts 51 = .ok (.iconst 0, 1) := by decide +kernel
theorem dL_areCounts_52 : decode cL_areCounts 52 = .ok (.istore 18, 2) := by decide +kernel
theorem dL_areCounts_54 : decode cL_areCounts 54 = .ok (.iconst 0, 1) := by decide +kernel
theorem dL_areCounts_55 : decode cL_areCounts 55 = .ok (.istore 19, 2) := by decide +kernel
theorem dL_areCounts_57 : decode cL_areCounts 57 = .ok (.iload 19, 2) := by decide +kernel
theorem dL_areCounts_59 : decode cL_areCounts 59 = .ok (.aload_n 2, 1) := by decide +kernel
theorem dL_areCounts_60 : decode cL_areCounts 60 = .ok (.iconst 5, 1) := by decide +kernel
theorem dL_areCounts_61 : decode cL_areCounts 61 = .ok (.iaload, 1) := by decide +kernel
theorem dL_areCounts_62 : decode cL_areCounts 62 = .ok (.if_icmp .ge 312, 3) := by decide +kernel
theorem dL_areCounts_65 : decode cL_areCounts 65 = .ok (.aload_n 3, 1) := by decide +kernel
theorem dL_areCounts_66 : decode cL_areCounts 66 = .ok (.iload 19, 2) := by decide +kernel
theorem dL_areCounts_68 : decode cL_areCounts 68 = .ok (.iaload, 1) := by decide +kernel
theorem dL_areCounts_69 : decode cL_areCounts 69 = .ok (.invokestatic 20, 3) := by decide +kernel
theorem dL_areCounts_72 : decode cL_areCounts 72 = .ok (.istore 20, 2) := by decide +kernel
theorem dL_areCounts_74 : decode cL_areCounts 74 = .ok (.iload 14, 2) := by decide +kernel
theorem dL_areCounts_76 : decode cL_areCounts 76 = .ok (.aload_n 3, 1) := by decide +kernel
theorem dL_areCounts_77 : decode cL_areCounts 77 = .ok (.iload 19, 2) := by decide +kernel
theorem dL_areCounts_79 : decode cL_areCounts 79 = .ok (.iaload, 1) := by decide +kernel
theorem dL_areCounts_80 : decode cL_areCounts 80 = .ok (.aload_n 2, 1) := by decide +kernel
theorem dL_areCounts_81 : decode cL_areCounts 81 = .ok (.invokestatic 16, 3) := by decide +kernel
theorem dL_areCounts_84 : decode cL_areCounts 84 = .ok (.isub, 1) := by decide +kernel
theorem dL_areCounts_85 : decode cL_areCounts 85 = .ok (.istore 21, 2) := by decide +kernel
theorem dL_areCounts_87 : decode cL_areCounts 87 = .ok (.iload 6, 2) := by decide +kernel
theorem dL_areCounts_89 : decode cL_areCounts 89 = .ok (.iload 20, 2) := by decide +kernel
theorem dL_areCounts_91 : decode cL_areCounts 91 = .ok (.iadd, 1) := by decide +kernel
theorem dL_areCounts_92 : decode cL_areCounts 92 = .ok (.istore 6, 2) := by decide +kernel
theorem dL_areCounts_94 : decode cL_areCounts 94 = .ok (.iload 7, 2) := by decide +kernel
theorem dL_areCounts_96 : decode cL_areCounts 96 = .ok (.aload 4, 2) := by decide +kernel
theorem dL_areCounts_98 : decode cL_areCounts 98 = .ok (.iload 19, 2) := by decide +kernel
theorem dL_areCounts_100 : decode cL_areCounts 100 = .ok (.iaload, 1) := by decide +kernel
theorem dL_areCounts_101 : decode cL_areCounts 101 = .ok (.ifCond .ge 7, 3) := by decide +kernel
theorem dL_areCounts_104 : decode cL_areCounts 104 = .ok (.iconst 1, 1) := by decide +kernel
theorem dL_areCounts_105 : decode cL_areCounts 105 = .ok (.goto 4, 3) := by decide +kernel
theorem dL_areCounts_108 : decode cL_areCounts 108 = .ok (.iconst 0, 1) := by decide +kernel
theorem dL_areCounts_109 : decode cL_areCounts 109 = .ok (.iadd, 1) := by decide +kernel
theorem dL_areCounts_110 : decode cL_areCounts 110 = .ok (.istore 7, 2) := by decide +kernel
theorem dL_areCounts_112 : decode cL_areCounts 112 = .ok (.iload 8, 2) := by decide +kernel
theorem dL_areCounts_114 : decode cL_areCounts 114 = .ok (.aload 4, 2) := by decide +kernel
theorem dL_areCounts_116 : decode cL_areCounts 116 = .ok (.iload 19, 2) := by decide +kernel
theorem dL_areCounts_118 : decode cL_areCounts 118 = .ok (.iaload, 1) := by decide +kernel
theorem dL_areCounts_119 : decode cL_areCounts 119 = .ok (.ifCond .ge 8, 3) := by decide +kernel
theorem dL_areCounts_122 : decode cL_areCounts 122 = .ok (.iload 20, 2) := by decide +kernel
theorem dL_areCounts_124 : decode cL_areCounts 124 = .ok (.goto 4, 3) := by decide +kernel
theorem dL_areCounts_127 : decode cL_areCounts 127 = .ok (.iconst 0, 1) := by decide +kernel
theorem dL_areCounts_128 : decode cL_areCounts 128 = .ok (.iadd, 1) := by decide +kernel
theorem dL_areCounts_129 : decode cL_areCounts 129 = .ok (.istore 8, 2) := by decide +kernel
theorem dL_areCounts_131 : decode cL_areCounts 131 = .ok (.iload 9, 2) := by decide +kernel
theorem dL_areCounts_133 : decode cL_areCounts 133 = .ok (.aload 4, 2) := by decide +kernel
theorem dL_areCounts_135 : decode cL_areCounts 135 = .ok (.iload 19, 2) := by decide +kernel
theorem dL_areCounts_137 : decode cL_areCounts 137 = .ok (.iaload, 1) := by decide +kernel
theorem dL_areCounts_138 : decode cL_areCounts 138 = .ok (.ifCond .ge 7, 3) := by decide +kernel
theorem dL_areCounts_141 : decode cL_areCounts 141 = .ok (.iconst 0, 1) := by decide +kernel
theorem dL_areCounts_142 : decode cL_areCounts 142 = .ok (.goto 25, 3) := by decide +kernel
theorem dL_areCounts_145 : decode cL_areCounts 145 = .ok (.iload 20, 2) := by decide +kernel
theorem dL_areCounts_147 : decode cL_areCounts 147 = .ok (.aload_n 2, 1) := by decide +kernel
theorem dL_areCounts_148 : decode cL_areCounts 148 = .ok (.bipush 18, 2) := by decide +kernel
theorem dL_areCounts_150 : decode cL_areCounts 150 = .ok (.aload 4, 2) := by decide +kernel
theorem dL_areCounts_152 : decode cL_areCounts 152 = .ok (.iload 19, 2) := by decide +kernel
theorem dL_areCounts_154 : decode cL_areCounts 154 = .ok (.iaload, 1) := by decide +kernel
theorem dL_areCounts_155 : decode cL_areCounts 155 = .ok (.iadd, 1) := by decide +kernel
theorem dL_areCounts_156 : decode cL_areCounts 156 = .ok (.iaload, 1) := by decide +kernel
theorem dL_areCounts_157 : decode cL_areCounts 157 = .ok (.aload_n 3, 1) := by decide +kernel
theorem dL_areCounts_158 : decode cL_areCounts 158 = .ok (.iload 19, 2) := by decide +kernel
theorem dL_areCounts_160 : decode cL_areCounts 160 = .ok (.iaload, 1) := by decide +kernel
theorem dL_areCounts_161 : decode cL_areCounts 161 = .ok (.aload_n 2, 1) := by decide +kernel
theorem dL_areCounts_162 : decode cL_areCounts 162 = .ok (.invokestatic 16, 3) := by decide +kernel
theorem dL_areCounts_165 : decode cL_areCounts 165 = .ok (.isub, 1) := by decide +kernel
theorem dL_areCounts_166 : decode cL_areCounts 166 = .ok (.imul, 1) := by decide +kernel
theorem dL_areCounts_167 : decode cL_areCounts 167 = .ok (.iadd, 1) := by decide +kernel
theorem dL_areCounts_168 : decode cL_areCounts 168 = .ok (.istore 9, 2) := by decide +kernel
theorem dL_areCounts_170 : decode cL_areCounts 170 = .ok (.iload 10, 2) := by decide +kernel
theorem dL_areCounts_172 : decode cL_areCounts 172 = .ok (.aload 4, 2) := by decide +kernel
theorem dL_areCounts_174 : decode cL_areCounts 174 = .ok (.iload 19, 2) := by decide +kernel
theorem dL_areCounts_176 : decode cL_areCounts 176 = .ok (.iaload, 1) := by decide +kernel
theorem dL_areCounts_177 : decode cL_areCounts 177 = .ok (.ifCond .ge 7, 3) := by decide +kernel
theorem dL_areCounts_180 : decode cL_areCounts 180 = .ok (.iconst 0, 1) := by decide +kernel
theorem dL_areCounts_181 : decode cL_areCounts 181 = .ok (.goto 30, 3) := by decide +kernel
theorem dL_areCounts_184 : decode cL_areCounts 184 = .ok (.iload 19, 2) := by decide +kernel
theorem dL_areCounts_186 : decode cL_areCounts 186 = .ok (.aload_n 2, 1) := by decide +kernel
theorem dL_areCounts_187 : decode cL_areCounts 187 = .ok (.iconst 3, 1) := by decide +kernel
theorem dL_areCounts_188 : decode cL_areCounts 188 = .ok (.iaload, 1) := by decide +kernel
theorem dL_areCounts_189 : decode cL_areCounts 189 = .ok (.iconst 0, 1) := by decide +kernel
theorem dL_areCounts_190 : decode cL_areCounts 190 = .ok (.aload_n 2, 1) := by decide +kernel
theorem dL_areCounts_191 : decode cL_areCounts 191 = .ok (.aload_n 3, 1) := by decide +kernel
theorem dL_areCounts_192 : decode cL_areCounts 192 = .ok (.aload 4, 2) := by decide +kernel
theorem dL_areCounts_194 : decode cL_areCounts 194 = .ok (.invokestatic 48, 3) := by decide +kernel
theorem dL_areCounts_197 : decode cL_areCounts 197 = .ok (.iload 19, 2) := by decide +kernel
theorem dL_areCounts_199 : decode cL_areCounts 199 = .ok (.aload_n 2, 1) := by decide +kernel
theorem dL_areCounts_200 : decode cL_areCounts 200 = .ok (.iconst 4, 1) := by decide +kernel
theorem dL_areCounts_201 : decode cL_areCounts 201 = .ok (.iaload, 1) := by decide +kernel
theorem dL_areCounts_202 : decode cL_areCounts 202 = .ok (.iconst 1, 1) := by decide +kernel
theorem dL_areCounts_203 : decode cL_areCounts 203 = .ok (.aload_n 2, 1) := by decide +kernel
theorem dL_areCounts_204 : decode cL_areCounts 204 = .ok (.aload_n 3, 1) := by decide +kernel
theorem dL_areCounts_205 : decode cL_areCounts 205 = .ok (.aload 4, 2) := by decide +kernel
theorem dL_areCounts_207 : decode cL_areCounts 207 = .ok (.invokestatic 48, 3) := by decide +kernel
theorem dL_areCounts_210 : decode cL_areCounts 210 = .ok (.iadd, 1) := by decide +kernel
theorem dL_areCounts_211 : decode cL_areCounts 211 = .ok (.iadd, 1) := by decide +kernel
theorem dL_areCounts_212 : decode cL_areCounts 212 = .ok (.istore 10, 2) := by decide +kernel
theorem dL_areCounts_214 : decode cL_areCounts 214 = .ok (.iload 15, 2) := by decide +kernel
theorem dL_areCounts_216 : decode cL_areCounts 216 = .ok (.iload 21, 2) := by decide +kernel
theorem dL_areCounts_218 : decode cL_areCounts 218 = .ok (.ifCond .lt 42, 3) := by decide +kernel
theorem dL_areCounts_221 : decode cL_areCounts 221 = .ok (.aload 4, 2) := by decide +kernel
theorem dL_areCounts_223 : decode cL_areCounts 223 = .ok (.iload 19, 2) := by decide +kernel
theorem dL_areCounts_225 : decode cL_areCounts 225 = .ok (.iaload, 1) := by decide +kernel
theorem dL_areCounts_226 : decode cL_areCounts 226 = .ok (.ifCond .ge 14, 3) := by decide +kernel
theorem dL_areCounts_229 : decode cL_areCounts 229 = .ok (.iload 21, 2) := by decide +kernel
theorem dL_areCounts_231 : decode cL_areCounts 231 = .ok (.aload_n 2, 1) := by decide +kernel
theorem dL_areCounts_232 : decode cL_areCounts 232 = .ok (.iconst 1, 1) := by decide +kernel
theorem dL_areCounts_233 : decode cL_areCounts 233 = .ok (.iaload, 1) := by decide +kernel
theorem dL_areCounts_234 : decode cL_areCounts 234 = .ok (.if_icmp .gt 26, 3) := by decide +kernel
theorem dL_areCounts_237 : decode cL_areCounts 237 = .ok (.goto 18, 3) := by decide +kernel
theorem dL_areCounts_240 : decode cL_areCounts 240 = .ok (.aload_n 2, 1) := by decide +kernel
theorem dL_areCounts_241 : decode cL_areCounts 241 = .ok (.bipush 18, 2) := by decide +kernel
theorem dL_areCounts_243 : decode cL_areCounts 243 = .ok (.aload 4, 2) := by decide +kernel
theorem dL_areCounts_245 : decode cL_areCounts 245 = .ok (.iload 19, 2) := by decide +kernel
theorem dL_areCounts_247 : decode cL_areCounts 247 = .ok (.iaload, 1) := by decide +kernel
end
section
theorem dL_areCounts_248 : decode cL_areCounts 248 = .ok (.iadd, 1) := by decide +kernel
theorem dL_areCounts_249 : decode cL_areCounts 249 = .ok (.iaload, 1) := by decide +kernel
theorem dL_areCounts_250 : decode cL_areCounts 250 = .ok (.iload 14, 2) := by decide +kernel
theorem dL_areCounts_252 : decode cL_areCounts 252 = .ok (.if_icmp .le 8, 3) := by decide +kernel
theorem dL_areCounts_255 : decode cL_areCounts 255 = .ok (.iload 20, 2) := by decide +kernel
theorem dL_areCounts_257 : decode cL_areCounts 257 = .ok (.goto 4, 3) := by decide +kernel
theorem dL_areCounts_260 : decode cL_areCounts 260 = .ok (.iconst 0, 1) := by decide +kernel
theorem dL_areCounts_261 : decode cL_areCounts 261 = .ok (.iadd, 1) := by decide +kernel
theorem dL_areCounts_262 : decode cL_areCounts 262 = .ok (.istore 15, 2) := by decide +kernel
theorem dL_areCounts_264 : decode cL_areCounts 264 = .ok (.iload 17, 2) := by decide +kernel
theorem dL_areCounts_266 : decode cL_areCounts 266 = .ok (.aload_n 3, 1) := by decide +kernel
theorem dL_areCounts_267 : decode cL_areCounts 267 = .ok (.iload 19, 2) := by decide +kernel
theorem dL_areCounts_269 : decode cL_areCounts 269 = .ok (.iaload, 1) := by decide +kernel
theorem dL_areCounts_270 : decode cL_areCounts 270 = .ok (.invokestatic 10, 3) := by decide +kernel
theorem dL_areCounts_273 : decode cL_areCounts 273 = .ok (.iload 16, 2) := by decide +kernel
theorem dL_areCounts_275 : decode cL_areCounts 275 = .ok (.if_icmp .ne 8, 3) := by decide +kernel
theorem dL_areCounts_278 : decode cL_areCounts 278 = .ok (.iload 20, 2) := by decide +kernel
theorem dL_areCounts_280 : decode cL_areCounts 280 = .ok (.goto 4, 3) := by decide +kernel
theorem dL_areCounts_283 : decode cL_areCounts 283 = .ok (.iconst 0, 1) := by decide +kernel
theorem dL_areCounts_284 : decode cL_areCounts 284 = .ok (.iadd, 1) := by decide +kernel
theorem dL_areCounts_285 : decode cL_areCounts 285 = .ok (.istore 17, 2) := by decide +kernel
theorem dL_areCounts_287 : decode cL_areCounts 287 = .ok (.iload 18, 2) := by decide +kernel
theorem dL_areCounts_289 : decode cL_areCounts 289 = .ok (.aload_n 3, 1) := by decide +kernel
theorem dL_areCounts_290 : decode cL_areCounts 290 = .ok (.iload 19, 2) := by decide +kernel
theorem dL_areCounts_292 : decode cL_areCounts 292 = .ok (.iaload, 1) := by decide +kernel
theorem dL_areCounts_293 : decode cL_areCounts 293 = .ok (.invokestatic 10, 3) := by decide +kernel
theorem dL_areCounts_296 : decode cL_areCounts 296 = .ok (.iload 16, 2) := by decide +kernel
theorem dL_areCounts_298 : decode cL_areCounts 298 = .ok (.if_icmp .ne 16, 3) := by decide +kernel
theorem dL_areCounts_301 : decode cL_areCounts 301 = .ok (.aload 4, 2) := by decide +kernel
theorem dL_areCounts_303 : decode cL_areCounts 303 = .ok (.iload 19, 2) := by decide +kernel
theorem dL_areCounts_305 : decode cL_areCounts 305 = .ok (.iaload, 1) := by decide +kernel
theorem dL_areCounts_306 : decode cL_areCounts 306 = .ok (.ifCond .ge 8, 3) := by decide +kernel
theorem dL_areCounts_309 : decode cL_areCounts 309 = .ok (.iload 20, 2) := by decide +kernel
theorem dL_areCounts_311 : decode cL_areCounts 311 = .ok (.goto 4, 3) := by decide +kernel
theorem dL_areCounts_314 : decode cL_areCounts 314 = .ok (.iconst 0, 1) := by decide +kernel
theorem dL_areCounts_315 : decode cL_areCounts 315 = .ok (.iadd, 1) := by decide +kernel
theorem dL_areCounts_316 : decode cL_areCounts 316 = .ok (.istore 18, 2) := by decide +kernel
theorem dL_areCounts_318 : decode cL_areCounts 318 = .ok (.aload 4, 2) := by decide +kernel
theorem dL_areCounts_320 : decode cL_areCounts 320 = .ok (.iload 19, 2) := by decide +kernel
theorem dL_areCounts_322 : decode cL_areCounts 322 = .ok (.iaload, 1) := by decide +kernel
theorem dL_areCounts_323 : decode cL_areCounts 323 = .ok (.ifCond .ge 8, 3) := by decide +kernel
theorem dL_areCounts_326 : decode cL_areCounts 326 = .ok (.bipush (-106), 2) := by decide +kernel
theorem dL_areCounts_328 : decode cL_areCounts 328 = .ok (.goto 22, 3) := by decide +kernel
theorem dL_areCounts_331 : decode cL_areCounts 331 = .ok (.aload 4, 2) := by decide +kernel
theorem dL_areCounts_333 : decode cL_areCounts 333 = .ok (.iload 19, 2) := by decide +kernel
theorem dL_areCounts_335 : decode cL_areCounts 335 = .ok (.iaload, 1) := by decide +kernel
theorem dL_areCounts_336 : decode cL_areCounts 336 = .ok (.aload_n 3, 1) := by decide +kernel
theorem dL_areCounts_337 : decode cL_areCounts 337 = .ok (.iload 19, 2) := by decide +kernel
theorem dL_areCounts_339 : decode cL_areCounts 339 = .ok (.iaload, 1) := by decide +kernel
theorem dL_areCounts_340 : decode cL_areCounts 340 = .ok (.invokestatic 29, 3) := by decide +kernel
theorem dL_areCounts_343 : decode cL_areCounts 343 = .ok (.aload_n 2, 1) := by decide +kernel
theorem dL_areCounts_344 : decode cL_areCounts 344 = .ok (.aload_n 3, 1) := by decide +kernel
theorem dL_areCounts_345 : decode cL_areCounts 345 = .ok (.aload 4, 2) := by decide +kernel
theorem dL_areCounts_347 : decode cL_areCounts 347 = .ok (.invokestatic 45, 3) := by decide +kernel
theorem dL_areCounts_350 : decode cL_areCounts 350 = .ok (.istore 22, 2) := by decide +kernel
theorem dL_areCounts_352 : decode cL_areCounts 352 = .ok (.iload 22, 2) := by decide +kernel
theorem dL_areCounts_354 : decode cL_areCounts 354 = .ok (.iload 13, 2) := by decide +kernel
theorem dL_areCounts_356 : decode cL_areCounts 356 = .ok (.if_icmp .le 8, 3) := by decide +kernel
theorem dL_areCounts_359 : decode cL_areCounts 359 = .ok (.iload 22, 2) := by decide +kernel
theorem dL_areCounts_361 : decode cL_areCounts 361 = .ok (.goto 5, 3) := by decide +kernel
theorem dL_areCounts_364 : decode cL_areCounts 364 = .ok (.iload 13, 2) := by decide +kernel
theorem dL_areCounts_366 : decode cL_areCounts 366 = .ok (.istore 13, 2) := by decide +kernel
theorem dL_areCounts_368 : decode cL_areCounts 368 = .ok (.iinc 19 1, 3) := by decide +kernel
theorem dL_areCounts_371 : decode cL_areCounts 371 = .ok (.goto (-314), 3) := by decide +kernel
theorem dL_areCounts_374 : decode cL_areCounts 374 = .ok (.bipush (-106), 2) := by decide +kernel
theorem dL_areCounts_376 : decode cL_areCounts 376 = .ok (.istore 19, 2) := by decide +kernel
theorem dL_areCounts_378 : decode cL_areCounts 378 = .ok (.iconst 0, 1) := by decide +kernel
theorem dL_areCounts_379 : decode cL_areCounts 379 = .ok (.istore 20, 2) := by decide +kernel
theorem dL_areCounts_381 : decode cL_areCounts 381 = .ok (.iload 20, 2) := by decide +kernel
theorem dL_areCounts_383 : decode cL_areCounts 383 = .ok (.bipush 8, 2) := by decide +kernel
theorem dL_areCounts_385 : decode cL_areCounts 385 = .ok (.if_icmp .ge 79, 3) := by decide +kernel
theorem dL_areCounts_388 : decode cL_areCounts 388 = .ok (.iload 11, 2) := by decide +kernel
theorem dL_areCounts_390 : decode cL_areCounts 390 = .ok (.aload 5, 2) := by decide +kernel
theorem dL_areCounts_392 : decode cL_areCounts 392 = .ok (.iload 20, 2) := by decide +kernel
theorem dL_areCounts_394 : decode cL_areCounts 394 = .ok (.iaload, 1) := by decide +kernel
theorem dL_areCounts_395 : decode cL_areCounts 395 = .ok (.ifCond .le 7, 3) := by decide +kernel
theorem dL_areCounts_398 : decode cL_areCounts 398 = .ok (.iconst 1, 1) := by decide +kernel
theorem dL_areCounts_399 : decode cL_areCounts 399 = .ok (.goto 4, 3) := by decide +kernel
theorem dL_areCounts_402 : decode cL_areCounts 402 = .ok (.iconst 0, 1) := by decide +kernel
theorem dL_areCounts_403 : decode cL_areCounts 403 = .ok (.iadd, 1) := by decide +kernel
theorem dL_areCounts_404 : decode cL_areCounts 404 = .ok (.istore 11, 2) := by decide +kernel
theorem dL_areCounts_406 : decode cL_areCounts 406 = .ok (.iload 12, 2) := by decide +kernel
theorem dL_areCounts_408 : decode cL_areCounts 408 = .ok (.iload 20, 2) := by decide +kernel
theorem dL_areCounts_410 : decode cL_areCounts 410 = .ok (.sipush 1000, 3) := by decide +kernel
theorem dL_areCounts_413 : decode cL_areCounts 413 = .ok (.aload_n 2, 1) := by decide +kernel
theorem dL_areCounts_414 : decode cL_areCounts 414 = .ok (.aload_n 3, 1) := by decide +kernel
theorem dL_areCounts_415 : decode cL_areCounts 415 = .ok (.aload 4, 2) := by decide +kernel
theorem dL_areCounts_417 : decode cL_areCounts 417 = .ok (.invokestatic 35, 3) := by decide +kernel
theorem dL_areCounts_420 : decode cL_areCounts 420 = .ok (.iadd, 1) := by decide +kernel
theorem dL_areCounts_421 : decode cL_areCounts 421 = .ok (.istore 12, 2) := by decide +kernel
theorem dL_areCounts_423 : decode cL_areCounts 423 = .ok (.aload 5, 2) := by decide +kernel
theorem dL_areCounts_425 : decode cL_areCounts 425 = .ok (.iload 20, 2) := by decide +kernel
theorem dL_areCounts_427 : decode cL_areCounts 427 = .ok (.iaload, 1) := by decide +kernel
theorem dL_areCounts_428 : decode cL_areCounts 428 = .ok (.ifCond .le 26, 3) := by decide +kernel
theorem dL_areCounts_431 : decode cL_areCounts 431 = .ok (.iload 19, 2) := by decide +kernel
theorem dL_areCounts_433 : decode cL_areCounts 433 = .ok (.ifCond .lt 16, 3) := by decide +kernel
theorem dL_areCounts_436 : decode cL_areCounts 436 = .ok (.aload 5, 2) := by decide +kernel
theorem dL_areCounts_438 : decode cL_areCounts 438 = .ok (.iload 20, 2) := by decide +kernel
theorem dL_areCounts_440 : decode cL_areCounts 440 = .ok (.iaload, 1) := by decide +kernel
theorem dL_areCounts_441 : decode cL_areCounts 441 = .ok (.aload 5, 2) := by decide +kernel
theorem dL_areCounts_443 : decode cL_areCounts 443 = .ok (.iload 19, 2) := by decide +kernel
theorem dL_areCounts_445 : decode cL_areCounts 445 = .ok (.iaload, 1) := by decide +kernel
theorem dL_areCounts_446 : decode cL_areCounts 446 = .ok (.if_icmp .le 8, 3) := by decide +kernel
theorem dL_areCounts_449 : decode cL_areCounts 449 = .ok (.iload 20, 2) := by decide +kernel
theorem dL_areCounts_451 : decode cL_areCounts 451 = .ok (.goto 5, 3) := by decide +kernel
theorem dL_areCounts_454 : decode cL_areCounts 454 = .ok (.iload 19, 2) := by decide +kernel
theorem dL_areCounts_456 : decode cL_areCounts 456 = .ok (.istore 19, 2) := by decide +kernel
theorem dL_areCounts_458 : decode cL_areCounts 458 = .ok (.iinc 20 1, 3) := by decide +kernel
theorem dL_areCounts_461 : decode cL_areCounts 461 = .ok (.goto (-80), 3) := by decide +kernel
theorem dL_areCounts_464 : decode cL_areCounts 464 = .ok (.iconst 0, 1) := by decide +kernel
theorem dL_areCounts_465 : decode cL_areCounts 465 = .ok (.istore 20, 2) := by decide +kernel
theorem dL_areCounts_467 : decode cL_areCounts 467 = .ok (.iload 20, 2) := by decide +kernel
theorem dL_areCounts_469 : decode cL_areCounts 469 = .ok (.bipush 6, 2) := by decide +kernel
theorem dL_areCounts_471 : decode cL_areCounts 471 = .ok (.if_icmp .ge 24, 3) := by decide +kernel
theorem dL_areCounts_474 : decode cL_areCounts 474 = .ok (.aload_n 0, 1) := by decide +kernel
theorem dL_areCounts_475 : decode cL_areCounts 475 = .ok (.iload 20, 2) := by decide +kernel
theorem dL_areCounts_477 : decode cL_areCounts 477 = .ok (.invokevirtual 62, 3) := by decide +kernel
theorem dL_areCounts_480 : decode cL_areCounts 480 = .ok (.aload_n 2, 1) := by decide +kernel
theorem dL_areCounts_481 : decode cL_areCounts 481 = .ok (.iload 20, 2) := by decide +kernel
theorem dL_areCounts_483 : decode cL_areCounts 483 = .ok (.iaload, 1) := by decide +kernel
theorem dL_areCounts_484 : decode cL_areCounts 484 = .ok (.if_icmp .eq 5, 3) := by decide +kernel
theorem dL_areCounts_487 : decode cL_areCounts 487 = .ok (.iconst 0, 1) := by decide +kernel
theorem dL_areCounts_488 : decode cL_areCounts 488 = .ok (.ireturn, 1) := by decide +kernel
theorem dL_areCounts_489 : decode cL_areCounts 489 = .ok (.iinc 20 1, 3) := by decide +kernel
theorem dL_areCounts_492 : decode cL_areCounts 492 = .ok (.goto (-25), 3) := by decide +kernel
theorem dL_areCounts_495 : decode cL_areCounts 495 = .ok (.aload_n 0, 1) := by decide +kernel
theorem dL_areCounts_496 : decode cL_areCounts 496 = .ok (.bipush 6, 2) := by decide +kernel
theorem dL_areCounts_498 : decode cL_areCounts 498 = .ok (.invokevirtual 62, 3) := by decide +kernel
theorem dL_areCounts_501 : decode cL_areCounts 501 = .ok (.iload 6, 2) := by decide +kernel
theorem dL_areCounts_503 : decode cL_areCounts 503 = .ok (.if_icmp .ne 122, 3) := by decide +kernel
theorem dL_areCounts_506 : decode cL_areCounts 506 = .ok (.aload_n 0, 1) := by decide +kernel
theorem dL_areCounts_507 : decode cL_areCounts 507 = .ok (.bipush 7, 2) := by decide +kernel
theorem dL_areCounts_509 : decode cL_areCounts 509 = .ok (.invokevirtual 62, 3) := by decide +kernel
theorem dL_areCounts_512 : decode cL_areCounts 512 = .ok (.iload 7, 2) := by decide +kernel
theorem dL_areCounts_514 : decode cL_areCounts 514 = .ok (.if_icmp .ne 111, 3) := by decide +kernel
theorem dL_areCounts_517 : decode cL_areCounts 517 = .ok (.aload_n 0, 1) := by decide +kernel
theorem dL_areCounts_518 : decode cL_areCounts 518 = .ok (.bipush 8, 2) := by decide +kernel
theorem dL_areCounts_520 : decode cL_areCounts 520 = .ok (.invokevirtual 62, 3) := by decide +kernel
theorem dL_areCounts_523 : decode cL_areCounts 523 = .ok (.iload 8, 2) := by decide +kernel
theorem dL_areCounts_525 : decode cL_areCounts 525 = .ok (.if_icmp .ne 100, 3) := by decide +kernel
theorem dL_areCounts_528 : decode cL_areCounts 528 = .ok (.aload_n 0, 1) := by decide +kernel
theorem dL_areCounts_529 : decode cL_areCounts 529 = .ok (.bipush 9, 2) := by decide +kernel
theorem dL_areCounts_531 : decode cL_areCounts 531 = .ok (.invokevirtual 62, 3) := by decide +kernel
theorem dL_areCounts_534 : decode cL_areCounts 534 = .ok (.iload 9, 2) := by decide +kernel
theorem dL_areCounts_536 : decode cL_areCounts 536 = .ok (.if_icmp .ne 89, 3) := by decide +kernel
theorem dL_areCounts_539 : decode cL_areCounts 539 = .ok (.aload_n 0, 1) := by decide +kernel
theorem dL_areCounts_540 : decode cL_areCounts 540 = .ok (.bipush 10, 2) := by decide +kernel
theorem dL_areCounts_542 : decode cL_areCounts 542 = .ok (.invokevirtual 62, 3) := by decide +kernel
theorem dL_areCounts_545 : decode cL_areCounts 545 = .ok (.iload 10, 2) := by decide +kernel
theorem dL_areCounts_547 : decode cL_areCounts 547 = .ok (.if_icmp .ne 78, 3) := by decide +kernel
theorem dL_areCounts_550 : decode cL_areCounts 550 = .ok (.aload_n 0, 1) := by decide +kernel
theorem dL_areCounts_551 : decode cL_areCounts 551 = .ok (.bipush 11, 2) := by decide +kernel
theorem dL_areCounts_553 : decode cL_areCounts 553 = .ok (.invokevirtual 62, 3) := by decide +kernel
theorem dL_areCounts_556 : decode cL_areCounts 556 = .ok (.iload 11, 2) := by decide +kernel
theorem dL_areCounts_558 : decode cL_areCounts 558 = .ok (.if_icmp .ne 67, 3) := by decide +kernel
theorem dL_areCounts_561 : decode cL_areCounts 561 = .ok (.aload_n 0, 1) := by decide +kernel
theorem dL_areCounts_562 : decode cL_areCounts 562 = .ok (.bipush 12, 2) := by decide +kernel
theorem dL_areCounts_564 : decode cL_areCounts 564 = .ok (.invokevirtual 62, 3) := by decide +kernel
theorem dL_areCounts_567 : decode cL_areCounts 567 = .ok (.iload 12, 2) := by decide +kernel
theorem dL_areCounts_569 : decode cL_areCounts 569 = .ok (.if_icmp .ne 56, 3) := by decide +kernel
theorem dL_areCounts_572 : decode cL_areCounts 572 = .ok (.aload_n 0, 1) := by decide +kernel
theorem dL_areCounts_573 : decode cL_areCounts 573 = .ok (.bipush 13, 2) := by decide +kernel
theorem dL_areCounts_575 : decode cL_areCounts 575 = .ok (.invokevirtual 62, 3) := by decide +kernel
theorem dL_areCounts_578 : decode cL_areCounts 578 = .ok (.iload 13, 2) := by decide +kernel
theorem dL_areCounts_580 : decode cL_areCounts 580 = .ok (.if_icmp .ne 45, 3) := by decide +kernel
theorem dL_areCounts_583 : decode cL_areCounts 583 = .ok (.aload_n 0, 1) := by decide +kernel
theorem dL_areCounts_584 : decode cL_areCounts 584 = .ok (.iload 14, 2) := by decide +kernel
theorem dL_areCounts_586 : decode cL_areCounts 586 = .ok (.invokevirtual 65, 3) := by decide +kernel
theorem dL_areCounts_589 : decode cL_areCounts 589 = .ok (.iload 15, 2) := by decide +kernel
theorem dL_areCounts_591 : decode cL_areCounts 591 = .ok (.if_icmp .ne 34, 3) := by decide +kernel
theorem dL_areCounts_594 : decode cL_areCounts 594 = .ok (.aload_n 0, 1) := by decide +kernel
theorem dL_areCounts_595 : decode cL_areCounts 595 = .ok (.invokevirtual 68, 3) := by decide +kernel
theorem dL_areCounts_598 : decode cL_areCounts 598 = .ok (.iload 19, 2) := by decide +kernel
theorem dL_areCounts_600 : decode cL_areCounts 600 = .ok (.if_icmp .ne 25, 3) := by decide +kernel
theorem dL_areCounts_603 : decode cL_areCounts 603 = .ok (.iload 10, 2) := by decide +kernel
theorem dL_areCounts_605 : decode cL_areCounts 605 = .ok (.iload 11, 2) := by decide +kernel
theorem dL_areCounts_607 : decode cL_areCounts 607 = .ok (.aload_n 2, 1) := by decide +kernel
theorem dL_areCounts_608 : decode cL_areCounts 608 = .ok (.iconst 3, 1) := by decide +kernel
theorem dL_areCounts_609 : decode cL_areCounts 609 = .ok (.iaload, 1) := by decide +kernel
theorem dL_areCounts_610 : decode cL_areCounts 610 = .ok (.imul, 1) := by decide +kernel
theorem dL_areCounts_611 : decode cL_areCounts 611 = .ok (.iload 12, 2) := by decide +kernel
theorem dL_areCounts_613 : decode cL_areCounts 613 = .ok (.aload_n 2, 1) := by decide +kernel
theorem dL_areCounts_614 : decode cL_areCounts 614 = .ok (.iconst 4, 1) := by decide +kernel
theorem dL_areCounts_615 : decode cL_areCounts 615 = .ok (.iaload, 1) := by decide +kernel
theorem dL_areCounts_616 : decode cL_areCounts 616 = .ok (.imul, 1) := by decide +kernel
theorem dL_areCounts_617 : decode cL_areCounts 617 = .ok (.iadd, 1) := by decide +kernel
theorem dL_areCounts_618 : decode cL_areCounts 618 = .ok (.if_icmp .ne 7, 3) := by decide +kernel
theorem dL_areCounts_621 : decode cL_areCounts 621 = .ok (.iconst 1, 1) := by decide +kernel
theorem dL_areCounts_622 : decode cL_areCounts 622 = .ok (.goto 4, 3) := by decide +kernel
theorem dL_areCounts_625 : decode cL_areCounts 625 = .ok (.iconst 0, 1) := by decide +kernel
theorem dL_areCounts_626 : decode cL_areCounts 626 = .ok (.istore 20, 2) := by decide +kernel
theorem dL_areCounts_628 : decode cL_areCounts 628 = .ok (.iload 20, 2) := by decide +kernel
theorem dL_areCounts_630 : decode cL_areCounts 630 = .ok (.ifCond .eq 94, 3) := by decide +kernel
theorem dL_areCounts_633 : decode cL_areCounts 633 = .ok (.aload_n 0, 1) := by decide +kernel
theorem dL_areCounts_634 : decode cL_areCounts 634 = .ok (.iload 16, 2) := by decide +kernel
theorem dL_areCounts_636 : decode cL_areCounts 636 = .ok (.iconst 0, 1) := by decide +kernel
theorem dL_areCounts_637 : decode cL_areCounts 637 = .ok (.invokevirtual 72, 3) := by decide +kernel
theorem dL_areCounts_640 : decode cL_areCounts 640 = .ok (.aload_n 2, 1) := by decide +kernel
theorem dL_areCounts_641 : decode cL_areCounts 641 = .ok (.bipush 6, 2) := by decide +kernel
theorem dL_areCounts_643 : decode cL_areCounts 643 = .ok (.iload 16, 2) := by decide +kernel
theorem dL_areCounts_645 : decode cL_areCounts 645 = .ok (.iadd, 1) := by decide +kernel
theorem dL_areCounts_646 : decode cL_areCounts 646 = .ok (.iaload, 1) := by decide +kernel
theorem dL_areCounts_647 : decode cL_areCounts 647 = .ok (.if_icmp .ne 77, 3) := by decide +kernel
theorem dL_areCounts_650 : decode cL_areCounts 650 = .ok (.aload_n 0, 1) := by decide +kernel
theorem dL_areCounts_651 : decode cL_areCounts 651 = .ok (.iload 16, 2) := by decide +kernel
theorem dL_areCounts_653 : decode cL_areCounts 653 = .ok (.iconst 1, 1) := by decide +kernel
theorem dL_areCounts_654 : decode cL_areCounts 654 = .ok (.invokevirtual 72, 3) := by decide +kernel
theorem dL_areCounts_657 : decode cL_areCounts 657 = .ok (.aload_n 2, 1) := by decide +kernel
theorem dL_areCounts_658 : decode cL_areCounts 658 = .ok (.bipush 12, 2) := by decide +kernel
theorem dL_areCounts_660 : decode cL_areCounts 660 = .ok (.iload 16, 2) := by decide +kernel
theorem dL_areCounts_662 : decode cL_areCounts 662 = .ok (.iadd, 1) := by decide +kernel
theorem dL_areCounts_663 : decode cL_areCounts 663 = .ok (.iaload, 1) := by decide +kernel
theorem dL_areCounts_664 : decode cL_areCounts 664 = .ok (.if_icmp .ne 60, 3) := by decide +kernel
theorem dL_areCounts_667 : decode cL_areCounts 667 = .ok (.aload_n 0, 1) := by decide +kernel
theorem dL_areCounts_668 : decode cL_areCounts 668 = .ok (.iload 16, 2) := by decide +kernel
theorem dL_areCounts_670 : decode cL_areCounts 670 = .ok (.iconst 2, 1) := by decide +kernel
theorem dL_areCounts_671 : decode cL_areCounts 671 = .ok (.invokevirtual 72, 3) := by decide +kernel
theorem dL_areCounts_674 : decode cL_areCounts 674 = .ok (.aload_n 2, 1) := by decide +kernel
theorem dL_areCounts_675 : decode cL_areCounts 675 = .ok (.bipush 6, 2) := by decide +kernel
theorem dL_areCounts_677 : decode cL_areCounts 677 = .ok (.iload 16, 2) := by decide +kernel
theorem dL_areCounts_679 : decode cL_areCounts 679 = .ok (.iadd, 1) := by decide +kernel
theorem dL_areCounts_680 : decode cL_areCounts 680 = .ok (.iaload, 1) := by decide +kernel
theorem dL_areCounts_681 : decode cL_areCounts 681 = .ok (.aload_n 2, 1) := by decide +kernel
theorem dL_areCounts_682 : decode cL_areCounts 682 = .ok (.bipush 12, 2) := by decide +kernel
theorem dL_areCounts_684 : decode cL_areCounts 684 = .ok (.iload 16, 2) := by decide +kernel
theorem dL_areCounts_686 : decode cL_areCounts 686 = .ok (.iadd, 1) := by decide +kernel
theorem dL_areCounts_687 : decode cL_areCounts 687 = .ok (.iaload, 1) := by decide +kernel
theorem dL_areCounts_688 : decode cL_areCounts 688 = .ok (.iadd, 1) := by decide +kernel
theorem dL_areCounts_689 : decode cL_areCounts 689 = .ok (.aload_n 2, 1) := by decide +kernel
theorem dL_areCounts_690 : decode cL_areCounts 690 = .ok (.iconst 0, 1) := by decide +kernel
theorem dL_areCounts_691 : decode cL_areCounts 691 = .ok (.iaload, 1) := by decide +kernel
theorem dL_areCounts_692 : decode cL_areCounts 692 = .ok (.iadd, 1) := by decide +kernel
theorem dL_areCounts_693 : decode cL_areCounts 693 = .ok (.if_icmp .ne 31, 3) := by decide +kernel
theorem dL_areCounts_696 : decode cL_areCounts 696 = .ok (.aload_n 0, 1) := by decide +kernel
theorem dL_areCounts_697 : decode cL_areCounts 697 = .ok (.iload 16, 2) := by decide +kernel
theorem dL_areCounts_699 : decode cL_areCounts 699 = .ok (.iconst 3, 1) := by decide +kernel
theorem dL_areCounts_700 : decode cL_areCounts 700 = .ok (.invokevirtual 72, 3) := by decide +kernel
theorem dL_areCounts_703 : decode cL_areCounts 703 = .ok (.iload 17, 2) := by decide +kernel
theorem dL_areCounts_705 : decode cL_areCounts 705 = .ok (.if_icmp .ne 19, 3) := by decide +kernel
theorem dL_areCounts_708 : decode cL_areCounts 708 = .ok (.aload_n 0, 1) := by decide +kernel
theorem dL_areCounts_709 : decode cL_areCounts 709 = .ok (.iload 16, 2) := by decide +kernel
theorem dL_areCounts_711 : decode cL_areCounts 711 = .ok (.iconst 4, 1) := by decide +kernel
theorem dL_areCounts_712 : decode cL_areCounts 712 = .ok (.invokevirtual 72, 3) := by decide +kernel
theorem dL_areCounts_715 : decode cL_areCounts 715 = .ok (.iload 18, 2) := by decide +kernel
theorem dL_areCounts_717 : decode cL_areCounts 717 = .ok (.if_icmp .ne 7, 3) := by decide +kernel
theorem dL_areCounts_720 : decode cL_areCounts 720 = .ok (.iconst 1, 1) := by decide +kernel
theorem dL_areCounts_721 : decode cL_areCounts 721 = .ok (.goto 4, 3) := by decide +kernel
theorem dL_areCounts_724 : decode cL_areCounts 724 = .ok (.iconst 0, 1) := by decide +kernel
theorem dL_areCounts_725 : decode cL_areCounts 725 = .ok (.ireturn, 1) := by decide +kernel
theorem dL_told_0 : decode cL_told 0 = .ok (.ldc2_w 75, 3) := by decide +kernel
theorem dL_told_3 : decode cL_told 3 = .ok (.lstore_n 1, 1) := by decide +kernel
theorem dL_told_4 : decode cL_told 4 = .ok (.iconst 0, 1) := by decide +kernel
theorem dL_told_5 : decode cL_told 5 = .ok (.istore_n 3, 1) := by decide +kernel
theorem dL_told_6 : decode cL_told 6 = .ok (.iload_n 3, 1) := by decide +kernel
theorem dL_told_7 : decode cL_told 7 = .ok (.bipush 14, 2) := by decide +kernel
theorem dL_told_9 : decode cL_told 9 = .ok (.if_icmp .ge 22, 3) := by decide +kernel
theorem dL_told_12 : decode cL_told 12 = .ok (.ldc2_w 77, 3) := by decide +kernel
theorem dL_told_15 : decode cL_told 15 = .ok (.lload_n 1, 1) := by decide +kernel
theorem dL_told_16 : decode cL_told 16 = .ok (.lmul, 1) := by decide +kernel
theorem dL_told_17 : decode cL_told 17 = .ok (.aload_n 0, 1) := by decide +kernel
theorem dL_told_18 : decode cL_told 18 = .ok (.iload_n 3, 1) := by decide +kernel
theorem dL_told_19 : decode cL_told 19 = .ok (.invokevirtual 62, 3) := by decide +kernel
theorem dL_told_22 : decode cL_told 22 = .ok (.i2l, 1) := by decide +kernel
theorem dL_told_23 : decode cL_told 23 = .ok (.ladd, 1) := by decide +kernel
theorem dL_told_24 : decode cL_told 24 = .ok (.lstore_n 1, 1) := by decide +kernel
theorem dL_told_25 : decode cL_told 25 = .ok (.iinc 3 1, 3) := by decide +kernel
theorem dL_told_28 : decode cL_told 28 = .ok (.goto (-22), 3) := by decide +kernel
theorem dL_told_31 : decode cL_told 31 = .ok (.iconst 0, 1) := by decide +kernel
theorem dL_told_32 : decode cL_told 32 = .ok (.istore_n 3, 1) := by decide +kernel
theorem dL_told_33 : decode cL_told 33 = .ok (.iload_n 3, 1) := by decide +kernel
theorem dL_told_34 : decode cL_told 34 = .ok (.bipush 24, 2) := by decide +kernel
theorem dL_told_36 : decode cL_told 36 = .ok (.if_icmp .ge 73, 3) := by decide +kernel
theorem dL_told_39 : decode cL_told 39 = .ok (.ldc2_w 77, 3) := by decide +kernel
theorem dL_told_42 : decode cL_told 42 = .ok (.lload_n 1, 1) := by decide +kernel
theorem dL_told_43 : decode cL_told 43 = .ok (.lmul, 1) := by decide +kernel
theorem dL_told_44 : decode cL_told 44 = .ok (.ldc2_w 79, 3) := by decide +kernel
theorem dL_told_47 : decode cL_told 47 = .ok (.aload_n 0, 1) := by decide +kernel
theorem dL_told_48 : decode cL_told 48 = .ok (.iload_n 3, 1) := by decide +kernel
theorem dL_told_49 : decode cL_told 49 = .ok (.iconst 0, 1) := by decide +kernel
theorem dL_told_50 : decode cL_told 50 = .ok (.invokevirtual 39, 3) := by decide +kernel
theorem dL_told_53 : decode cL_told 53 = .ok (.i2l, 1) := by decide +kernel
theorem dL_told_54 : decode cL_told 54 = .ok (.lmul, 1) := by decide +kernel
theorem dL_told_55 : decode cL_told 55 = .ok (.ladd, 1) := by decide +kernel
theorem dL_told_56 : decode cL_told 56 = .ok (.ldc2_w 81, 3) := by decide +kernel
theorem dL_told_59 : decode cL_told 59 = .ok (.aload_n 0, 1) := by decide +kernel
theorem dL_told_60 : decode cL_told 60 = .ok (.iload_n 3, 1) := by decide +kernel
theorem dL_told_61 : decode cL_told 61 = .ok (.iconst 1, 1) := by decide +kernel
theorem dL_told_62 : decode cL_told 62 = .ok (.invokevirtual 39, 3) := by decide +kernel
theorem dL_told_65 : decode cL_told 65 = .ok (.i2l, 1) := by decide +kernel
theorem dL_told_66 : decode cL_told 66 = .ok (.lmul, 1) := by decide +kernel
theorem dL_told_67 : decode cL_told 67 = .ok (.ladd, 1) := by decide +kernel
theorem dL_told_68 : decode cL_told 68 = .ok (.aload_n 0, 1) := by decide +kernel
theorem dL_told_69 : decode cL_told 69 = .ok (.iload_n 3, 1) := by decide +kernel
theorem dL_told_70 : decode cL_told 70 = .ok (.iconst 2, 1) := by decide +kernel
theorem dL_told_71 : decode cL_told 71 = .ok (.invokevirtual 39, 3) := by decide +kernel
theorem dL_told_74 : decode cL_told 74 = .ok (.i2l, 1) := by decide +kernel
theorem dL_told_75 : decode cL_told 75 = .ok (.ladd, 1) := by decide +kernel
theorem dL_told_76 : decode cL_told 76 = .ok (.lstore_n 1, 1) := by decide +kernel
theorem dL_told_77 : decode cL_told 77 = .ok (.ldc2_w 77, 3) := by decide +kernel
theorem dL_told_80 : decode cL_told 80 = .ok (.lload_n 1, 1) := by decide +kernel
theorem dL_told_81 : decode cL_told 81 = .ok (.lmul, 1) := by decide +kernel
theorem dL_told_82 : decode cL_told 82 = .ok (.ldc2_w 81, 3) := by decide +kernel
theorem dL_told_85 : decode cL_told 85 = .ok (.aload_n 0, 1) := by decide +kernel
theorem dL_told_86 : decode cL_told 86 = .ok (.iload_n 3, 1) := by decide +kernel
theorem dL_told_87 : decode cL_told 87 = .ok (.iconst 3, 1) := by decide +kernel
theorem dL_told_88 : decode cL_told 88 = .ok (.invokevirtual 39, 3) := by decide +kernel
theorem dL_told_91 : decode cL_told 91 = .ok (.i2l, 1) := by decide +kernel
theorem dL_told_92 : decode cL_told 92 = .ok (.lmul, 1) := by decide +kernel
theorem dL_told_93 : decode cL_told 93 = .ok (.ladd, 1) := by decide +kernel
theorem dL_told_94 : decode cL_told 94 = .ok (.aload_n 0, 1) := by decide +kernel
theorem dL_told_95 : decode cL_told 95 = .ok (.iload_n 3, 1) := by decide +kernel
theorem dL_told_96 : decode cL_told 96 = .ok (.iconst 5, 1) := by decide +kernel
theorem dL_told_97 : decode cL_told 97 = .ok (.invokevirtual 39, 3) := by decide +kernel
theorem dL_told_100 : decode cL_told 100 = .ok (.i2l, 1) := by decide +kernel
theorem dL_told_101 : decode cL_told 101 = .ok (.ladd, 1) := by decide +kernel
theorem dL_told_102 : decode cL_told 102 = .ok (.lstore_n 1, 1) := by decide +kernel
theorem dL_told_103 : decode cL_told 103 = .ok (.iinc 3 1, 3) := by decide +kernel
theorem dL_told_106 : decode cL_told 106 = .ok (.goto (-73), 3) := by decide +kernel
theorem dL_told_109 : decode cL_told 109 = .ok (.iconst 0, 1) := by decide +kernel
theorem dL_told_110 : decode cL_told 110 = .ok (.istore_n 3, 1) := by decide +kernel
theorem dL_told_111 : decode cL_told 111 = .ok (.iload_n 3, 1) := by decide +kernel
theorem dL_told_112 : decode cL_told 112 = .ok (.bipush 8, 2) := by decide +kernel
theorem dL_told_114 : decode cL_told 114 = .ok (.if_icmp .ge 35, 3) := by decide +kernel
theorem dL_told_117 : decode cL_told 117 = .ok (.ldc2_w 77, 3) := by decide +kernel
theorem dL_told_120 : decode cL_told 120 = .ok (.lload_n 1, 1) := by decide +kernel
theorem dL_told_121 : decode cL_told 121 = .ok (.lmul, 1) := by decide +kernel
theorem dL_told_122 : decode cL_told 122 = .ok (.ldc2_w 83, 3) := by decide +kernel
theorem dL_told_125 : decode cL_told 125 = .ok (.aload_n 0, 1) := by decide +kernel
theorem dL_told_126 : decode cL_told 126 = .ok (.iload_n 3, 1) := by decide +kernel
theorem dL_told_127 : decode cL_told 127 = .ok (.iconst 0, 1) := by decide +kernel
theorem dL_told_128 : decode cL_told 128 = .ok (.invokevirtual 52, 3) := by decide +kernel
theorem dL_told_131 : decode cL_told 131 = .ok (.i2l, 1) := by decide +kernel
theorem dL_told_132 : decode cL_told 132 = .ok (.lmul, 1) := by decide +kernel
theorem dL_told_133 : decode cL_told 133 = .ok (.ladd, 1) := by decide +kernel
theorem dL_told_134 : decode cL_told 134 = .ok (.aload_n 0, 1) := by decide +kernel
theorem dL_told_135 : decode cL_told 135 = .ok (.iload_n 3, 1) := by decide +kernel
theorem dL_told_136 : decode cL_told 136 = .ok (.iconst 1, 1) := by decide +kernel
theorem dL_told_137 : decode cL_told 137 = .ok (.invokevirtual 52, 3) := by decide +kernel
theorem dL_told_140 : decode cL_told 140 = .ok (.i2l, 1) := by decide +kernel
theorem dL_told_141 : decode cL_told 141 = .ok (.ladd, 1) := by decide +kernel
theorem dL_told_142 : decode cL_told 142 = .ok (.lstore_n 1, 1) := by decide +kernel
theorem dL_told_143 : decode cL_told 143 = .ok (.iinc 3 1, 3) := by decide +kernel
theorem dL_told_146 : decode cL_told 146 = .ok (.goto (-35), 3) := by decide +kernel
theorem dL_told_149 : decode cL_told 149 = .ok (.iconst 0, 1) := by decide +kernel
theorem dL_told_150 : decode cL_told 150 = .ok (.istore_n 3, 1) := by decide +kernel
theorem dL_told_151 : decode cL_told 151 = .ok (.iload_n 3, 1) := by decide +kernel
theorem dL_told_152 : decode cL_told 152 = .ok (.bipush 6, 2) := by decide +kernel
theorem dL_told_154 : decode cL_told 154 = .ok (.if_icmp .ge 35, 3) := by decide +kernel
theorem dL_told_157 : decode cL_told 157 = .ok (.ldc2_w 77, 3) := by decide +kernel
theorem dL_told_160 : decode cL_told 160 = .ok (.lload_n 1, 1) := by decide +kernel
theorem dL_told_161 : decode cL_told 161 = .ok (.lmul, 1) := by decide +kernel
theorem dL_told_162 : decode cL_told 162 = .ok (.ldc2_w 83, 3) := by decide +kernel
theorem dL_told_165 : decode cL_told 165 = .ok (.aload_n 0, 1) := by decide +kernel
theorem dL_told_166 : decode cL_told 166 = .ok (.iload_n 3, 1) := by decide +kernel
theorem dL_told_167 : decode cL_told 167 = .ok (.iconst 0, 1) := by decide +kernel
theorem dL_told_168 : decode cL_told 168 = .ok (.invokevirtual 72, 3) := by decide +kernel
theorem dL_told_171 : decode cL_told 171 = .ok (.i2l, 1) := by decide +kernel
theorem dL_told_172 : decode cL_told 172 = .ok (.lmul, 1) := by decide +kernel
theorem dL_told_173 : decode cL_told 173 = .ok (.ladd, 1) := by decide +kernel
theorem dL_told_174 : decode cL_told 174 = .ok (.aload_n 0, 1) := by decide +kernel
theorem dL_told_175 : decode cL_told 175 = .ok (.iload_n 3, 1) := by decide +kernel
theorem dL_told_176 : decode cL_told 176 = .ok (.iconst 1, 1) := by decide +kernel
theorem dL_told_177 : decode cL_told 177 = .ok (.invokevirtual 72, 3) := by decide +kernel
theorem dL_told_180 : decode cL_told 180 = .ok (.i2l, 1) := by decide +kernel
theorem dL_told_181 : decode cL_told 181 = .ok (.ladd, 1) := by decide +kernel
theorem dL_told_182 : decode cL_told 182 = .ok (.lstore_n 1, 1) := by decide +kernel
theorem dL_told_183 : decode cL_told 183 = .ok (.iinc 3 1, 3) := by decide +kernel
theorem dL_told_186 : decode cL_told 186 = .ok (.goto (-35), 3) := by decide +kernel
theorem dL_told_189 : decode cL_told 189 = .ok (.lload_n 1, 1) := by decide +kernel
theorem dL_told_190 : decode cL_told 190 = .ok (.lreturn, 1) := by decide +kernel
theorem dL_call_0 : decode cL_call 0 = .ok (.iload_n 1, 1) := by decide +kernel
theorem dL_call_1 : decode cL_call 1 = .ok (.tableswitch 86 0 5 #[39, 46, 53, 60, 69, 80], 39) := by decide +kernel
theorem dL_call_40 : decode cL_call 40 = .ok (.aload_n 0, 1) := by decide +kernel
theorem dL_call_41 : decode cL_call 41 = .ok (.iload_n 2, 1) := by decide +kernel
theorem dL_call_42 : decode cL_call 42 = .ok (.iload_n 3, 1) := by decide +kernel
theorem dL_call_43 : decode cL_call 43 = .ok (.invokevirtual 85, 3) := by decide +kernel
theorem dL_call_46 : decode cL_call 46 = .ok (.ireturn, 1) := by decide +kernel
theorem dL_call_47 : decode cL_call 47 = .ok (.aload_n 0, 1) := by decide +kernel
theorem dL_call_48 : decode cL_call 48 = .ok (.iload_n 2, 1) := by decide +kernel
theorem dL_call_49 : decode cL_call 49 = .ok (.iload_n 3, 1) := by decide +kernel
theorem dL_call_50 : decode cL_call 50 = .ok (.invokevirtual 88, 3) := by decide +kernel
theorem dL_call_53 : decode cL_call 53 = .ok (.ireturn, 1) := by decide +kernel
theorem dL_call_54 : decode cL_call 54 = .ok (.aload_n 0, 1) := by decide +kernel
theorem dL_call_55 : decode cL_call 55 = .ok (.iload_n 2, 1) := by decide +kernel
theorem dL_call_56 : decode cL_call 56 = .ok (.iload_n 3, 1) := by decide +kernel
theorem dL_call_57 : decode cL_call 57 = .ok (.invokevirtual 91, 3) := by decide +kernel
theorem dL_call_60 : decode cL_call 60 = .ok (.ireturn, 1) := by decide +kernel
theorem dL_call_61 : decode cL_call 61 = .ok (.aload_n 0, 1) := by decide +kernel
theorem dL_call_62 : decode cL_call 62 = .ok (.iload_n 2, 1) := by decide +kernel
theorem dL_call_63 : decode cL_call 63 = .ok (.iload_n 3, 1) := by decide +kernel
theorem dL_call_64 : decode cL_call 64 = .ok (.iload 4, 2) := by decide +kernel
theorem dL_call_66 : decode cL_call 66 = .ok (.invokevirtual 94, 3) := by decide +kernel
theorem dL_call_69 : decode cL_call 69 = .ok (.ireturn, 1) := by decide +kernel
theorem dL_call_70 : decode cL_call 70 = .ok (.aload_n 0, 1) := by decide +kernel
theorem dL_call_71 : decode cL_call 71 = .ok (.iload_n 2, 1) := by decide +kernel
theorem dL_call_72 : decode cL_call 72 = .ok (.iload_n 3, 1) := by decide +kernel
theorem dL_call_73 : decode cL_call 73 = .ok (.iload 4, 2) := by decide +kernel
theorem dL_call_75 : decode cL_call 75 = .ok (.iload 5, 2) := by decide +kernel
theorem dL_call_77 : decode cL_call 77 = .ok (.invokevirtual 97, 3) := by decide +kernel
theorem dL_call_80 : decode cL_call 80 = .ok (.ireturn, 1) := by decide +kernel
theorem dL_call_81 : decode cL_call 81 = .ok (.aload_n 0, 1) := by decide +kernel
theorem dL_call_82 : decode cL_call 82 = .ok (.iload_n 2, 1) := by decide +kernel
theorem dL_call_83 : decode cL_call 83 = .ok (.invokevirtual 101, 3) := by decide +kernel
theorem dL_call_86 : decode cL_call 86 = .ok (.ireturn, 1) := by decide +kernel
theorem dL_call_87 : decode cL_call 87 = .ok (.aload_n 0, 1) := by decide +kernel
theorem dL_call_88 : decode cL_call 88 = .ok (.iload_n 2, 1) := by decide +kernel
theorem dL_call_89 : decode cL_call 89 = .ok (.iload_n 3, 1) := by decide +kernel
theorem dL_call_90 : decode cL_call 90 = .ok (.invokevirtual 104, 3) := by decide +kernel
theorem dL_call_93 : decode cL_call 93 = .ok (.ireturn, 1) := by decide +kernel
theorem dL_due_0 : decode cL_due 0 = .ok (.iload_n 0, 1) := by decide +kernel
theorem dL_due_1 : decode cL_due 1 = .ok (.ifCond .ne 10, 3) := by decide +kernel
theorem dL_due_4 : decode cL_due 4 = .ok (.aload 5, 2) := by decide +kernel
theorem dL_due_6 : decode cL_due 6 = .ok (.iload_n 1, 1) := by decide +kernel
theorem dL_due_7 : decode cL_due 7 = .ok (.iaload, 1) := by decide +kernel
theorem dL_due_8 : decode cL_due 8 = .ok (.goto 19, 3) := by decide +kernel
theorem dL_due_11 : decode cL_due 11 = .ok (.iload_n 0, 1) := by decide +kernel
theorem dL_due_12 : decode cL_due 12 = .ok (.iconst 1, 1) := by decide +kernel
theorem dL_due_13 : decode cL_due 13 = .ok (.if_icmp .ne 13, 3) := by decide +kernel
theorem dL_due_16 : decode cL_due 16 = .ok (.aload 5, 2) := by decide +kernel
theorem dL_due_18 : decode cL_due 18 = .ok (.bipush 6, 2) := by decide +kernel
theorem dL_due_20 : decode cL_due 20 = .ok (.iload_n 1, 1) := by decide +kernel
theorem dL_due_21 : decode cL_due 21 = .ok (.iadd, 1) := by decide +kernel
theorem dL_due_22 : decode cL_due 22 = .ok (.iaload, 1) := by decide +kernel
theorem dL_due_23 : decode cL_due 23 = .ok (.goto 4, 3) := by decide +kernel
theorem dL_due_26 : decode cL_due 26 = .ok (.iconst 0, 1) := by decide +kernel
theorem dL_due_27 : decode cL_due 27 = .ok (.istore 10, 2) := by decide +kernel
theorem dL_due_29 : decode cL_due 29 = .ok (.iload_n 0, 1) := by decide +kernel
theorem dL_due_30 : decode cL_due 30 = .ok (.tableswitch 308 0 5 #[38, 46, 57, 80, 158, 210], 38) := by decide +kernel
theorem dL_due_68 : decode cL_due 68 = .ok (.aload 5, 2) := by decide +kernel
theorem dL_due_70 : decode cL_due 70 = .ok (.iload_n 1, 1) := by decide +kernel
theorem dL_due_71 : decode cL_due 71 = .ok (.iload_n 2, 1) := by decide +kernel
theorem dL_due_72 : decode cL_due 72 = .ok (.iastore, 1) := by decide +kernel
theorem dL_due_73 : decode cL_due 73 = .ok (.iload 10, 2) := by decide +kernel
theorem dL_due_75 : decode cL_due 75 = .ok (.ireturn, 1) := by decide +kernel
theorem dL_due_76 : decode cL_due 76 = .ok (.aload 5, 2) := by decide +kernel
theorem dL_due_78 : decode cL_due 78 = .ok (.bipush 6, 2) := by decide +kernel
theorem dL_due_80 : decode cL_due 80 = .ok (.iload_n 1, 1) := by decide +kernel
theorem dL_due_81 : decode cL_due 81 = .ok (.iadd, 1) := by decide +kernel
theorem dL_due_82 : decode cL_due 82 = .ok (.iload_n 2, 1) := by decide +kernel
theorem dL_due_83 : decode cL_due 83 = .ok (.iastore, 1) := by decide +kernel
theorem dL_due_84 : decode cL_due 84 = .ok (.iload 10, 2) := by decide +kernel
theorem dL_due_86 : decode cL_due 86 = .ok (.ireturn, 1) := by decide +kernel
theorem dL_due_87 : decode cL_due 87 = .ok (.aload 5, 2) := by decide +kernel
theorem dL_due_89 : decode cL_due 89 = .ok (.bipush 12, 2) := by decide +kernel
theorem dL_due_91 : decode cL_due 91 = .ok (.iload_n 1, 1) := by decide +kernel
theorem dL_due_92 : decode cL_due 92 = .ok (.iadd, 1) := by decide +kernel
theorem dL_due_93 : decode cL_due 93 = .ok (.iload_n 2, 1) := by decide +kernel
theorem dL_due_94 : decode cL_due 94 = .ok (.iastore, 1) := by decide +kernel
theorem dL_due_95 : decode cL_due 95 = .ok (.aload 5, 2) := by decide +kernel
theorem dL_due_97 : decode cL_due 97 = .ok (.bipush 6, 2) := by decide +kernel
theorem dL_due_99 : decode cL_due 99 = .ok (.iload_n 1, 1) := by decide +kernel
theorem dL_due_100 : decode cL_due 100 = .ok (.iadd, 1) := by decide +kernel
theorem dL_due_101 : decode cL_due 101 = .ok (.iaload, 1) := by decide +kernel
theorem dL_due_102 : decode cL_due 102 = .ok (.iload_n 2, 1) := by decide +kernel
theorem dL_due_103 : decode cL_due 103 = .ok (.iadd, 1) := by decide +kernel
theorem dL_due_104 : decode cL_due 104 = .ok (.aload 5, 2) := by decide +kernel
theorem dL_due_106 : decode cL_due 106 = .ok (.iconst 0, 1) := by decide +kernel
theorem dL_due_107 : decode cL_due 107 = .ok (.iaload, 1) := by decide +kernel
theorem dL_due_108 : decode cL_due 108 = .ok (.iadd, 1) := by decide +kernel
theorem dL_due_109 : decode cL_due 109 = .ok (.ireturn, 1) := by decide +kernel
theorem dL_due_110 : decode cL_due 110 = .ok (.aload 5, 2) := by decide +kernel
theorem dL_due_112 : decode cL_due 112 = .ok (.bipush 18, 2) := by decide +kernel
theorem dL_due_114 : decode cL_due 114 = .ok (.iload_n 1, 1) := by decide +kernel
theorem dL_due_115 : decode cL_due 115 = .ok (.iadd, 1) := by decide +kernel
theorem dL_due_116 : decode cL_due 116 = .ok (.iload_n 2, 1) := by decide +kernel
theorem dL_due_117 : decode cL_due 117 = .ok (.iastore, 1) := by decide +kernel
theorem dL_due_118 : decode cL_due 118 = .ok (.aload 5, 2) := by decide +kernel
theorem dL_due_120 : decode cL_due 120 = .ok (.bipush 26, 2) := by decide +kernel
theorem dL_due_122 : decode cL_due 122 = .ok (.iload_n 1, 1) := by decide +kernel
theorem dL_due_123 : decode cL_due 123 = .ok (.iadd, 1) := by decide +kernel
theorem dL_due_124 : decode cL_due 124 = .ok (.iload_n 3, 1) := by decide +kernel
theorem dL_due_125 : decode cL_due 125 = .ok (.iastore, 1) := by decide +kernel
theorem dL_due_126 : decode cL_due 126 = .ok (.aload 5, 2) := by decide +kernel
theorem dL_due_128 : decode cL_due 128 = .ok (.aload 6, 2) := by decide +kernel
theorem dL_due_130 : decode cL_due 130 = .ok (.aload 7, 2) := by decide +kernel
theorem dL_due_132 : decode cL_due 132 = .ok (.aload 8, 2) := by decide +kernel
theorem dL_due_134 : decode cL_due 134 = .ok (.aload 9, 2) := by decide +kernel
theorem dL_due_136 : decode cL_due 136 = .ok (.invokestatic 107, 3) := by decide +kernel
theorem dL_due_139 : decode cL_due 139 = .ok (.iconst 0, 1) := by decide +kernel
theorem dL_due_140 : decode cL_due 140 = .ok (.istore 11, 2) := by decide +kernel
theorem dL_due_142 : decode cL_due 142 = .ok (.iconst 0, 1) := by decide +kernel
theorem dL_due_143 : decode cL_due 143 = .ok (.istore 12, 2) := by decide +kernel
theorem dL_due_145 : decode cL_due 145 = .ok (.iload 12, 2) := by decide +kernel
theorem dL_due_147 : decode cL_due 147 = .ok (.aload 5, 2) := by decide +kernel
theorem dL_due_149 : decode cL_due 149 = .ok (.iconst 5, 1) := by decide +kernel
theorem dL_due_150 : decode cL_due 150 = .ok (.iaload, 1) := by decide +kernel
theorem dL_due_151 : decode cL_due 151 = .ok (.if_icmp .ge 34, 3) := by decide +kernel
theorem dL_due_154 : decode cL_due 154 = .ok (.iload 11, 2) := by decide +kernel
theorem dL_due_156 : decode cL_due 156 = .ok (.aload 7, 2) := by decide +kernel
theorem dL_due_158 : decode cL_due 158 = .ok (.iload 12, 2) := by decide +kernel
theorem dL_due_160 : decode cL_due 160 = .ok (.iaload, 1) := by decide +kernel
theorem dL_due_161 : decode cL_due 161 = .ok (.ifCond .ge 14, 3) := by decide +kernel
theorem dL_due_164 : decode cL_due 164 = .ok (.aload 6, 2) := by decide +kernel
theorem dL_due_166 : decode cL_due 166 = .ok (.iload 12, 2) := by decide +kernel
theorem dL_due_168 : decode cL_due 168 = .ok (.iaload, 1) := by decide +kernel
theorem dL_due_169 : decode cL_due 169 = .ok (.invokestatic 20, 3) := by decide +kernel
theorem dL_due_172 : decode cL_due 172 = .ok (.goto 4, 3) := by decide +kernel
theorem dL_due_175 : decode cL_due 175 = .ok (.iconst 0, 1) := by decide +kernel
theorem dL_due_176 : decode cL_due 176 = .ok (.iadd, 1) := by decide +kernel
theorem dL_due_177 : decode cL_due 177 = .ok (.istore 11, 2) := by decide +kernel
theorem dL_due_179 : decode cL_due 179 = .ok (.iinc 12 1, 3) := by decide +kernel
theorem dL_due_182 : decode cL_due 182 = .ok (.goto (-37), 3) := by decide +kernel
theorem dL_due_185 : decode cL_due 185 = .ok (.iload 11, 2) := by decide +kernel
theorem dL_due_187 : decode cL_due 187 = .ok (.ireturn, 1) := by decide +kernel
theorem dL_due_188 : decode cL_due 188 = .ok (.aload 5, 2) := by decide +kernel
theorem dL_due_190 : decode cL_due 190 = .ok (.iconst 5, 1) := by decide +kernel
theorem dL_due_191 : decode cL_due 191 = .ok (.iaload, 1) := by decide +kernel
theorem dL_due_192 : decode cL_due 192 = .ok (.bipush 24, 2) := by decide +kernel
theorem dL_due_194 : decode cL_due 194 = .ok (.if_icmp .ne 6, 3) := by decide +kernel
theorem dL_due_197 : decode cL_due 197 = .ok (.bipush (-104), 2) := by decide +kernel
theorem dL_due_199 : decode cL_due 199 = .ok (.ireturn, 1) := by decide +kernel
theorem dL_due_200 : decode cL_due 200 = .ok (.aload 6, 2) := by decide +kernel
theorem dL_due_202 : decode cL_due 202 = .ok (.aload 5, 2) := by decide +kernel
theorem dL_due_204 : decode cL_due 204 = .ok (.iconst 5, 1) := by decide +kernel
theorem dL_due_205 : decode cL_due 205 = .ok (.iaload, 1) := by decide +kernel
theorem dL_due_206 : decode cL_due 206 = .ok (.iload_n 1, 1) := by decide +kernel
theorem dL_due_207 : decode cL_due 207 = .ok (.bipush 8, 2) := by decide +kernel
theorem dL_due_209 : decode cL_due 209 = .ok (.iload_n 2, 1) := by decide +kernel
theorem dL_due_210 : decode cL_due 210 = .ok (.imul, 1) := by decide +kernel
theorem dL_due_211 : decode cL_due 211 = .ok (.iadd, 1) := by decide +kernel
theorem dL_due_212 : decode cL_due 212 = .ok (.bipush 64, 2) := by decide +kernel
theorem dL_due_214 : decode cL_due 214 = .ok (.iload_n 3, 1) := by decide +kernel
theorem dL_due_215 : decode cL_due 215 = .ok (.imul, 1) := by decide +kernel
theorem dL_due_216 : decode cL_due 216 = .ok (.iadd, 1) := by decide +kernel
theorem dL_due_217 : decode cL_due 217 = .ok (.sipush 8192, 3) := by decide +kernel
theorem dL_due_220 : decode cL_due 220 = .ok (.iload 4, 2) := by decide +kernel
theorem dL_due_222 : decode cL_due 222 = .ok (.imul, 1) := by decide +kernel
theorem dL_due_223 : decode cL_due 223 = .ok (.iadd, 1) := by decide +kernel
theorem dL_due_224 : decode cL_due 224 = .ok (.iastore, 1) := by decide +kernel
theorem dL_due_225 : decode cL_due 225 = .ok (.aload 5, 2) := by decide +kernel
theorem dL_due_227 : decode cL_due 227 = .ok (.iconst 5, 1) := by decide +kernel
theorem dL_due_228 : decode cL_due 228 = .ok (.dup2, 1) := by decide +kernel
theorem dL_due_229 : decode cL_due 229 = .ok (.iaload, 1) := by decide +kernel
theorem dL_due_230 : decode cL_due 230 = .ok (.iconst 1, 1) := by decide +kernel
theorem dL_due_231 : decode cL_due 231 = .ok (.iadd, 1) := by decide +kernel
theorem dL_due_232 : decode cL_due 232 = .ok (.iastore, 1) := by decide +kernel
theorem dL_due_233 : decode cL_due 233 = .ok (.aload 5, 2) := by decide +kernel
theorem dL_due_235 : decode cL_due 235 = .ok (.iconst 5, 1) := by decide +kernel
end
section
theorem dL_due_236 : decode cL_due 236 = .ok (.iaload, 1) := by decide +kernel
theorem dL_due_237 : decode cL_due 237 = .ok (.iconst 1, 1) := by decide +kernel
theorem dL_due_238 : decode cL_due 238 = .ok (.isub, 1) := by decide +kernel
theorem dL_due_239 : decode cL_due 239 = .ok (.ireturn, 1) := by decide +kernel
theorem dL_due_240 : decode cL_due 240 = .ok (.iload_n 1, 1) := by decide +kernel
theorem dL_due_241 : decode cL_due 241 = .ok (.aload 5, 2) := by decide +kernel
theorem dL_due_243 : decode cL_due 243 = .ok (.iconst 5, 1) := by decide +kernel
theorem dL_due_244 : decode cL_due 244 = .ok (.iaload, 1) := by decide +kernel
theorem dL_due_245 : decode cL_due 245 = .ok (.if_icmp .lt 6, 3) := by decide +kernel
theorem dL_due_248 : decode cL_due 248 = .ok (.bipush (-101), 2) := by decide +kernel
theorem dL_due_250 : decode cL_due 250 = .ok (.ireturn, 1) := by decide +kernel
theorem dL_due_251 : decode cL_due 251 = .ok (.aload 7, 2) := by decide +kernel
theorem dL_due_253 : decode cL_due 253 = .ok (.iload_n 1, 1) := by decide +kernel
theorem dL_due_254 : decode cL_due 254 = .ok (.iaload, 1) := by decide +kernel
theorem dL_due_255 : decode cL_due 255 = .ok (.ifCond .ge 7, 3) := by decide +kernel
theorem dL_due_258 : decode cL_due 258 = .ok (.iconst 0, 1) := by decide +kernel
theorem dL_due_259 : decode cL_due 259 = .ok (.goto 34, 3) := by decide +kernel
theorem dL_due_262 : decode cL_due 262 = .ok (.iload_n 1, 1) := by decide +kernel
theorem dL_due_263 : decode cL_due 263 = .ok (.aload 5, 2) := by decide +kernel
theorem dL_due_265 : decode cL_due 265 = .ok (.iconst 3, 1) := by decide +kernel
theorem dL_due_266 : decode cL_due 266 = .ok (.iaload, 1) := by decide +kernel
theorem dL_due_267 : decode cL_due 267 = .ok (.iconst 0, 1) := by decide +kernel
theorem dL_due_268 : decode cL_due 268 = .ok (.aload 5, 2) := by decide +kernel
theorem dL_due_270 : decode cL_due 270 = .ok (.aload 6, 2) := by decide +kernel
theorem dL_due_272 : decode cL_due 272 = .ok (.aload 7, 2) := by decide +kernel
theorem dL_due_274 : decode cL_due 274 = .ok (.invokestatic 48, 3) := by decide +kernel
theorem dL_due_277 : decode cL_due 277 = .ok (.iload_n 1, 1) := by decide +kernel
theorem dL_due_278 : decode cL_due 278 = .ok (.aload 5, 2) := by decide +kernel
theorem dL_due_280 : decode cL_due 280 = .ok (.iconst 4, 1) := by decide +kernel
theorem dL_due_281 : decode cL_due 281 = .ok (.iaload, 1) := by decide +kernel
theorem dL_due_282 : decode cL_due 282 = .ok (.iconst 1, 1) := by decide +kernel
theorem dL_due_283 : decode cL_due 283 = .ok (.aload 5, 2) := by decide +kernel
theorem dL_due_285 : decode cL_due 285 = .ok (.aload 6, 2) := by decide +kernel
theorem dL_due_287 : decode cL_due 287 = .ok (.aload 7, 2) := by decide +kernel
theorem dL_due_289 : decode cL_due 289 = .ok (.invokestatic 48, 3) := by decide +kernel
theorem dL_due_292 : decode cL_due 292 = .ok (.iadd, 1) := by decide +kernel
theorem dL_due_293 : decode cL_due 293 = .ok (.istore 12, 2) := by decide +kernel
theorem dL_due_295 : decode cL_due 295 = .ok (.iload_n 1, 1) := by decide +kernel
theorem dL_due_296 : decode cL_due 296 = .ok (.istore 13, 2) := by decide +kernel
theorem dL_due_298 : decode cL_due 298 = .ok (.iload 13, 2) := by decide +kernel
theorem dL_due_300 : decode cL_due 300 = .ok (.aload 5, 2) := by decide +kernel
theorem dL_due_302 : decode cL_due 302 = .ok (.iconst 5, 1) := by decide +kernel
theorem dL_due_303 : decode cL_due 303 = .ok (.iaload, 1) := by decide +kernel
theorem dL_due_304 : decode cL_due 304 = .ok (.iconst 1, 1) := by decide +kernel
theorem dL_due_305 : decode cL_due 305 = .ok (.isub, 1) := by decide +kernel
theorem dL_due_306 : decode cL_due 306 = .ok (.if_icmp .ge 21, 3) := by decide +kernel
theorem dL_due_309 : decode cL_due 309 = .ok (.aload 6, 2) := by decide +kernel
theorem dL_due_311 : decode cL_due 311 = .ok (.iload 13, 2) := by decide +kernel
theorem dL_due_313 : decode cL_due 313 = .ok (.aload 6, 2) := by decide +kernel
theorem dL_due_315 : decode cL_due 315 = .ok (.iload 13, 2) := by decide +kernel
theorem dL_due_317 : decode cL_due 317 = .ok (.iconst 1, 1) := by decide +kernel
theorem dL_due_318 : decode cL_due 318 = .ok (.iadd, 1) := by decide +kernel
theorem dL_due_319 : decode cL_due 319 = .ok (.iaload, 1) := by decide +kernel
theorem dL_due_320 : decode cL_due 320 = .ok (.iastore, 1) := by decide +kernel
theorem dL_due_321 : decode cL_due 321 = .ok (.iinc 13 1, 3) := by decide +kernel
theorem dL_due_324 : decode cL_due 324 = .ok (.goto (-26), 3) := by decide +kernel
theorem dL_due_327 : decode cL_due 327 = .ok (.aload 5, 2) := by decide +kernel
theorem dL_due_329 : decode cL_due 329 = .ok (.iconst 5, 1) := by decide +kernel
theorem dL_due_330 : decode cL_due 330 = .ok (.dup2, 1) := by decide +kernel
theorem dL_due_331 : decode cL_due 331 = .ok (.iaload, 1) := by decide +kernel
theorem dL_due_332 : decode cL_due 332 = .ok (.iconst 1, 1) := by decide +kernel
theorem dL_due_333 : decode cL_due 333 = .ok (.isub, 1) := by decide +kernel
theorem dL_due_334 : decode cL_due 334 = .ok (.iastore, 1) := by decide +kernel
theorem dL_due_335 : decode cL_due 335 = .ok (.iload 12, 2) := by decide +kernel
theorem dL_due_337 : decode cL_due 337 = .ok (.ireturn, 1) := by decide +kernel
theorem dL_due_338 : decode cL_due 338 = .ok (.iload_n 1, 1) := by decide +kernel
theorem dL_due_339 : decode cL_due 339 = .ok (.aload 5, 2) := by decide +kernel
theorem dL_due_341 : decode cL_due 341 = .ok (.iconst 5, 1) := by decide +kernel
theorem dL_due_342 : decode cL_due 342 = .ok (.iaload, 1) := by decide +kernel
theorem dL_due_343 : decode cL_due 343 = .ok (.if_icmp .ge 14, 3) := by decide +kernel
theorem dL_due_346 : decode cL_due 346 = .ok (.aload 6, 2) := by decide +kernel
theorem dL_due_348 : decode cL_due 348 = .ok (.iload_n 1, 1) := by decide +kernel
theorem dL_due_349 : decode cL_due 349 = .ok (.iaload, 1) := by decide +kernel
theorem dL_due_350 : decode cL_due 350 = .ok (.invokestatic 10, 3) := by decide +kernel
theorem dL_due_353 : decode cL_due 353 = .ok (.iload_n 2, 1) := by decide +kernel
theorem dL_due_354 : decode cL_due 354 = .ok (.if_icmp .ne 19, 3) := by decide +kernel
theorem dL_due_357 : decode cL_due 357 = .ok (.iload_n 1, 1) := by decide +kernel
theorem dL_due_358 : decode cL_due 358 = .ok (.aload 5, 2) := by decide +kernel
theorem dL_due_360 : decode cL_due 360 = .ok (.iconst 5, 1) := by decide +kernel
theorem dL_due_361 : decode cL_due 361 = .ok (.iaload, 1) := by decide +kernel
theorem dL_due_362 : decode cL_due 362 = .ok (.if_icmp .lt 8, 3) := by decide +kernel
theorem dL_due_365 : decode cL_due 365 = .ok (.bipush (-101), 2) := by decide +kernel
theorem dL_due_367 : decode cL_due 367 = .ok (.goto 5, 3) := by decide +kernel
theorem dL_due_370 : decode cL_due 370 = .ok (.bipush (-105), 2) := by decide +kernel
theorem dL_due_372 : decode cL_due 372 = .ok (.ireturn, 1) := by decide +kernel
theorem dL_due_373 : decode cL_due 373 = .ok (.aload 6, 2) := by decide +kernel
theorem dL_due_375 : decode cL_due 375 = .ok (.iload_n 1, 1) := by decide +kernel
theorem dL_due_376 : decode cL_due 376 = .ok (.dup2, 1) := by decide +kernel
theorem dL_due_377 : decode cL_due 377 = .ok (.iaload, 1) := by decide +kernel
theorem dL_due_378 : decode cL_due 378 = .ok (.iload_n 2, 1) := by decide +kernel
theorem dL_due_379 : decode cL_due 379 = .ok (.aload 6, 2) := by decide +kernel
theorem dL_due_381 : decode cL_due 381 = .ok (.iload_n 1, 1) := by decide +kernel
theorem dL_due_382 : decode cL_due 382 = .ok (.iaload, 1) := by decide +kernel
theorem dL_due_383 : decode cL_due 383 = .ok (.invokestatic 10, 3) := by decide +kernel
theorem dL_due_386 : decode cL_due 386 = .ok (.isub, 1) := by decide +kernel
theorem dL_due_387 : decode cL_due 387 = .ok (.iadd, 1) := by decide +kernel
theorem dL_due_388 : decode cL_due 388 = .ok (.iastore, 1) := by decide +kernel
theorem dL_due_389 : decode cL_due 389 = .ok (.aload 5, 2) := by decide +kernel
theorem dL_due_391 : decode cL_due 391 = .ok (.aload 6, 2) := by decide +kernel
theorem dL_due_393 : decode cL_due 393 = .ok (.aload 7, 2) := by decide +kernel
theorem dL_due_395 : decode cL_due 395 = .ok (.aload 8, 2) := by decide +kernel
theorem dL_due_397 : decode cL_due 397 = .ok (.aload 9, 2) := by decide +kernel
theorem dL_due_399 : decode cL_due 399 = .ok (.invokestatic 107, 3) := by decide +kernel
theorem dL_due_402 : decode cL_due 402 = .ok (.aload 7, 2) := by decide +kernel
theorem dL_due_404 : decode cL_due 404 = .ok (.iload_n 1, 1) := by decide +kernel
theorem dL_due_405 : decode cL_due 405 = .ok (.iaload, 1) := by decide +kernel
theorem dL_due_406 : decode cL_due 406 = .ok (.ifCond .ge 8, 3) := by decide +kernel
theorem dL_due_409 : decode cL_due 409 = .ok (.bipush (-106), 2) := by decide +kernel
theorem dL_due_411 : decode cL_due 411 = .ok (.goto 7, 3) := by decide +kernel
theorem dL_due_414 : decode cL_due 414 = .ok (.aload 7, 2) := by decide +kernel
theorem dL_due_416 : decode cL_due 416 = .ok (.iload_n 1, 1) := by decide +kernel
theorem dL_due_417 : decode cL_due 417 = .ok (.iaload, 1) := by decide +kernel
theorem dL_due_418 : decode cL_due 418 = .ok (.ireturn, 1) := by decide +kernel
theorem dL_law_0 : decode cL_law 0 = .ok (.new 40, 3) := by decide +kernel
theorem dL_law_3 : decode cL_law 3 = .ok (.dup, 1) := by decide +kernel
theorem dL_law_4 : decode cL_law 4 = .ok (.invokespecial 111, 3) := by decide +kernel
theorem dL_law_7 : decode cL_law 7 = .ok (.astore_n 1, 1) := by decide +kernel
theorem dL_law_8 : decode cL_law 8 = .ok (.bipush 34, 2) := by decide +kernel
theorem dL_law_10 : decode cL_law 10 = .ok (.newarray .int, 2) := by decide +kernel
theorem dL_law_12 : decode cL_law 12 = .ok (.astore_n 2, 1) := by decide +kernel
theorem dL_law_13 : decode cL_law 13 = .ok (.bipush 24, 2) := by decide +kernel
theorem dL_law_15 : decode cL_law 15 = .ok (.newarray .int, 2) := by decide +kernel
theorem dL_law_17 : decode cL_law 17 = .ok (.astore_n 3, 1) := by decide +kernel
theorem dL_law_18 : decode cL_law 18 = .ok (.bipush 24, 2) := by decide +kernel
theorem dL_law_20 : decode cL_law 20 = .ok (.newarray .int, 2) := by decide +kernel
theorem dL_law_22 : decode cL_law 22 = .ok (.astore 4, 2) := by decide +kernel
theorem dL_law_24 : decode cL_law 24 = .ok (.bipush 24, 2) := by decide +kernel
theorem dL_law_26 : decode cL_law 26 = .ok (.newarray .int, 2) := by decide +kernel
theorem dL_law_28 : decode cL_law 28 = .ok (.astore 5, 2) := by decide +kernel
theorem dL_law_30 : decode cL_law 30 = .ok (.bipush 16, 2) := by decide +kernel
theorem dL_law_32 : decode cL_law 32 = .ok (.newarray .int, 2) := by decide +kernel
theorem dL_law_34 : decode cL_law 34 = .ok (.astore 6, 2) := by decide +kernel
theorem dL_law_36 : decode cL_law 36 = .ok (.aload_n 2, 1) := by decide +kernel
theorem dL_law_37 : decode cL_law 37 = .ok (.iconst 0, 1) := by decide +kernel
theorem dL_law_38 : decode cL_law 38 = .ok (.bipush 30, 2) := by decide +kernel
theorem dL_law_40 : decode cL_law 40 = .ok (.iastore, 1) := by decide +kernel
theorem dL_law_41 : decode cL_law 41 = .ok (.aload_n 2, 1) := by decide +kernel
theorem dL_law_42 : decode cL_law 42 = .ok (.iconst 1, 1) := by decide +kernel
theorem dL_law_43 : decode cL_law 43 = .ok (.bipush 60, 2) := by decide +kernel
theorem dL_law_45 : decode cL_law 45 = .ok (.iastore, 1) := by decide +kernel
theorem dL_law_46 : decode cL_law 46 = .ok (.aload_n 2, 1) := by decide +kernel
theorem dL_law_47 : decode cL_law 47 = .ok (.iconst 2, 1) := by decide +kernel
theorem dL_law_48 : decode cL_law 48 = .ok (.iconst 3, 1) := by decide +kernel
theorem dL_law_49 : decode cL_law 49 = .ok (.iastore, 1) := by decide +kernel
theorem dL_law_50 : decode cL_law 50 = .ok (.aload_n 2, 1) := by decide +kernel
theorem dL_law_51 : decode cL_law 51 = .ok (.iconst 3, 1) := by decide +kernel
theorem dL_law_52 : decode cL_law 52 = .ok (.bipush 60, 2) := by decide +kernel
theorem dL_law_54 : decode cL_law 54 = .ok (.iastore, 1) := by decide +kernel
theorem dL_law_55 : decode cL_law 55 = .ok (.aload_n 2, 1) := by decide +kernel
theorem dL_law_56 : decode cL_law 56 = .ok (.iconst 4, 1) := by decide +kernel
theorem dL_law_57 : decode cL_law 57 = .ok (.bipush 6, 2) := by decide +kernel
theorem dL_law_59 : decode cL_law 59 = .ok (.iastore, 1) := by decide +kernel
theorem dL_law_60 : decode cL_law 60 = .ok (.iconst 0, 1) := by decide +kernel
theorem dL_law_61 : decode cL_law 61 = .ok (.istore 7, 2) := by decide +kernel
theorem dL_law_63 : decode cL_law 63 = .ok (.iload 7, 2) := by decide +kernel
theorem dL_law_65 : decode cL_law 65 = .ok (.bipush 8, 2) := by decide +kernel
theorem dL_law_67 : decode cL_law 67 = .ok (.if_icmp .ge 33, 3) := by decide +kernel
theorem dL_law_70 : decode cL_law 70 = .ok (.aload_n 2, 1) := by decide +kernel
theorem dL_law_71 : decode cL_law 71 = .ok (.bipush 18, 2) := by decide +kernel
theorem dL_law_73 : decode cL_law 73 = .ok (.iload 7, 2) := by decide +kernel
theorem dL_law_75 : decode cL_law 75 = .ok (.iadd, 1) := by decide +kernel
theorem dL_law_76 : decode cL_law 76 = .ok (.bipush 60, 2) := by decide +kernel
theorem dL_law_78 : decode cL_law 78 = .ok (.iload 7, 2) := by decide +kernel
theorem dL_law_80 : decode cL_law 80 = .ok (.imul, 1) := by decide +kernel
theorem dL_law_81 : decode cL_law 81 = .ok (.bipush 60, 2) := by decide +kernel
theorem dL_law_83 : decode cL_law 83 = .ok (.iadd, 1) := by decide +kernel
theorem dL_law_84 : decode cL_law 84 = .ok (.iastore, 1) := by decide +kernel
theorem dL_law_85 : decode cL_law 85 = .ok (.aload_n 2, 1) := by decide +kernel
theorem dL_law_86 : decode cL_law 86 = .ok (.bipush 26, 2) := by decide +kernel
theorem dL_law_88 : decode cL_law 88 = .ok (.iload 7, 2) := by decide +kernel
theorem dL_law_90 : decode cL_law 90 = .ok (.iadd, 1) := by decide +kernel
theorem dL_law_91 : decode cL_law 91 = .ok (.bipush 6, 2) := by decide +kernel
theorem dL_law_93 : decode cL_law 93 = .ok (.iastore, 1) := by decide +kernel
theorem dL_law_94 : decode cL_law 94 = .ok (.iinc 7 1, 3) := by decide +kernel
theorem dL_law_97 : decode cL_law 97 = .ok (.goto (-34), 3) := by decide +kernel
theorem dL_law_100 : decode cL_law 100 = .ok (.iconst 0, 1) := by decide +kernel
theorem dL_law_101 : decode cL_law 101 = .ok (.istore 7, 2) := by decide +kernel
theorem dL_law_103 : decode cL_law 103 = .ok (.iload 7, 2) := by decide +kernel
theorem dL_law_105 : decode cL_law 105 = .ok (.bipush 6, 2) := by decide +kernel
theorem dL_law_107 : decode cL_law 107 = .ok (.if_icmp .ge 21, 3) := by decide +kernel
theorem dL_law_110 : decode cL_law 110 = .ok (.aload_n 2, 1) := by decide +kernel
theorem dL_law_111 : decode cL_law 111 = .ok (.bipush 6, 2) := by decide +kernel
theorem dL_law_113 : decode cL_law 113 = .ok (.iload 7, 2) := by decide +kernel
theorem dL_law_115 : decode cL_law 115 = .ok (.iadd, 1) := by decide +kernel
theorem dL_law_116 : decode cL_law 116 = .ok (.bipush 60, 2) := by decide +kernel
theorem dL_law_118 : decode cL_law 118 = .ok (.iload 7, 2) := by decide +kernel
theorem dL_law_120 : decode cL_law 120 = .ok (.imul, 1) := by decide +kernel
theorem dL_law_121 : decode cL_law 121 = .ok (.iastore, 1) := by decide +kernel
theorem dL_law_122 : decode cL_law 122 = .ok (.iinc 7 1, 3) := by decide +kernel
theorem dL_law_125 : decode cL_law 125 = .ok (.goto (-22), 3) := by decide +kernel
theorem dL_law_128 : decode cL_law 128 = .ok (.iconst 0, 1) := by decide +kernel
theorem dL_law_129 : decode cL_law 129 = .ok (.istore 7, 2) := by decide +kernel
theorem dL_law_131 : decode cL_law 131 = .ok (.iload 7, 2) := by decide +kernel
theorem dL_law_133 : decode cL_law 133 = .ok (.bipush 40, 2) := by decide +kernel
theorem dL_law_135 : decode cL_law 135 = .ok (.if_icmp .ge 676, 3) := by decide +kernel
theorem dL_law_138 : decode cL_law 138 = .ok (.aload_n 0, 1) := by decide +kernel
theorem dL_law_139 : decode cL_law 139 = .ok (.iconst 2, 1) := by decide +kernel
theorem dL_law_140 : decode cL_law 140 = .ok (.iload 7, 2) := by decide +kernel
theorem dL_law_142 : decode cL_law 142 = .ok (.imul, 1) := by decide +kernel
theorem dL_law_143 : decode cL_law 143 = .ok (.invokestatic 112, 3) := by decide +kernel
theorem dL_law_146 : decode cL_law 146 = .ok (.istore 8, 2) := by decide +kernel
theorem dL_law_148 : decode cL_law 148 = .ok (.aload_n 0, 1) := by decide +kernel
theorem dL_law_149 : decode cL_law 149 = .ok (.iconst 2, 1) := by decide +kernel
theorem dL_law_150 : decode cL_law 150 = .ok (.iload 7, 2) := by decide +kernel
theorem dL_law_152 : decode cL_law 152 = .ok (.imul, 1) := by decide +kernel
theorem dL_law_153 : decode cL_law 153 = .ok (.iconst 1, 1) := by decide +kernel
theorem dL_law_154 : decode cL_law 154 = .ok (.iadd, 1) := by decide +kernel
theorem dL_law_155 : decode cL_law 155 = .ok (.invokestatic 112, 3) := by decide +kernel
theorem dL_law_158 : decode cL_law 158 = .ok (.istore 9, 2) := by decide +kernel
theorem dL_law_160 : decode cL_law 160 = .ok (.iload 8, 2) := by decide +kernel
theorem dL_law_162 : decode cL_law 162 = .ok (.bipush 20, 2) := by decide +kernel
theorem dL_law_164 : decode cL_law 164 = .ok (.invokestatic 59, 3) := by decide +kernel
theorem dL_law_167 : decode cL_law 167 = .ok (.istore 10, 2) := by decide +kernel
theorem dL_law_169 : decode cL_law 169 = .ok (.iload 7, 2) := by decide +kernel
theorem dL_law_171 : decode cL_law 171 = .ok (.iconst 5, 1) := by decide +kernel
theorem dL_law_172 : decode cL_law 172 = .ok (.if_icmp .lt 10, 3) := by decide +kernel
theorem dL_law_175 : decode cL_law 175 = .ok (.iload 10, 2) := by decide +kernel
theorem dL_law_177 : decode cL_law 177 = .ok (.bipush 12, 2) := by decide +kernel
theorem dL_law_179 : decode cL_law 179 = .ok (.if_icmp .ge 7, 3) := by decide +kernel
theorem dL_law_182 : decode cL_law 182 = .ok (.iconst 4, 1) := by decide +kernel
theorem dL_law_183 : decode cL_law 183 = .ok (.goto 60, 3) := by decide +kernel
theorem dL_law_186 : decode cL_law 186 = .ok (.iload 10, 2) := by decide +kernel
theorem dL_law_188 : decode cL_law 188 = .ok (.bipush 12, 2) := by decide +kernel
theorem dL_law_190 : decode cL_law 190 = .ok (.if_icmp .ne 7, 3) := by decide +kernel
theorem dL_law_193 : decode cL_law 193 = .ok (.iconst 0, 1) := by decide +kernel
theorem dL_law_194 : decode cL_law 194 = .ok (.goto 49, 3) := by decide +kernel
theorem dL_law_197 : decode cL_law 197 = .ok (.iload 10, 2) := by decide +kernel
theorem dL_law_199 : decode cL_law 199 = .ok (.bipush 13, 2) := by decide +kernel
theorem dL_law_201 : decode cL_law 201 = .ok (.if_icmp .ne 7, 3) := by decide +kernel
theorem dL_law_204 : decode cL_law 204 = .ok (.iconst 1, 1) := by decide +kernel
theorem dL_law_205 : decode cL_law 205 = .ok (.goto 38, 3) := by decide +kernel
theorem dL_law_208 : decode cL_law 208 = .ok (.iload 10, 2) := by decide +kernel
theorem dL_law_210 : decode cL_law 210 = .ok (.bipush 16, 2) := by decide +kernel
theorem dL_law_212 : decode cL_law 212 = .ok (.if_icmp .ge 7, 3) := by decide +kernel
theorem dL_law_215 : decode cL_law 215 = .ok (.iconst 2, 1) := by decide +kernel
theorem dL_law_216 : decode cL_law 216 = .ok (.goto 27, 3) := by decide +kernel
theorem dL_law_219 : decode cL_law 219 = .ok (.iload 10, 2) := by decide +kernel
theorem dL_law_221 : decode cL_law 221 = .ok (.bipush 16, 2) := by decide +kernel
theorem dL_law_223 : decode cL_law 223 = .ok (.if_icmp .ne 7, 3) := by decide +kernel
theorem dL_law_226 : decode cL_law 226 = .ok (.iconst 3, 1) := by decide +kernel
theorem dL_law_227 : decode cL_law 227 = .ok (.goto 16, 3) := by decide +kernel
theorem dL_law_230 : decode cL_law 230 = .ok (.iload 10, 2) := by decide +kernel
theorem dL_law_232 : decode cL_law 232 = .ok (.bipush 17, 2) := by decide +kernel
theorem dL_law_234 : decode cL_law 234 = .ok (.if_icmp .ne 7, 3) := by decide +kernel
theorem dL_law_237 : decode cL_law 237 = .ok (.iconst 5, 1) := by decide +kernel
theorem dL_law_238 : decode cL_law 238 = .ok (.goto 5, 3) := by decide +kernel
theorem dL_law_241 : decode cL_law 241 = .ok (.bipush 6, 2) := by decide +kernel
theorem dL_law_243 : decode cL_law 243 = .ok (.istore 10, 2) := by decide +kernel
theorem dL_law_245 : decode cL_law 245 = .ok (.iload 10, 2) := by decide +kernel
theorem dL_law_247 : decode cL_law 247 = .ok (.ifCond .ne 12, 3) := by decide +kernel
theorem dL_law_250 : decode cL_law 250 = .ok (.iload 9, 2) := by decide +kernel
theorem dL_law_252 : decode cL_law 252 = .ok (.iconst 5, 1) := by decide +kernel
theorem dL_law_253 : decode cL_law 253 = .ok (.invokestatic 59, 3) := by decide +kernel
theorem dL_law_256 : decode cL_law 256 = .ok (.goto 61, 3) := by decide +kernel
theorem dL_law_259 : decode cL_law 259 = .ok (.iload 10, 2) := by decide +kernel
theorem dL_law_261 : decode cL_law 261 = .ok (.iconst 3, 1) := by decide +kernel
theorem dL_law_262 : decode cL_law 262 = .ok (.if_icmp .ne 13, 3) := by decide +kernel
theorem dL_law_265 : decode cL_law 265 = .ok (.iload 9, 2) := by decide +kernel
theorem dL_law_267 : decode cL_law 267 = .ok (.bipush 8, 2) := by decide +kernel
theorem dL_law_269 : decode cL_law 269 = .ok (.invokestatic 59, 3) := by decide +kernel
theorem dL_law_272 : decode cL_law 272 = .ok (.goto 45, 3) := by decide +kernel
theorem dL_law_275 : decode cL_law 275 = .ok (.iload 10, 2) := by decide +kernel
theorem dL_law_277 : decode cL_law 277 = .ok (.iconst 4, 1) := by decide +kernel
theorem dL_law_278 : decode cL_law 278 = .ok (.if_icmp .le 16, 3) := by decide +kernel
theorem dL_law_281 : decode cL_law 281 = .ok (.iload 9, 2) := by decide +kernel
theorem dL_law_283 : decode cL_law 283 = .ok (.aload_n 2, 1) := by decide +kernel
theorem dL_law_284 : decode cL_law 284 = .ok (.iconst 5, 1) := by decide +kernel
theorem dL_law_285 : decode cL_law 285 = .ok (.iaload, 1) := by decide +kernel
theorem dL_law_286 : decode cL_law 286 = .ok (.iconst 1, 1) := by decide +kernel
theorem dL_law_287 : decode cL_law 287 = .ok (.iadd, 1) := by decide +kernel
theorem dL_law_288 : decode cL_law 288 = .ok (.invokestatic 59, 3) := by decide +kernel
theorem dL_law_291 : decode cL_law 291 = .ok (.goto 26, 3) := by decide +kernel
theorem dL_law_294 : decode cL_law 294 = .ok (.iload 9, 2) := by decide +kernel
theorem dL_law_296 : decode cL_law 296 = .ok (.iload 9, 2) := by decide +kernel
theorem dL_law_298 : decode cL_law 298 = .ok (.bipush 20, 2) := by decide +kernel
theorem dL_law_300 : decode cL_law 300 = .ok (.ishr, 1) := by decide +kernel
theorem dL_law_301 : decode cL_law 301 = .ok (.iconst 2, 1) := by decide +kernel
theorem dL_law_302 : decode cL_law 302 = .ok (.invokestatic 59, 3) := by decide +kernel
theorem dL_law_305 : decode cL_law 305 = .ok (.ifCond .ne 8, 3) := by decide +kernel
theorem dL_law_308 : decode cL_law 308 = .ok (.bipush 6, 2) := by decide +kernel
theorem dL_law_310 : decode cL_law 310 = .ok (.goto 4, 3) := by decide +kernel
theorem dL_law_313 : decode cL_law 313 = .ok (.iconst 2, 1) := by decide +kernel
theorem dL_law_314 : decode cL_law 314 = .ok (.invokestatic 59, 3) := by decide +kernel
theorem dL_law_317 : decode cL_law 317 = .ok (.istore 11, 2) := by decide +kernel
theorem dL_law_319 : decode cL_law 319 = .ok (.iload 10, 2) := by decide +kernel
theorem dL_law_321 : decode cL_law 321 = .ok (.ifCond .ne 90, 3) := by decide +kernel
theorem dL_law_324 : decode cL_law 324 = .ok (.iload 11, 2) := by decide +kernel
theorem dL_law_326 : decode cL_law 326 = .ok (.ifCond .ne 15, 3) := by decide +kernel
theorem dL_law_329 : decode cL_law 329 = .ok (.iload 9, 2) := by decide +kernel
theorem dL_law_331 : decode cL_law 331 = .ok (.iconst 3, 1) := by decide +kernel
theorem dL_law_332 : decode cL_law 332 = .ok (.ishr, 1) := by decide +kernel
theorem dL_law_333 : decode cL_law 333 = .ok (.bipush 91, 2) := by decide +kernel
theorem dL_law_335 : decode cL_law 335 = .ok (.invokestatic 59, 3) := by decide +kernel
theorem dL_law_338 : decode cL_law 338 = .ok (.goto 178, 3) := by decide +kernel
theorem dL_law_341 : decode cL_law 341 = .ok (.iload 11, 2) := by decide +kernel
theorem dL_law_343 : decode cL_law 343 = .ok (.iconst 1, 1) := by decide +kernel
theorem dL_law_344 : decode cL_law 344 = .ok (.if_icmp .ne 16, 3) := by decide +kernel
theorem dL_law_347 : decode cL_law 347 = .ok (.iload 9, 2) := by decide +kernel
theorem dL_law_349 : decode cL_law 349 = .ok (.iconst 3, 1) := by decide +kernel
theorem dL_law_350 : decode cL_law 350 = .ok (.ishr, 1) := by decide +kernel
theorem dL_law_351 : decode cL_law 351 = .ok (.sipush 241, 3) := by decide +kernel
theorem dL_law_354 : decode cL_law 354 = .ok (.invokestatic 59, 3) := by decide +kernel
theorem dL_law_357 : decode cL_law 357 = .ok (.goto 159, 3) := by decide +kernel
theorem dL_law_360 : decode cL_law 360 = .ok (.iload 11, 2) := by decide +kernel
theorem dL_law_362 : decode cL_law 362 = .ok (.iconst 2, 1) := by decide +kernel
theorem dL_law_363 : decode cL_law 363 = .ok (.if_icmp .ne 17, 3) := by decide +kernel
theorem dL_law_366 : decode cL_law 366 = .ok (.iconst 1, 1) := by decide +kernel
theorem dL_law_367 : decode cL_law 367 = .ok (.iload 9, 2) := by decide +kernel
theorem dL_law_369 : decode cL_law 369 = .ok (.iconst 3, 1) := by decide +kernel
theorem dL_law_370 : decode cL_law 370 = .ok (.ishr, 1) := by decide +kernel
theorem dL_law_371 : decode cL_law 371 = .ok (.bipush 6, 2) := by decide +kernel
theorem dL_law_373 : decode cL_law 373 = .ok (.invokestatic 59, 3) := by decide +kernel
theorem dL_law_376 : decode cL_law 376 = .ok (.iadd, 1) := by decide +kernel
theorem dL_law_377 : decode cL_law 377 = .ok (.goto 139, 3) := by decide +kernel
theorem dL_law_380 : decode cL_law 380 = .ok (.iload 11, 2) := by decide +kernel
theorem dL_law_382 : decode cL_law 382 = .ok (.iconst 3, 1) := by decide +kernel
theorem dL_law_383 : decode cL_law 383 = .ok (.if_icmp .ne 16, 3) := by decide +kernel
theorem dL_law_386 : decode cL_law 386 = .ok (.iload 9, 2) := by decide +kernel
theorem dL_law_388 : decode cL_law 388 = .ok (.iconst 3, 1) := by decide +kernel
theorem dL_law_389 : decode cL_law 389 = .ok (.ishr, 1) := by decide +kernel
theorem dL_law_390 : decode cL_law 390 = .ok (.sipush 301, 3) := by decide +kernel
theorem dL_law_393 : decode cL_law 393 = .ok (.invokestatic 59, 3) := by decide +kernel
theorem dL_law_396 : decode cL_law 396 = .ok (.goto 120, 3) := by decide +kernel
theorem dL_law_399 : decode cL_law 399 = .ok (.iload 9, 2) := by decide +kernel
theorem dL_law_401 : decode cL_law 401 = .ok (.iconst 3, 1) := by decide +kernel
theorem dL_law_402 : decode cL_law 402 = .ok (.ishr, 1) := by decide +kernel
theorem dL_law_403 : decode cL_law 403 = .ok (.bipush 41, 2) := by decide +kernel
theorem dL_law_405 : decode cL_law 405 = .ok (.invokestatic 59, 3) := by decide +kernel
theorem dL_law_408 : decode cL_law 408 = .ok (.goto 108, 3) := by decide +kernel
theorem dL_law_411 : decode cL_law 411 = .ok (.iload 10, 2) := by decide +kernel
theorem dL_law_413 : decode cL_law 413 = .ok (.iconst 1, 1) := by decide +kernel
theorem dL_law_414 : decode cL_law 414 = .ok (.if_icmp .ne 34, 3) := by decide +kernel
theorem dL_law_417 : decode cL_law 417 = .ok (.iload 9, 2) := by decide +kernel
theorem dL_law_419 : decode cL_law 419 = .ok (.iconst 3, 1) := by decide +kernel
theorem dL_law_420 : decode cL_law 420 = .ok (.ishr, 1) := by decide +kernel
theorem dL_law_421 : decode cL_law 421 = .ok (.iload 9, 2) := by decide +kernel
theorem dL_law_423 : decode cL_law 423 = .ok (.bipush 20, 2) := by decide +kernel
theorem dL_law_425 : decode cL_law 425 = .ok (.ishr, 1) := by decide +kernel
theorem dL_law_426 : decode cL_law 426 = .ok (.iconst 2, 1) := by decide +kernel
theorem dL_law_427 : decode cL_law 427 = .ok (.invokestatic 59, 3) := by decide +kernel
theorem dL_law_430 : decode cL_law 430 = .ok (.ifCond .ne 9, 3) := by decide +kernel
theorem dL_law_433 : decode cL_law 433 = .ok (.sipush 1201, 3) := by decide +kernel
theorem dL_law_436 : decode cL_law 436 = .ok (.goto 6, 3) := by decide +kernel
theorem dL_law_439 : decode cL_law 439 = .ok (.sipush 300, 3) := by decide +kernel
theorem dL_law_442 : decode cL_law 442 = .ok (.invokestatic 59, 3) := by decide +kernel
theorem dL_law_445 : decode cL_law 445 = .ok (.goto 71, 3) := by decide +kernel
theorem dL_law_448 : decode cL_law 448 = .ok (.iload 10, 2) := by decide +kernel
theorem dL_law_450 : decode cL_law 450 = .ok (.iconst 2, 1) := by decide +kernel
theorem dL_law_451 : decode cL_law 451 = .ok (.if_icmp .ne 19, 3) := by decide +kernel
theorem dL_law_454 : decode cL_law 454 = .ok (.iload 9, 2) := by decide +kernel
theorem dL_law_456 : decode cL_law 456 = .ok (.iconst 3, 1) := by decide +kernel
theorem dL_law_457 : decode cL_law 457 = .ok (.ishr, 1) := by decide +kernel
theorem dL_law_458 : decode cL_law 458 = .ok (.sipush 331, 3) := by decide +kernel
theorem dL_law_461 : decode cL_law 461 = .ok (.invokestatic 59, 3) := by decide +kernel
theorem dL_law_464 : decode cL_law 464 = .ok (.bipush 30, 2) := by decide +kernel
theorem dL_law_466 : decode cL_law 466 = .ok (.isub, 1) := by decide +kernel
theorem dL_law_467 : decode cL_law 467 = .ok (.goto 49, 3) := by decide +kernel
theorem dL_law_470 : decode cL_law 470 = .ok (.iload 10, 2) := by decide +kernel
theorem dL_law_472 : decode cL_law 472 = .ok (.iconst 3, 1) := by decide +kernel
theorem dL_law_473 : decode cL_law 473 = .ok (.if_icmp .ne 34, 3) := by decide +kernel
theorem dL_law_476 : decode cL_law 476 = .ok (.iload 9, 2) := by decide +kernel
theorem dL_law_478 : decode cL_law 478 = .ok (.iconst 3, 1) := by decide +kernel
theorem dL_law_479 : decode cL_law 479 = .ok (.ishr, 1) := by decide +kernel
theorem dL_law_480 : decode cL_law 480 = .ok (.iload 9, 2) := by decide +kernel
theorem dL_law_482 : decode cL_law 482 = .ok (.bipush 20, 2) := by decide +kernel
theorem dL_law_484 : decode cL_law 484 = .ok (.ishr, 1) := by decide +kernel
theorem dL_law_485 : decode cL_law 485 = .ok (.iconst 2, 1) := by decide +kernel
theorem dL_law_486 : decode cL_law 486 = .ok (.invokestatic 59, 3) := by decide +kernel
theorem dL_law_489 : decode cL_law 489 = .ok (.ifCond .ne 9, 3) := by decide +kernel
theorem dL_law_492 : decode cL_law 492 = .ok (.sipush 1501, 3) := by decide +kernel
theorem dL_law_495 : decode cL_law 495 = .ok (.goto 6, 3) := by decide +kernel
theorem dL_law_498 : decode cL_law 498 = .ok (.sipush 400, 3) := by decide +kernel
theorem dL_law_501 : decode cL_law 501 = .ok (.invokestatic 59, 3) := by decide +kernel
theorem dL_law_504 : decode cL_law 504 = .ok (.goto 12, 3) := by decide +kernel
theorem dL_law_507 : decode cL_law 507 = .ok (.iload 9, 2) := by decide +kernel
theorem dL_law_509 : decode cL_law 509 = .ok (.iconst 3, 1) := by decide +kernel
theorem dL_law_510 : decode cL_law 510 = .ok (.ishr, 1) := by decide +kernel
theorem dL_law_511 : decode cL_law 511 = .ok (.bipush 6, 2) := by decide +kernel
theorem dL_law_513 : decode cL_law 513 = .ok (.invokestatic 59, 3) := by decide +kernel
theorem dL_law_516 : decode cL_law 516 = .ok (.istore 12, 2) := by decide +kernel
theorem dL_law_518 : decode cL_law 518 = .ok (.iload 10, 2) := by decide +kernel
theorem dL_law_520 : decode cL_law 520 = .ok (.iconst 3, 1) := by decide +kernel
theorem dL_law_521 : decode cL_law 521 = .ok (.if_icmp .ne 16, 3) := by decide +kernel
theorem dL_law_524 : decode cL_law 524 = .ok (.iload 9, 2) := by decide +kernel
theorem dL_law_526 : decode cL_law 526 = .ok (.bipush 14, 2) := by decide +kernel
theorem dL_law_528 : decode cL_law 528 = .ok (.ishr, 1) := by decide +kernel
theorem dL_law_529 : decode cL_law 529 = .ok (.bipush 13, 2) := by decide +kernel
theorem dL_law_531 : decode cL_law 531 = .ok (.invokestatic 59, 3) := by decide +kernel
theorem dL_law_534 : decode cL_law 534 = .ok (.goto 29, 3) := by decide +kernel
theorem dL_law_537 : decode cL_law 537 = .ok (.iload 9, 2) := by decide +kernel
theorem dL_law_539 : decode cL_law 539 = .ok (.bipush 6, 2) := by decide +kernel
theorem dL_law_541 : decode cL_law 541 = .ok (.ishr, 1) := by decide +kernel
theorem dL_law_542 : decode cL_law 542 = .ok (.iload 9, 2) := by decide +kernel
theorem dL_law_544 : decode cL_law 544 = .ok (.bipush 21, 2) := by decide +kernel
theorem dL_law_546 : decode cL_law 546 = .ok (.ishr, 1) := by decide +kernel
theorem dL_law_547 : decode cL_law 547 = .ok (.iconst 3, 1) := by decide +kernel
theorem dL_law_548 : decode cL_law 548 = .ok (.invokestatic 59, 3) := by decide +kernel
theorem dL_law_551 : decode cL_law 551 = .ok (.ifCond .ne 8, 3) := by decide +kernel
theorem dL_law_554 : decode cL_law 554 = .ok (.bipush 100, 2) := by decide +kernel
theorem dL_law_556 : decode cL_law 556 = .ok (.goto 4, 3) := by decide +kernel
theorem dL_law_559 : decode cL_law 559 = .ok (.iconst 3, 1) := by decide +kernel
theorem dL_law_560 : decode cL_law 560 = .ok (.invokestatic 59, 3) := by decide +kernel
theorem dL_law_563 : decode cL_law 563 = .ok (.istore 13, 2) := by decide +kernel
theorem dL_law_565 : decode cL_law 565 = .ok (.iconst 1, 1) := by decide +kernel
theorem dL_law_566 : decode cL_law 566 = .ok (.iload 9, 2) := by decide +kernel
theorem dL_law_568 : decode cL_law 568 = .ok (.bipush 13, 2) := by decide +kernel
theorem dL_law_570 : decode cL_law 570 = .ok (.ishr, 1) := by decide +kernel
theorem dL_law_571 : decode cL_law 571 = .ok (.iconst 4, 1) := by decide +kernel
theorem dL_law_572 : decode cL_law 572 = .ok (.invokestatic 59, 3) := by decide +kernel
theorem dL_law_575 : decode cL_law 575 = .ok (.iadd, 1) := by decide +kernel
theorem dL_law_576 : decode cL_law 576 = .ok (.istore 14, 2) := by decide +kernel
theorem dL_law_578 : decode cL_law 578 = .ok (.aload_n 1, 1) := by decide +kernel
theorem dL_law_579 : decode cL_law 579 = .ok (.invokestatic 116, 3) := by decide +kernel
theorem dL_law_582 : decode cL_law 582 = .ok (.lstore 15, 2) := by decide +kernel
theorem dL_law_584 : decode cL_law 584 = .ok (.aload_n 1, 1) := by decide +kernel
theorem dL_law_585 : decode cL_law 585 = .ok (.iload 10, 2) := by decide +kernel
theorem dL_law_587 : decode cL_law 587 = .ok (.iload 11, 2) := by decide +kernel
theorem dL_law_589 : decode cL_law 589 = .ok (.iload 12, 2) := by decide +kernel
theorem dL_law_591 : decode cL_law 591 = .ok (.iload 13, 2) := by decide +kernel
theorem dL_law_593 : decode cL_law 593 = .ok (.iload 14, 2) := by decide +kernel
theorem dL_law_595 : decode cL_law 595 = .ok (.invokestatic 120, 3) := by decide +kernel
theorem dL_law_598 : decode cL_law 598 = .ok (.istore 17, 2) := by decide +kernel
theorem dL_law_600 : decode cL_law 600 = .ok (.iload 17, 2) := by decide +kernel
theorem dL_law_602 : decode cL_law 602 = .ok (.bipush (-100), 2) := by decide +kernel
theorem dL_law_604 : decode cL_law 604 = .ok (.if_icmp .ge 14, 3) := by decide +kernel
theorem dL_law_607 : decode cL_law 607 = .ok (.iload 17, 2) := by decide +kernel
theorem dL_law_609 : decode cL_law 609 = .ok (.bipush (-106), 2) := by decide +kernel
theorem dL_law_611 : decode cL_law 611 = .ok (.if_icmp .eq 7, 3) := by decide +kernel
theorem dL_law_614 : decode cL_law 614 = .ok (.iconst 1, 1) := by decide +kernel
theorem dL_law_615 : decode cL_law 615 = .ok (.goto 4, 3) := by decide +kernel
theorem dL_law_618 : decode cL_law 618 = .ok (.iconst 0, 1) := by decide +kernel
theorem dL_law_619 : decode cL_law 619 = .ok (.istore 18, 2) := by decide +kernel
theorem dL_law_621 : decode cL_law 621 = .ok (.iload 18, 2) := by decide +kernel
theorem dL_law_623 : decode cL_law 623 = .ok (.ifCond .eq 16, 3) := by decide +kernel
theorem dL_law_626 : decode cL_law 626 = .ok (.aload_n 1, 1) := by decide +kernel
theorem dL_law_627 : decode cL_law 627 = .ok (.invokestatic 116, 3) := by decide +kernel
theorem dL_law_630 : decode cL_law 630 = .ok (.lload 15, 2) := by decide +kernel
theorem dL_law_632 : decode cL_law 632 = .ok (.lcmp, 1) := by decide +kernel
theorem dL_law_633 : decode cL_law 633 = .ok (.ifCond .eq 54, 3) := by decide +kernel
theorem dL_law_636 : decode cL_law 636 = .ok (.goto 49, 3) := by decide +kernel
theorem dL_law_639 : decode cL_law 639 = .ok (.iload 8, 2) := by decide +kernel
theorem dL_law_641 : decode cL_law 641 = .ok (.bipush 24, 2) := by decide +kernel
theorem dL_law_643 : decode cL_law 643 = .ok (.ishr, 1) := by decide +kernel
theorem dL_law_644 : decode cL_law 644 = .ok (.iconst 3, 1) := by decide +kernel
theorem dL_law_645 : decode cL_law 645 = .ok (.iand, 1) := by decide +kernel
theorem dL_law_646 : decode cL_law 646 = .ok (.ifCond .ne 41, 3) := by decide +kernel
theorem dL_law_649 : decode cL_law 649 = .ok (.aload_n 1, 1) := by decide +kernel
theorem dL_law_650 : decode cL_law 650 = .ok (.invokevirtual 124, 3) := by decide +kernel
theorem dL_law_653 : decode cL_law 653 = .ok (.ifCond .lt 32, 3) := by decide +kernel
theorem dL_law_656 : decode cL_law 656 = .ok (.aload_n 1, 1) := by decide +kernel
theorem dL_law_657 : decode cL_law 657 = .ok (.invokestatic 116, 3) := by decide +kernel
theorem dL_law_660 : decode cL_law 660 = .ok (.lload 15, 2) := by decide +kernel
theorem dL_law_662 : decode cL_law 662 = .ok (.lcmp, 1) := by decide +kernel
theorem dL_law_663 : decode cL_law 663 = .ok (.ifCond .ne 22, 3) := by decide +kernel
theorem dL_law_666 : decode cL_law 666 = .ok (.aload_n 1, 1) := by decide +kernel
theorem dL_law_667 : decode cL_law 667 = .ok (.iload 10, 2) := by decide +kernel
theorem dL_law_669 : decode cL_law 669 = .ok (.iload 11, 2) := by decide +kernel
theorem dL_law_671 : decode cL_law 671 = .ok (.iload 12, 2) := by decide +kernel
theorem dL_law_673 : decode cL_law 673 = .ok (.iload 13, 2) := by decide +kernel
theorem dL_law_675 : decode cL_law 675 = .ok (.iload 14, 2) := by decide +kernel
theorem dL_law_677 : decode cL_law 677 = .ok (.invokestatic 120, 3) := by decide +kernel
theorem dL_law_680 : decode cL_law 680 = .ok (.iload 17, 2) := by decide +kernel
theorem dL_law_682 : decode cL_law 682 = .ok (.if_icmp .eq 5, 3) := by decide +kernel
theorem dL_law_685 : decode cL_law 685 = .ok (.iconst 0, 1) := by decide +kernel
theorem dL_law_686 : decode cL_law 686 = .ok (.ireturn, 1) := by decide +kernel
theorem dL_law_687 : decode cL_law 687 = .ok (.iload 17, 2) := by decide +kernel
theorem dL_law_689 : decode cL_law 689 = .ok (.iload 10, 2) := by decide +kernel
theorem dL_law_691 : decode cL_law 691 = .ok (.iload 11, 2) := by decide +kernel
theorem dL_law_693 : decode cL_law 693 = .ok (.iload 12, 2) := by decide +kernel
theorem dL_law_695 : decode cL_law 695 = .ok (.iload 13, 2) := by decide +kernel
theorem dL_law_697 : decode cL_law 697 = .ok (.iload 14, 2) := by decide +kernel
theorem dL_law_699 : decode cL_law 699 = .ok (.aload_n 2, 1) := by decide +kernel
theorem dL_law_700 : decode cL_law 700 = .ok (.aload_n 3, 1) := by decide +kernel
theorem dL_law_701 : decode cL_law 701 = .ok (.aload 4, 2) := by decide +kernel
theorem dL_law_703 : decode cL_law 703 = .ok (.aload 5, 2) := by decide +kernel
theorem dL_law_705 : decode cL_law 705 = .ok (.aload 6, 2) := by decide +kernel
theorem dL_law_707 : decode cL_law 707 = .ok (.invokestatic 127, 3) := by decide +kernel
theorem dL_law_710 : decode cL_law 710 = .ok (.if_icmp .eq 5, 3) := by decide +kernel
theorem dL_law_713 : decode cL_law 713 = .ok (.iconst 0, 1) := by decide +kernel
theorem dL_law_714 : decode cL_law 714 = .ok (.ireturn, 1) := by decide +kernel
theorem dL_law_715 : decode cL_law 715 = .ok (.aload_n 2, 1) := by decide +kernel
theorem dL_law_716 : decode cL_law 716 = .ok (.aload_n 3, 1) := by decide +kernel
theorem dL_law_717 : decode cL_law 717 = .ok (.aload 4, 2) := by decide +kernel
theorem dL_law_719 : decode cL_law 719 = .ok (.aload 5, 2) := by decide +kernel
theorem dL_law_721 : decode cL_law 721 = .ok (.aload 6, 2) := by decide +kernel
theorem dL_law_723 : decode cL_law 723 = .ok (.invokestatic 107, 3) := by decide +kernel
theorem dL_law_726 : decode cL_law 726 = .ok (.aload_n 1, 1) := by decide +kernel
theorem dL_law_727 : decode cL_law 727 = .ok (.iload 8, 2) := by decide +kernel
theorem dL_law_729 : decode cL_law 729 = .ok (.iconst 3, 1) := by decide +kernel
theorem dL_law_730 : decode cL_law 730 = .ok (.ishr, 1) := by decide +kernel
theorem dL_law_731 : decode cL_law 731 = .ok (.aload_n 2, 1) := by decide +kernel
theorem dL_law_732 : decode cL_law 732 = .ok (.aload_n 3, 1) := by decide +kernel
theorem dL_law_733 : decode cL_law 733 = .ok (.aload 4, 2) := by decide +kernel
theorem dL_law_735 : decode cL_law 735 = .ok (.aload 6, 2) := by decide +kernel
theorem dL_law_737 : decode cL_law 737 = .ok (.invokestatic 131, 3) := by decide +kernel
theorem dL_law_740 : decode cL_law 740 = .ok (.ifCond .eq 63, 3) := by decide +kernel
theorem dL_law_743 : decode cL_law 743 = .ok (.aload_n 2, 1) := by decide +kernel
theorem dL_law_744 : decode cL_law 744 = .ok (.iconst 5, 1) := by decide +kernel
theorem dL_law_745 : decode cL_law 745 = .ok (.iaload, 1) := by decide +kernel
theorem dL_law_746 : decode cL_law 746 = .ok (.ifCond .le 25, 3) := by decide +kernel
theorem dL_law_749 : decode cL_law 749 = .ok (.aload_n 1, 1) := by decide +kernel
theorem dL_law_750 : decode cL_law 750 = .ok (.iload 9, 2) := by decide +kernel
theorem dL_law_752 : decode cL_law 752 = .ok (.bipush 8, 2) := by decide +kernel
theorem dL_law_754 : decode cL_law 754 = .ok (.ishr, 1) := by decide +kernel
theorem dL_law_755 : decode cL_law 755 = .ok (.aload_n 2, 1) := by decide +kernel
theorem dL_law_756 : decode cL_law 756 = .ok (.iconst 5, 1) := by decide +kernel
theorem dL_law_757 : decode cL_law 757 = .ok (.iaload, 1) := by decide +kernel
theorem dL_law_758 : decode cL_law 758 = .ok (.invokestatic 59, 3) := by decide +kernel
theorem dL_law_761 : decode cL_law 761 = .ok (.aload_n 2, 1) := by decide +kernel
theorem dL_law_762 : decode cL_law 762 = .ok (.aload_n 3, 1) := by decide +kernel
theorem dL_law_763 : decode cL_law 763 = .ok (.aload 4, 2) := by decide +kernel
theorem dL_law_765 : decode cL_law 765 = .ok (.invokestatic 135, 3) := by decide +kernel
theorem dL_law_768 : decode cL_law 768 = .ok (.ifCond .eq 35, 3) := by decide +kernel
theorem dL_law_771 : decode cL_law 771 = .ok (.aload_n 1, 1) := by decide +kernel
theorem dL_law_772 : decode cL_law 772 = .ok (.iload 8, 2) := by decide +kernel
theorem dL_law_774 : decode cL_law 774 = .ok (.bipush 7, 2) := by decide +kernel
theorem dL_law_776 : decode cL_law 776 = .ok (.ishr, 1) := by decide +kernel
theorem dL_law_777 : decode cL_law 777 = .ok (.bipush 8, 2) := by decide +kernel
theorem dL_law_779 : decode cL_law 779 = .ok (.invokestatic 59, 3) := by decide +kernel
theorem dL_law_782 : decode cL_law 782 = .ok (.iload 8, 2) := by decide +kernel
theorem dL_law_784 : decode cL_law 784 = .ok (.bipush 10, 2) := by decide +kernel
theorem dL_law_786 : decode cL_law 786 = .ok (.ishr, 1) := by decide +kernel
theorem dL_law_787 : decode cL_law 787 = .ok (.iconst 4, 1) := by decide +kernel
theorem dL_law_788 : decode cL_law 788 = .ok (.invokestatic 59, 3) := by decide +kernel
theorem dL_law_791 : decode cL_law 791 = .ok (.aload_n 2, 1) := by decide +kernel
theorem dL_law_792 : decode cL_law 792 = .ok (.aload_n 3, 1) := by decide +kernel
theorem dL_law_793 : decode cL_law 793 = .ok (.aload 4, 2) := by decide +kernel
theorem dL_law_795 : decode cL_law 795 = .ok (.aload 6, 2) := by decide +kernel
theorem dL_law_797 : decode cL_law 797 = .ok (.invokestatic 139, 3) := by decide +kernel
theorem dL_law_800 : decode cL_law 800 = .ok (.ifCond .ne 5, 3) := by decide +kernel
theorem dL_law_803 : decode cL_law 803 = .ok (.iconst 0, 1) := by decide +kernel
theorem dL_law_804 : decode cL_law 804 = .ok (.ireturn, 1) := by decide +kernel
theorem dL_law_805 : decode cL_law 805 = .ok (.iinc 7 1, 3) := by decide +kernel
theorem dL_law_808 : decode cL_law 808 = .ok (.goto (-677), 3) := by decide +kernel
theorem dL_law_811 : decode cL_law 811 = .ok (.iconst 1, 1) := by decide +kernel
theorem dL_law_812 : decode cL_law 812 = .ok (.ireturn, 1) := by decide +kernel
end
section
/-! ===== the judgement GW: the machine at a place of a method, over a world of cells; its rows; contracts CT ===== -/
abbrev g_tys (cI cR : ClassId) : List (ClassId × FieldType) := [(cI, .int), (cR, .object RX3)]
def g_least : Nat → Int32 := fun j => if j = 2 then 1 else 0
def g_most : Nat → Int32 := fun j => if j = 0 then 90 else if j = 1 then 240 else if j = 2 then 6 else if j = 3 then 300 else 40
def g_first : Nat → Int32 := fun j => if j = 0 then 30 else if j = 1 then 60 else if j = 2 then 3 else if j = 3 then 60 else 6
def g_S1 (n : String) (f : Nat → Int32) (A : Nat → Prop) (U : State) (H : Heap) : Prop := ∃ t : Nat, va_Z "ShuttleDoors" n "[I" (.ref t) A U H ∧ va_T .int t 5 (fun j => .int (f j)) A U H
theorem g_S1.step {n : String} {f : Nat → Int32} {A B : Nat → Prop} {s U : State} {H H1 : Heap} (h : g_S1 n f A s H) (hq : ∀ a : Nat, a < H.size → ¬ A a → H1[a]? = H[a]?) (hvm : s.vm.Alike U.vm) (hAB : ∀ q, B q → A q) : g_S1 n f B U H1 := by
  obtain ⟨t, h1, h2⟩ := h
  exact ⟨t, ((h1.kept hq).moved hvm).narrow hAB, ((h2.kept hq).moved hvm).narrow hAB⟩
def g_NW (U : State) : Prop :=
  va_Nw (.fieldLinkNest RX3 39 "ShuttleDoors" "SETTING_FIRST" "[I" "ShuttleDoors") U ∧
  va_Nw (.methodLinkNest RX5 18 yX2_init "ShuttleDoors") U ∧
  va_Nw (.methodLinkNest RX5 25 yX4_init "ShuttleDoors") U ∧
  va_Nw (.methodLinkNest RX5 38 yX1_init "ShuttleDoors") U ∧
  va_Nw (.methodLinkNest RX2 81 yX5_isIn "ShuttleDoors") U ∧
  va_Nw (.methodLinkNest RX2 64 yX5_isVan "ShuttleDoors") U ∧ va_AO RX3 U
theorem g_NW.warm {s U : State} (hW : s.WarmedH U.vm) (h : g_NW s) : g_NW U :=
  ⟨va_Nw.warmF hW h.1, va_Nw.warmM hW h.2.1, va_Nw.warmM hW h.2.2.1, va_Nw.warmM hW h.2.2.2.1, va_Nw.warmM hW h.2.2.2.2.1, va_Nw.warmM hW h.2.2.2.2.2.1, va_AO.moved hW.alike h.2.2.2.2.2.2⟩
theorem g_NW.same {s U : State} (hv : s.vm = U.vm) (h : g_NW s) : g_NW U :=
  ⟨va_Nw.same rfl hv h.1, va_Nw.same rfl hv h.2.1, va_Nw.same rfl hv h.2.2.1, va_Nw.same rfl hv h.2.2.2.1, va_Nw.same rfl hv h.2.2.2.2.1, va_Nw.same rfl hv h.2.2.2.2.2.1, va_AO.moved (by rw [hv]; exact Vm.Alike.refl U.vm) h.2.2.2.2.2.2⟩
def g_ST (A : Nat → Prop) (U : State) : Prop := g_S1 "SETTING_LEAST" g_least A U U.heap ∧ g_S1 "SETTING_MOST" g_most A U U.heap ∧ g_S1 "SETTING_FIRST" g_first A U U.heap ∧ g_NW U
theorem g_ST.blind {A : Nat → Prop} {U : State} {g : JFrame} {mk : MethodId} {a : Array Value} (h : g_ST A U) : g_ST A (U.calling g mk a) :=
  ⟨h.1.step (fun _ _ _ => rfl) (Vm.Alike.refl U.vm) (fun _ h => h), h.2.1.step (fun _ _ _ => rfl) (Vm.Alike.refl U.vm) (fun _ h => h), h.2.2.1.step (fun _ _ _ => rfl) (Vm.Alike.refl U.vm) (fun _ h => h), h.2.2.2.same rfl⟩
def g_Pc (D : va_G) (cI cR : ClassId) (av : List Value) (wc : va_W) (sz : Nat) : Array Value → State → Prop := va_Pc av (fun U => U.heap.size = sz ∧ va_P D vwCl wc U.heap ∧ va_K D vwCl (g_tys cI cR) U ∧ va_D (fun _ => True) wc ∧ g_ST (va_A wc sz) U)
theorem g_Pc.blind {D : va_G} {cI cR : ClassId} {av : List Value} {wc : va_W} {sz : Nat} : FrameBlind (g_Pc D cI cR av wc sz) := fun a U g mk q => by
  obtain ⟨e, h1, h2, h3, h4, h5⟩ := q
  exact ⟨e, h1, h2, va_K.moved (u := U) (U := U.calling g mk a) (Vm.Alike.refl U.vm) h3, h4, h5.blind⟩
def g_Q {S : Type} (D : va_G) (post : Option Value → S → Prop) (B : S → va_W) (A : Nat → Prop) : Array Value → State → Outcome → State → Prop := fun _ st oc t => (∃ (v : Option Value) (u : S), oc = .returned v ∧ post v u ∧ va_P D vwCl (B u) t.heap ∧ va_D A (B u)) ∧ va_F A st t
/-- a contract: from a heap that holds the world wc, the method returns, 'post' holds of its answer and of u, the heap holds the world B u -/
def CT (l : Launch) (D : va_G) (cI cR : ClassId) (y : MethodName) (cy : ByteArray) (nL : Nat) (ret : Option FieldType) (rm : Room) (av : List Value) (wc : va_W) {S : Type} (B : S → va_W) (post : Option Value → S → Prop) (mc ms : Nat) : Prop :=
  ∀ sz : Nat, Met l y (Cond.code y cy nL ret :: lw_good) rm (g_Pc D cI cR av wc sz) (g_Q D post B (va_A wc sz)) mc ms (va_A wc sz)
def KC (p : Program) (s : State) (m : MethodId) (args : Array Value) (meth : Method) (c : Code) (cc : ByteArray) (nL : Nat) (own : String) (D : va_G) (cI cR : ClassId) (A : Nat → Prop) (ret : Option FieldType) : Prop :=
  CallFix p m c cc nL s args lw_good own ∧ va_K D vwCl (g_tys cI cR) s ∧ (∀ q : Nat, s.heap.size ≤ q → A q) ∧ g_ST A s ∧ meth.locks = false ∧ meth.sig.returnType = ret
def GW (p : Program) (l : Launch) (e : Env) (R : Room) (s : State) (m : MethodId) (args : Array Value) (below : List Frame) (meth : Method) (c : Code) (D : va_G) (A : Nat → Prop) (nL : Nat) (Q : State → Prop) (ce sl : Nat) (ws : va_W) (lv : List (Nat × Value)) (pc : Nat) (st : List Value) : Prop :=
  ∀ (H : Heap) (locs : List Loc) (ls : Array Slot), va_P D vwCl ws H → va_D A ws → va_S A s.heap H locs → lv_has ls nL lv → W p l e R s m args below meth c H locs ce sl Q (F0 m pc ls st)
abbrev GM (p : Program) (l : Launch) (e : Env) (R : Room) (s : State) (m : MethodId) (args : Array Value) (below : List Frame) (meth : Method) (c : Code) (D : va_G) (A : Nat → Prop) (nL : Nat) {S : Type} (post : Option Value → S → Prop) (B : S → va_W) (mc ms : Nat) (ce sl : Nat) (ws : va_W) (lv : List (Nat × Value)) (pc : Nat) (st : List Value) : Prop :=
  GW p l e R s m args below meth c D A nL (MQ below (g_Q D post B A) args s mc ms A) ce sl ws lv pc st
/-- cells of a world put back by their places; those that are left over come behind -/
def g_repl {α : Type} : List α → List Nat → List α → List α
  | ws, [], es => ws ++ es
  | ws, _ :: _, [] => ws
  | ws, i :: is, e :: es => g_repl (ws.set i e) is es
theorem g_repl_get {α : Type} : ∀ (is : List Nat) (ws es : List α) (k : Nat) (q : α), is.length ≤ es.length → (g_repl ws is es)[k]? = some q →
    (∃ j, es[j]? = some q ∧ (is[j]? = some k ∨ (is.length ≤ j ∧ k = ws.length + (j - is.length)))) ∨ (k ∉ is ∧ ws[k]? = some q)
  | [], ws, es, k, q, _, h => by
    simp only [g_repl] at h
    by_cases hl : k < ws.length
    · rw [List.getElem?_append_left hl] at h
      exact Or.inr ⟨List.not_mem_nil, h⟩
    · rw [List.getElem?_append_right (by omega)] at h
      exact Or.inl ⟨k - ws.length, h, Or.inr ⟨Nat.zero_le _, by simp; omega⟩⟩
  | i :: is, ws, [], k, q, hlen, h => by simp at hlen
  | i :: is, ws, e :: es, k, q, hlen, h => by
    simp only [g_repl] at h
    rcases g_repl_get is (ws.set i e) es k q (by simpa using hlen) h with ⟨j, h1, h2⟩ | ⟨h1, h2⟩
    · refine Or.inl ⟨j + 1, by simpa using h1, ?_⟩
      rcases h2 with h2 | ⟨h2, h3⟩
      · exact Or.inl (by simpa using h2)
      · exact Or.inr ⟨by simpa using h2, by rw [List.length_set] at h3; rw [List.length_cons]; omega⟩
    · by_cases hk : k = i
      · subst hk
        have hlt : k < ws.length := by
          have := (List.getElem?_eq_some_iff.mp h2).1
          simpa using this
        rw [List.getElem?_set_self hlt] at h2
        exact Or.inl ⟨0, by simpa using h2, Or.inl (by simp)⟩
      · rw [List.getElem?_set_ne (Ne.symm hk)] at h2
        exact Or.inr ⟨fun hm => (List.mem_cons.mp hm).elim hk h1, h2⟩
theorem g_pickC {ws wc : va_W} {isC : List Nat} (hC : isC.map (fun i => ws[i]?) = wc.map some) {k : Nat} {q : Nat × va_E} (hq : wc[k]? = some q) : ∃ i, isC[k]? = some i ∧ ws[i]? = some q := by
  have h1 : (isC.map (fun i => ws[i]?))[k]? = some (some q) := by rw [hC, List.getElem?_map, hq]; rfl
  rw [List.getElem?_map] at h1
  cases hi : isC[k]? with
  | none => rw [hi] at h1; cases h1
  | some i => rw [hi] at h1; exact ⟨i, rfl, Option.some.inj h1⟩
theorem g_join {A : Nat → Prop} {D : va_G} {ws wc w1 : va_W} {H H1 : Heap} (hP : va_P D vwCl ws H) (hD : va_D A ws) (isC : List Nat) (hC : isC.map (fun i => ws[i]?) = wc.map some) (hB : isC.length ≤ w1.length)
    (hk : ∀ q : Nat, q < H.size → ¬ va_A wc H.size q → H1[q]? = H[q]?) (hF : ∀ q, va_A wc H.size q → A q) (hP1 : va_P D vwCl w1 H1) (hD1 : va_D (va_A wc H.size) w1) : va_P D vwCl (g_repl ws isC w1) H1 ∧ va_D A (g_repl ws isC w1) := by
  have apart : ∀ (k : Nat) (q : Nat × va_E), k ∉ isC → ws[k]? = some q → q.1 < H.size ∧ ¬ va_A wc H.size q.1 := by
    intro k q hn hq
    have hl := (hP k q hq).lt
    refine ⟨hl, fun h => ?_⟩
    rcases h with ⟨k2, e, h⟩ | h
    · obtain ⟨j, h3, h4⟩ := g_pickC hC h
      have hij := hD.1 k j q (q.1, e) hq h4 rfl
      subst hij
      exact hn (List.mem_of_getElem? h3)
    · omega
  refine ⟨fun k q h => ?_, fun i j x y hx hy hxy => ?_, fun k q h => ?_⟩
  · rcases g_repl_get isC ws w1 k q hB h with ⟨j, h1, -⟩ | ⟨h1, h2⟩
    · exact hP1 j q h1
    · obtain ⟨g1, g2⟩ := apart k q h1 h2
      exact (hP k q h2).kept (hk q.1 g1 g2)
  · rcases g_repl_get isC ws w1 i x hB hx with ⟨a, h1, h1'⟩ | ⟨h1, h2⟩ <;> rcases g_repl_get isC ws w1 j y hB hy with ⟨b, h3, h3'⟩ | ⟨h3, h4⟩
    · have hab := hD1.1 a b x y h1 h3 hxy
      subst hab
      rcases h1' with h1' | ⟨h1', e1⟩ <;> rcases h3' with h3' | ⟨h3', e3⟩
      · exact Option.some.inj (h1'.symm.trans h3')
      · have := (List.getElem?_eq_some_iff.mp h1').1
        omega
      · have := (List.getElem?_eq_some_iff.mp h3').1
        omega
      · rw [e1, e3]
    · exact absurd (hxy ▸ hD1.2 a x h1) (apart j y h3 h4).2
    · exact absurd (hxy.symm ▸ hD1.2 b y h3) (apart i x h1 h2).2
    · exact hD.1 i j x y h2 h4 hxy
  · rcases g_repl_get isC ws w1 k q hB h with ⟨j, h1, -⟩ | ⟨h1, h2⟩
    · exact hF _ (hD1.2 j q h1)
    · exact hD.2 k q h2
theorem g_call {S : Type} {post : Option Value → S → Prop} {B : S → va_W} {p : Program} {l : Launch} {e : Env} {R : Room} {s : State} {m : MethodId} {args : Array Value} {below : List Frame} {meth : Method} {c : Code} {H : Heap} {locs : List Loc} {cells slots mc ms pc : Nat} {ls : Array Slot} {st0 rest : List Value} {D : va_G} {A0 A1 : Nat → Prop} {H0 : Heap} {a : Array Value} {free : Addr → Prop} {Q : State → Prop}
    (hr : va_Run p l e R s m args below meth c H locs cells slots mc ms (F0 m pc ls st0) rest (g_Q D post B A1 a) free) (hS : va_S A0 H0 H locs) (hA : ∀ q, q < H.size → A1 q → A0 q) (hf : ∀ q, free q → A0 q)
    (kk : ∀ (v : Option Value) (u : S) (H1 : Heap) (locs1 : List Loc), post v u → va_P D vwCl (B u) H1 → va_D A1 (B u) → (∀ q : Nat, q < H.size → ¬ A1 q → H1[q]? = H[q]?) → va_S A0 H0 H1 locs1 → W p l e R s m args below meth c H1 locs1 (cells + mc) (slots + ms) Q (F0 m (pc + 3) ls (v.toList ++ rest))) : W p l e R s m args below meth c H locs cells slots Q (F0 m pc ls st0) := by
  intro T hT X
  obtain ⟨v, st₀, t, T', L, h0, X', hL, e1, e2, ⟨⟨v', u, hv, hp, hb, hd⟩, hz, hk⟩, st⟩ := hr T hT X
  have hv2 : v = v' := by injection hv
  rw [h0] at hz hk
  obtain ⟨t2, a1, b1⟩ := kk v u T'.heap (locs ++ L) (hv2 ▸ hp) (by rw [e1]; exact hb) hd (fun q h1 h2 => by rw [e1]; exact hk q h1 h2)
    ⟨Nat.le_trans hS.1 (by rw [e1]; exact hz), fun q h1 h2 => by rw [e1, hk q (Nat.lt_of_lt_of_le h1 hS.1) (fun z => h2 (hA q (Nat.lt_of_lt_of_le h1 hS.1) z))]; exact hS.2.1 q h1 h2, fun q hq => by
      rcases List.mem_append.mp hq with h | h
      · exact hS.2.2 q h
      · exact hf _ (hL q h)⟩ T' rfl X'
  exact ⟨t2, st t2 a1, b1⟩
theorem g_good {y : MethodName} {cy : ByteArray} {n : Nat} {ret : Option FieldType} (h : Cond.code y cy n ret ∈ lw_good) : GoodIn lw_good (Cond.code y cy n ret :: lw_good) := fun w hw => by
  have hm : w ∈ lw_good := (List.mem_cons.mp hw).elim (fun e => e ▸ h) id
  exact ⟨hm, good_of_word (List.mem_filter.mp hm).2⟩
section GWS
variable {p : Program} {l : Launch} {e : Env} {R : Room} {s : State} {m : MethodId} {args : Array Value} {below : List Frame} {meth : Method} {c : Code} {D : va_G} {cI cR : ClassId} {A : Nat → Prop} {nL : Nat} {Q : State → Prop} {ce sl : Nat} {ws : va_W} {lv : List (Nat × Value)} {pc : Nat} {st : List Value} {cc : ByteArray} {own : String} {ret : Option FieldType}
theorem g_pre (κ : KC p s m args meth c cc nL own D cI cR A ret) {H : Heap} {locs : List Loc} {av : List Value} {wc : va_W} (hP : va_P D vwCl ws H) (hD : va_D A ws) (hS : va_S A s.heap H locs) (isC : List Nat) (hC : isC.map (fun i => ws[i]?) = wc.map some) (hN : va_nd isC = true) :
    ∀ U : State, U.heap = H → s.WarmedH U.vm → g_Pc D cI cR av wc H.size av.toArray U := by
  intro U hU hW
  have hF := va_free (wc := wc) hD hS κ.2.2.1 isC hC
  have hq : ∀ a : Nat, a < s.heap.size → ¬ A a → U.heap[a]? = s.heap[a]? := fun a h1 h2 => by rw [hU]; exact hS.2.1 a h1 h2
  have hst := κ.2.2.2.1
  refine ⟨rfl, by rw [hU], ?_, va_K.moved hW.alike κ.2.1, (hD.sub isC hN hC).weaken (fun _ _ _ _ => trivial), hst.1.step hq hW.alike hF, hst.2.1.step hq hW.alike hF, hst.2.2.1.step hq hW.alike hF, hst.2.2.2.warm hW⟩
  rw [hU]
  intro k q hk
  obtain ⟨i, -, hi⟩ := g_pickC hC hk
  exact hP i q hi
theorem gw_run (κ : KC p s m args meth c cc nL own D cI cR A ret) {S : Type} {B : S → va_W} {post : Option Value → S → Prop} {wc : va_W} {mc ms : Nat} {rest st0 : List Value} {aa : Array Value} (isC : List Nat) (hC : isC.map (fun i => ws[i]?) = wc.map some) (hB : ∀ u, isC.length ≤ (B u).length)
    (hr : ∀ (H : Heap) (locs : List Loc) (ls : Array Slot), va_P D vwCl ws H → va_D A ws → va_S A s.heap H locs → lv_has ls nL lv → va_Run p l e R s m args below meth c H locs ce sl mc ms (F0 m pc ls st0) rest (g_Q D post B (va_A wc H.size) aa) (va_A wc H.size))
    (kk : ∀ v u, post v u → GW p l e R s m args below meth c D A nL Q (ce + mc) (sl + ms) (g_repl ws isC (B u)) lv (pc + 3) (v.toList ++ rest)) : GW p l e R s m args below meth c D A nL Q ce sl ws lv pc st0 := by
  intro H locs ls hP hD hS hl
  have hF := va_free (wc := wc) hD hS κ.2.2.1 isC hC
  refine g_call (hr H locs ls hP hD hS hl) hS (fun q _ h => hF q h) hF (fun v u H1 locs1 hp hP1 hD1 hk hS1 => ?_)
  obtain ⟨hP2, hD2⟩ := g_join hP hD isC hC (hB u) hk hF hP1 hD1
  exact kk v u hp H1 locs1 ls hP2 hD2 hS1 hl
abbrev g_hy (y : MethodName) (n : Nat) : Prop := y.cls ≠ "java/lang/invoke/MethodHandle" ∧ y.cls ≠ "java/lang/invoke/VarHandle" ∧ (parseMethodDescriptor y.desc).map (fun d => d.parameters.length) = some n
abbrev g_rm (R rm : Room) (nLy mc ms : Nat) : Prop := rm.cells = mc ∧ rm.slots = ms ∧ rm.frames + 1 ≤ R.frames ∧ 8 + (nLy + 11) + rm.locals ≤ R.locals
theorem gw_callV (κ : KC p s m args meth c cc nL own D cI cR A ret) {y : MethodName} {cy : ByteArray} {nLy : Nat} {rety : Option FieldType} {rm : Room} {b : Nat} {As : List Value} {wc : va_W} {S : Type} {B : S → va_W} {post : Option Value → S → Prop} {mc ms n idx ci qb : Nat} {fs : List Value} {r : vw_C} {rest : List Value}
    (hct : CT l D cI cR y cy nLy rety rm (.ref b :: As) wc B post mc ms) (hrm : g_rm R rm nLy mc ms)
    (hwl : Cond.methodLink own idx y ∈ lw_good) (hwi : Cond.instanceMethod y ∈ lw_good) (hws : Cond.selects y.cls y y ∈ lw_good) (hwc : Cond.code y cy nLy rety ∈ lw_good) (hwn : Cond.initialized y.cls ∈ lw_good)
    (hy : g_hy y n) (hn : As.length = n) (hcl : vwCl[ci]? = some r) (hrc : r.1 = y.cls) (hqb : ws[qb]? = some (b, .inr (ci, fs)))
    (hW : (rest.map fun v => v.category).sum ≤ 8) (hst : st = As.reverse ++ .ref b :: rest) (hd : decode cc pc = .ok (.invokevirtual idx, 3))
    (isC : List Nat) (hC : isC.map (fun i => ws[i]?) = wc.map some) (hN : va_nd isC = true) (hB : ∀ u, isC.length ≤ (B u).length) (hcells : ce + mc ≤ R.cells ∧ sl + ms ≤ R.slots)
    (kk : ∀ v u, post v u → GW p l e R s m args below meth c D A nL Q (ce + mc) (sl + ms) (g_repl ws isC (B u)) lv (pc + 3) (v.toList ++ rest)) : GW p l e R s m args below meth c D A nL Q ce sl ws lv pc st := by
  have hts := κ.1.2.2.2.2
  refine gw_run κ (rest := rest) (aa := (Value.ref b :: As).toArray) isC hC hB (fun H locs ls hP hD hS hl => ?_) kk
  obtain ⟨cell, g1, g2, g3⟩ := va_recv κ.2.1 hP hcl hqb
  exact va_runV (C := y.cls) (n := n) (ret := rety) κ.1 (hct H.size) ⟨callB_of n hts (g_good hwc) rfl hrm.1 hrm.2.1 (hts _ hwn) (hts _ hwl) hy hrm.2.2, hts _ hwi, hts _ hws⟩
    ⟨g_Pc.blind, ⟨cell, g1, g2, by rw [← hrc]; exact g3⟩, g_pre κ hP hD hS isC hC hN⟩ rfl hn hl.1 hst (lv_room hW) hd hcells
theorem gw_callS (κ : KC p s m args meth c cc nL own D cI cR A ret) {y : MethodName} {cy : ByteArray} {nLy : Nat} {rety : Option FieldType} {rm : Room} {As : List Value} {wc : va_W} {S : Type} {B : S → va_W} {post : Option Value → S → Prop} {mc ms n idx : Nat} {rest : List Value}
    (hct : CT l D cI cR y cy nLy rety rm As wc B post mc ms) (hrm : g_rm R rm nLy mc ms)
    (hwl : Cond.methodLink own idx y ∈ lw_good) (hwi : Cond.static y ∈ lw_good) (hwc : Cond.code y cy nLy rety ∈ lw_good) (hwn : Cond.initialized y.cls ∈ lw_good)
    (hy : g_hy y n) (hn : As.length = n)
    (hW : (rest.map fun v => v.category).sum ≤ 8) (hst : st = As.reverse ++ rest) (hd : decode cc pc = .ok (.invokestatic idx, 3))
    (isC : List Nat) (hC : isC.map (fun i => ws[i]?) = wc.map some) (hN : va_nd isC = true) (hB : ∀ u, isC.length ≤ (B u).length) (hcells : ce + mc ≤ R.cells ∧ sl + ms ≤ R.slots)
    (kk : ∀ v u, post v u → GW p l e R s m args below meth c D A nL Q (ce + mc) (sl + ms) (g_repl ws isC (B u)) lv (pc + 3) (v.toList ++ rest)) : GW p l e R s m args below meth c D A nL Q ce sl ws lv pc st := by
  have hts := κ.1.2.2.2.2
  refine gw_run κ (rest := rest) (aa := As.toArray) isC hC hB (fun H locs ls hP hD hS hl => ?_) kk
  exact va_runS (n := n) (ret := rety) κ.1 (hct H.size) ⟨callB_of n hts (g_good hwc) rfl hrm.1 hrm.2.1 (hts _ hwn) (hts _ hwl) hy hrm.2.2, hts _ hwi⟩
    ⟨g_Pc.blind, g_pre κ hP hD hS isC hC hN⟩ rfl hn hl.1 hst (lv_room hW) hd hcells
theorem gw_callSN (κ : KC p s m args meth c cc nL own D cI cR A ret) {y : MethodName} {cy : ByteArray} {nLy : Nat} {rety : Option FieldType} {rm : Room} {As : List Value} {wc : va_W} {S : Type} {B : S → va_W} {post : Option Value → S → Prop} {mc ms n idx : Nat} {rest : List Value} {host : String}
    (hct : CT l D cI cR y cy nLy rety rm As wc B post mc ms) (hrm : g_rm R rm nLy mc ms)
    (hwl : va_Nw (.methodLinkNest own idx y host) s) (hwi : Cond.static y ∈ lw_good) (hwc : Cond.code y cy nLy rety ∈ lw_good) (hwn : Cond.initialized y.cls ∈ lw_good)
    (hy : g_hy y n) (hn : As.length = n)
    (hW : (rest.map fun v => v.category).sum ≤ 8) (hst : st = As.reverse ++ rest) (hd : decode cc pc = .ok (.invokestatic idx, 3))
    (isC : List Nat) (hC : isC.map (fun i => ws[i]?) = wc.map some) (hN : va_nd isC = true) (hB : ∀ u, isC.length ≤ (B u).length) (hcells : ce + mc ≤ R.cells ∧ sl + ms ≤ R.slots)
    (kk : ∀ v u, post v u → GW p l e R s m args below meth c D A nL Q (ce + mc) (sl + ms) (g_repl ws isC (B u)) lv (pc + 3) (v.toList ++ rest)) : GW p l e R s m args below meth c D A nL Q ce sl ws lv pc st := by
  have hts := κ.1.2.2.2.2
  refine gw_run κ (rest := rest) (aa := As.toArray) isC hC hB (fun H locs ls hP hD hS hl => ?_) kk
  exact va_runSN (n := n) (ret := rety) κ.1 (hct H.size) ⟨va_cnB n hts (g_good hwc) rfl hrm.1 hrm.2.1 hwl (hts _ hwn) hy hrm.2.2, hts _ hwi, trivial⟩
    ⟨g_Pc.blind, g_pre κ hP hD hS isC hC hN⟩ rfl hn hl.1 hst (lv_room hW) hd hcells
theorem gw_callI (κ : KC p s m args meth c cc nL own D cI cR A ret) {y : MethodName} {cy : ByteArray} {nLy : Nat} {rm : Room} {b : Nat} {As : List Value} {wc : va_W} {S : Type} {B : S → va_W} {post : Option Value → S → Prop} {mc ms n idx : Nat} {rest : List Value}
    (hct : CT l D cI cR y cy nLy none rm (.ref b :: As) wc B post mc ms) (hrm : g_rm R rm nLy mc ms)
    (hwl : Cond.methodLink own idx y ∈ lw_good) (hwi : Cond.instanceMethod y ∈ lw_good) (hwc : Cond.code y cy nLy none ∈ lw_good) (hwn : Cond.initialized y.cls ∈ lw_good)
    (hy : g_hy y n) (hy1 : y.name = "<init>") (hn : As.length = n)
    (hW : (rest.map fun v => v.category).sum ≤ 8) (hst : st = As.reverse ++ .ref b :: rest) (hd : decode cc pc = .ok (.invokespecial idx, 3))
    (isC : List Nat) (hC : isC.map (fun i => ws[i]?) = wc.map some) (hN : va_nd isC = true) (hB : ∀ u, isC.length ≤ (B u).length) (hcells : ce + mc ≤ R.cells ∧ sl + ms ≤ R.slots)
    (kk : ∀ v u, post v u → GW p l e R s m args below meth c D A nL Q (ce + mc) (sl + ms) (g_repl ws isC (B u)) lv (pc + 3) (v.toList ++ rest)) : GW p l e R s m args below meth c D A nL Q ce sl ws lv pc st := by
  have hts := κ.1.2.2.2.2
  refine gw_run κ (rest := rest) (aa := (Value.ref b :: As).toArray) isC hC hB (fun H locs ls hP hD hS hl => ?_) kk
  exact va_runI (n := n) κ.1 (hct H.size) ⟨callB_of n hts (g_good hwc) rfl hrm.1 hrm.2.1 (hts _ hwn) (hts _ hwl) hy hrm.2.2, hy1, hts _ hwi⟩
    ⟨g_Pc.blind, g_pre κ hP hD hS isC hC hN⟩ rfl hn hl.1 hst (lv_room hW) hd hcells
theorem gw_callIN (κ : KC p s m args meth c cc nL own D cI cR A ret) {y : MethodName} {cy : ByteArray} {nLy : Nat} {rm : Room} {b : Nat} {As : List Value} {wc : va_W} {S : Type} {B : S → va_W} {post : Option Value → S → Prop} {mc ms n idx : Nat} {rest : List Value} {host : String}
    (hct : CT l D cI cR y cy nLy none rm (.ref b :: As) wc B post mc ms) (hrm : g_rm R rm nLy mc ms)
    (hwl : va_Nw (.methodLinkNest own idx y host) s) (hwi : Cond.instanceMethod y ∈ lw_good) (hwc : Cond.code y cy nLy none ∈ lw_good) (hwn : Cond.initialized y.cls ∈ lw_good)
    (hy : g_hy y n) (hy1 : y.name = "<init>") (hn : As.length = n)
    (hW : (rest.map fun v => v.category).sum ≤ 8) (hst : st = As.reverse ++ .ref b :: rest) (hd : decode cc pc = .ok (.invokespecial idx, 3))
    (isC : List Nat) (hC : isC.map (fun i => ws[i]?) = wc.map some) (hN : va_nd isC = true) (hB : ∀ u, isC.length ≤ (B u).length) (hcells : ce + mc ≤ R.cells ∧ sl + ms ≤ R.slots)
    (kk : ∀ v u, post v u → GW p l e R s m args below meth c D A nL Q (ce + mc) (sl + ms) (g_repl ws isC (B u)) lv (pc + 3) (v.toList ++ rest)) : GW p l e R s m args below meth c D A nL Q ce sl ws lv pc st := by
  have hts := κ.1.2.2.2.2
  refine gw_run κ (rest := rest) (aa := (Value.ref b :: As).toArray) isC hC hB (fun H locs ls hP hD hS hl => ?_) kk
  exact va_runIN (n := n) κ.1 (hct H.size) ⟨va_cnB n hts (g_good hwc) rfl hrm.1 hrm.2.1 hwl (hts _ hwn) hy hrm.2.2, hy1, hts _ hwi⟩
    ⟨g_Pc.blind, g_pre κ hP hD hS isC hC hN⟩ rfl hn hl.1 hst (lv_room hW) hd hcells
/-- another form of the same world, of the locals -/
theorem gw_ws {ws' : va_W} (h : ws = ws') (k : GW p l e R s m args below meth c D A nL Q ce sl ws' lv pc st) : GW p l e R s m args below meth c D A nL Q ce sl ws lv pc st := h ▸ k
theorem gw_lv {lv' : List (Nat × Value)} (ks : List Nat) (h : lv_pick lv ks = lv') (k : GW p l e R s m args below meth c D A nL Q ce sl ws lv' pc st) : GW p l e R s m args below meth c D A nL Q ce sl ws lv pc st :=
  fun H locs ls hP hD hS hl => k H locs ls hP hD hS (lv_sub hl ks h)
theorem gw_widen {k n : Nat} (h1 : ce ≤ k) (h2 : sl ≤ n) (kk : GW p l e R s m args below meth c D A nL Q k n ws lv pc st) : GW p l e R s m args below meth c D A nL Q ce sl ws lv pc st :=
  fun H locs ls hP hD hS hl => W.widen h1 h2 (kk H locs ls hP hD hS hl)
end GWS
end
section
section GWR
variable {p : Program} {l : Launch} {e : Env} {R : Room} {s : State} {m : MethodId} {args : Array Value} {below : List Frame} {meth : Method} {c : Code} {D : va_G} {cI cR : ClassId} {A : Nat → Prop} {nL : Nat} {Q : State → Prop} {ce sl : Nat} {ws : va_W} {lv : List (Nat × Value)} {pc pc' : Nat} {st : List Value} {cc : ByteArray} {own : String} {ret : Option FieldType}
theorem gw_iconst (κ : KC p s m args meth c cc nL own D cI cR A ret) {n : Int} {v : Int32} (hd : decode cc pc = .ok (.iconst n, 1)) (hp : pc + 1 = pc')   (hv : Int32.ofInt n = v) (kk : GW p l e R s m args below meth c D A nL Q ce sl ws lv pc' (.int v :: st)) : GW p l e R s m args below meth c D A nL Q ce sl ws lv pc st := by
  subst hp
  exact fun H locs ls hP hD hS hl => lv_iconst κ.1.1 κ.1.2.1  hd hv (kk H locs ls hP hD hS hl)
theorem gw_bipush (κ : KC p s m args meth c cc nL own D cI cR A ret) {n : Int} {v : Int32} (hd : decode cc pc = .ok (.bipush n, 2)) (hp : pc + 2 = pc')   (hv : (Int8.ofInt n).toInt32 = v) (kk : GW p l e R s m args below meth c D A nL Q ce sl ws lv pc' (.int v :: st)) : GW p l e R s m args below meth c D A nL Q ce sl ws lv pc st := by
  subst hp
  exact fun H locs ls hP hD hS hl => lv_bipush κ.1.1 κ.1.2.1  hd hv (kk H locs ls hP hD hS hl)
theorem gw_sipush (κ : KC p s m args meth c cc nL own D cI cR A ret) {n : Int} {v : Int32} (hd : decode cc pc = .ok (.sipush n, 3)) (hp : pc + 3 = pc')   (hv : (Int16.ofInt n).toInt32 = v) (kk : GW p l e R s m args below meth c D A nL Q ce sl ws lv pc' (.int v :: st)) : GW p l e R s m args below meth c D A nL Q ce sl ws lv pc st := by
  subst hp
  exact fun H locs ls hP hD hS hl => lv_sipush κ.1.1 κ.1.2.1  hd hv (kk H locs ls hP hD hS hl)
theorem gw_lconst (κ : KC p s m args meth c cc nL own D cI cR A ret) {n : Fin 2} {v : Int64} (hd : decode cc pc = .ok (.lconst n, 1)) (hp : pc + 1 = pc')   (hv : Int64.ofNat (n : Nat) = v) (kk : GW p l e R s m args below meth c D A nL Q ce sl ws lv pc' (.long v :: st)) : GW p l e R s m args below meth c D A nL Q ce sl ws lv pc st := by
  subst hp
  exact fun H locs ls hP hD hS hl => lv_lconst κ.1.1 κ.1.2.1  hd hv (kk H locs ls hP hD hS hl)
theorem gw_iload_n (κ : KC p s m args meth c cc nL own D cI cR A ret) {k : Fin 4} {i : Nat} {x : Int32} (hd : decode cc pc = .ok (.iload_n k, 1)) (hp : pc + 1 = pc')    (j : Nat) (hj : lv[j]? = some (i, .int x)) (hi : (k : Nat) = i) (kk : GW p l e R s m args below meth c D A nL Q ce sl ws lv pc' (.int x :: st)) : GW p l e R s m args below meth c D A nL Q ce sl ws lv pc st := by
  subst hp
  exact fun H locs ls hP hD hS hl => lv_iload_n κ.1.1 κ.1.2.1  hd hi (lv_at hl j hj) (kk H locs ls hP hD hS hl)
theorem gw_iload (κ : KC p s m args meth c cc nL own D cI cR A ret) {i : Nat} {x : Int32} (hd : decode cc pc = .ok (.iload i, 2)) (hp : pc + 2 = pc')   (j : Nat) (hj : lv[j]? = some (i, .int x)) (kk : GW p l e R s m args below meth c D A nL Q ce sl ws lv pc' (.int x :: st)) : GW p l e R s m args below meth c D A nL Q ce sl ws lv pc st := by
  subst hp
  exact fun H locs ls hP hD hS hl => lv_iload κ.1.1 κ.1.2.1  hd (lv_at hl j hj) (kk H locs ls hP hD hS hl)
theorem gw_istore_n (κ : KC p s m args meth c cc nL own D cI cR A ret) {k : Fin 4} {i : Nat} {x : Int32} {lv' : List (Nat × Value)} (hd : decode cc pc = .ok (.istore_n k, 1)) (hp : pc + 1 = pc')   (hi : (k : Nat) = i)   (hn : i < nL) (hl' : (i, Value.int x) :: lv.filter (fun q => !(q.1 == i) && !(q.1 + 1 == i && q.2.category == 2)) = lv') (kk : GW p l e R s m args below meth c D A nL Q ce sl ws lv' pc' st) : GW p l e R s m args below meth c D A nL Q ce sl ws lv pc (.int x :: st) := by
  subst hp
  exact fun H locs ls hP hD hS hl => lv_istore_n κ.1.1 κ.1.2.1 hd hi hl hn hl' (fun ls' hl2 => kk H locs ls' hP hD hS hl2)
theorem gw_istore (κ : KC p s m args meth c cc nL own D cI cR A ret) {i : Nat} {x : Int32} {lv' : List (Nat × Value)} (hd : decode cc pc = .ok (.istore i, 2)) (hp : pc + 2 = pc')    (hn : i < nL) (hl' : (i, Value.int x) :: lv.filter (fun q => !(q.1 == i) && !(q.1 + 1 == i && q.2.category == 2)) = lv') (kk : GW p l e R s m args below meth c D A nL Q ce sl ws lv' pc' st) : GW p l e R s m args below meth c D A nL Q ce sl ws lv pc (.int x :: st) := by
  subst hp
  exact fun H locs ls hP hD hS hl => lv_istore κ.1.1 κ.1.2.1 hd hl hn hl' (fun ls' hl2 => kk H locs ls' hP hD hS hl2)
theorem gw_lload_n (κ : KC p s m args meth c cc nL own D cI cR A ret) {k : Fin 4} {i : Nat} {x : Int64} (hd : decode cc pc = .ok (.lload_n k, 1)) (hp : pc + 1 = pc')    (j : Nat) (hj : lv[j]? = some (i, .long x)) (hi : (k : Nat) = i) (kk : GW p l e R s m args below meth c D A nL Q ce sl ws lv pc' (.long x :: st)) : GW p l e R s m args below meth c D A nL Q ce sl ws lv pc st := by
  subst hp
  exact fun H locs ls hP hD hS hl => lv_lload_n κ.1.1 κ.1.2.1  hd hi (lv_at hl j hj) (kk H locs ls hP hD hS hl)
theorem gw_lload (κ : KC p s m args meth c cc nL own D cI cR A ret) {i : Nat} {x : Int64} (hd : decode cc pc = .ok (.lload i, 2)) (hp : pc + 2 = pc')   (j : Nat) (hj : lv[j]? = some (i, .long x)) (kk : GW p l e R s m args below meth c D A nL Q ce sl ws lv pc' (.long x :: st)) : GW p l e R s m args below meth c D A nL Q ce sl ws lv pc st := by
  subst hp
  exact fun H locs ls hP hD hS hl => lv_lload κ.1.1 κ.1.2.1  hd (lv_at hl j hj) (kk H locs ls hP hD hS hl)
theorem gw_lstore_n (κ : KC p s m args meth c cc nL own D cI cR A ret) {k : Fin 4} {i : Nat} {x : Int64} {lv' : List (Nat × Value)} (hd : decode cc pc = .ok (.lstore_n k, 1)) (hp : pc + 1 = pc')   (hi : (k : Nat) = i)   (hn : i + 1 < nL) (hl' : (i, Value.long x) :: lv.filter (fun q => !(q.1 == i) && (!(q.1 == i + 1) && !(q.1 + 1 == i && q.2.category == 2))) = lv') (kk : GW p l e R s m args below meth c D A nL Q ce sl ws lv' pc' st) : GW p l e R s m args below meth c D A nL Q ce sl ws lv pc (.long x :: st) := by
  subst hp
  exact fun H locs ls hP hD hS hl => lv_lstore_n κ.1.1 κ.1.2.1 hd hi hl hn hl' (fun ls' hl2 => kk H locs ls' hP hD hS hl2)
theorem gw_lstore (κ : KC p s m args meth c cc nL own D cI cR A ret) {i : Nat} {x : Int64} {lv' : List (Nat × Value)} (hd : decode cc pc = .ok (.lstore i, 2)) (hp : pc + 2 = pc')    (hn : i + 1 < nL) (hl' : (i, Value.long x) :: lv.filter (fun q => !(q.1 == i) && (!(q.1 == i + 1) && !(q.1 + 1 == i && q.2.category == 2))) = lv') (kk : GW p l e R s m args below meth c D A nL Q ce sl ws lv' pc' st) : GW p l e R s m args below meth c D A nL Q ce sl ws lv pc (.long x :: st) := by
  subst hp
  exact fun H locs ls hP hD hS hl => lv_lstore κ.1.1 κ.1.2.1 hd hl hn hl' (fun ls' hl2 => kk H locs ls' hP hD hS hl2)
theorem gw_aload_n (κ : KC p s m args meth c cc nL own D cI cR A ret) {k : Fin 4} {i : Nat} {x : Nat} (hd : decode cc pc = .ok (.aload_n k, 1)) (hp : pc + 1 = pc')    (j : Nat) (hj : lv[j]? = some (i, .ref x)) (hi : (k : Nat) = i) (kk : GW p l e R s m args below meth c D A nL Q ce sl ws lv pc' (.ref x :: st)) : GW p l e R s m args below meth c D A nL Q ce sl ws lv pc st := by
  subst hp
  exact fun H locs ls hP hD hS hl => lv_aload_n κ.1.1 κ.1.2.1  hd hi (lv_at hl j hj) (kk H locs ls hP hD hS hl)
theorem gw_aload (κ : KC p s m args meth c cc nL own D cI cR A ret) {i : Nat} {x : Nat} (hd : decode cc pc = .ok (.aload i, 2)) (hp : pc + 2 = pc')   (j : Nat) (hj : lv[j]? = some (i, .ref x)) (kk : GW p l e R s m args below meth c D A nL Q ce sl ws lv pc' (.ref x :: st)) : GW p l e R s m args below meth c D A nL Q ce sl ws lv pc st := by
  subst hp
  exact fun H locs ls hP hD hS hl => lv_aload κ.1.1 κ.1.2.1  hd (lv_at hl j hj) (kk H locs ls hP hD hS hl)
theorem gw_astore_n (κ : KC p s m args meth c cc nL own D cI cR A ret) {k : Fin 4} {i : Nat} {x : Nat} {lv' : List (Nat × Value)} (hd : decode cc pc = .ok (.astore_n k, 1)) (hp : pc + 1 = pc')   (hi : (k : Nat) = i)   (hn : i < nL) (hl' : (i, Value.ref x) :: lv.filter (fun q => !(q.1 == i) && !(q.1 + 1 == i && q.2.category == 2)) = lv') (kk : GW p l e R s m args below meth c D A nL Q ce sl ws lv' pc' st) : GW p l e R s m args below meth c D A nL Q ce sl ws lv pc (.ref x :: st) := by
  subst hp
  exact fun H locs ls hP hD hS hl => lv_astore_n κ.1.1 κ.1.2.1 hd hi hl hn hl' (fun ls' hl2 => kk H locs ls' hP hD hS hl2)
theorem gw_astore (κ : KC p s m args meth c cc nL own D cI cR A ret) {i : Nat} {x : Nat} {lv' : List (Nat × Value)} (hd : decode cc pc = .ok (.astore i, 2)) (hp : pc + 2 = pc')    (hn : i < nL) (hl' : (i, Value.ref x) :: lv.filter (fun q => !(q.1 == i) && !(q.1 + 1 == i && q.2.category == 2)) = lv') (kk : GW p l e R s m args below meth c D A nL Q ce sl ws lv' pc' st) : GW p l e R s m args below meth c D A nL Q ce sl ws lv pc (.ref x :: st) := by
  subst hp
  exact fun H locs ls hP hD hS hl => lv_astore κ.1.1 κ.1.2.1 hd hl hn hl' (fun ls' hl2 => kk H locs ls' hP hD hS hl2)
theorem gw_iinc (κ : KC p s m args meth c cc nL own D cI cR A ret) {i : Nat} {n : Int} {x v : Int32} {lv' : List (Nat × Value)} (hd : decode cc pc = .ok (.iinc i n, 3)) (hp : pc + 3 = pc')     (j : Nat) (hj : lv[j]? = some (i, .int x)) (hv : x + Int32.ofInt n = v) (hn : i < nL) (hl' : (i, Value.int v) :: lv.filter (fun q => !(q.1 == i) && !(q.1 + 1 == i && q.2.category == 2)) = lv') (kk : GW p l e R s m args below meth c D A nL Q ce sl ws lv' pc' st) : GW p l e R s m args below meth c D A nL Q ce sl ws lv pc st := by
  subst hp
  exact fun H locs ls hP hD hS hl => lv_iinc κ.1.1 κ.1.2.1 hd hl hj hv hn hl' (fun ls' hl2 => kk H locs ls' hP hD hS hl2)
theorem gw_iadd (κ : KC p s m args meth c cc nL own D cI cR A ret) {x y : Int32} (hd : decode cc pc = .ok (.iadd, 1)) (hp : pc + 1 = pc')  (kk : GW p l e R s m args below meth c D A nL Q ce sl ws lv pc' (.int (x + y) :: st)) : GW p l e R s m args below meth c D A nL Q ce sl ws lv pc (.int y :: .int x :: st) := by
  subst hp
  exact fun H locs ls hP hD hS hl => lv_iadd κ.1.1 κ.1.2.1  hd  (kk H locs ls hP hD hS hl)
theorem gw_isub (κ : KC p s m args meth c cc nL own D cI cR A ret) {x y : Int32} (hd : decode cc pc = .ok (.isub, 1)) (hp : pc + 1 = pc')  (kk : GW p l e R s m args below meth c D A nL Q ce sl ws lv pc' (.int (x - y) :: st)) : GW p l e R s m args below meth c D A nL Q ce sl ws lv pc (.int y :: .int x :: st) := by
  subst hp
  exact fun H locs ls hP hD hS hl => lv_isub κ.1.1 κ.1.2.1  hd  (kk H locs ls hP hD hS hl)
theorem gw_imul (κ : KC p s m args meth c cc nL own D cI cR A ret) {x y : Int32} (hd : decode cc pc = .ok (.imul, 1)) (hp : pc + 1 = pc')  (kk : GW p l e R s m args below meth c D A nL Q ce sl ws lv pc' (.int (x * y) :: st)) : GW p l e R s m args below meth c D A nL Q ce sl ws lv pc (.int y :: .int x :: st) := by
  subst hp
  exact fun H locs ls hP hD hS hl => lv_imul κ.1.1 κ.1.2.1  hd  (kk H locs ls hP hD hS hl)
theorem gw_iand (κ : KC p s m args meth c cc nL own D cI cR A ret) {x y : Int32} (hd : decode cc pc = .ok (.iand, 1)) (hp : pc + 1 = pc')  (kk : GW p l e R s m args below meth c D A nL Q ce sl ws lv pc' (.int (x &&& y) :: st)) : GW p l e R s m args below meth c D A nL Q ce sl ws lv pc (.int y :: .int x :: st) := by
  subst hp
  exact fun H locs ls hP hD hS hl => lv_iand κ.1.1 κ.1.2.1  hd  (kk H locs ls hP hD hS hl)
theorem gw_ior (κ : KC p s m args meth c cc nL own D cI cR A ret) {x y : Int32} (hd : decode cc pc = .ok (.ior, 1)) (hp : pc + 1 = pc')  (kk : GW p l e R s m args below meth c D A nL Q ce sl ws lv pc' (.int (x ||| y) :: st)) : GW p l e R s m args below meth c D A nL Q ce sl ws lv pc (.int y :: .int x :: st) := by
  subst hp
  exact fun H locs ls hP hD hS hl => lv_ior κ.1.1 κ.1.2.1  hd  (kk H locs ls hP hD hS hl)
theorem gw_ishl (κ : KC p s m args meth c cc nL own D cI cR A ret) {x y : Int32} (hd : decode cc pc = .ok (.ishl, 1)) (hp : pc + 1 = pc')  (kk : GW p l e R s m args below meth c D A nL Q ce sl ws lv pc' (.int (x <<< (y &&& 31)) :: st)) : GW p l e R s m args below meth c D A nL Q ce sl ws lv pc (.int y :: .int x :: st) := by
  subst hp
  exact fun H locs ls hP hD hS hl => lv_ishl κ.1.1 κ.1.2.1  hd  (kk H locs ls hP hD hS hl)
theorem gw_ishr (κ : KC p s m args meth c cc nL own D cI cR A ret) {x y : Int32} (hd : decode cc pc = .ok (.ishr, 1)) (hp : pc + 1 = pc')  (kk : GW p l e R s m args below meth c D A nL Q ce sl ws lv pc' (.int (x >>> (y &&& 31)) :: st)) : GW p l e R s m args below meth c D A nL Q ce sl ws lv pc (.int y :: .int x :: st) := by
  subst hp
  exact fun H locs ls hP hD hS hl => lv_ishr κ.1.1 κ.1.2.1  hd  (kk H locs ls hP hD hS hl)
theorem gw_idiv (κ : KC p s m args meth c cc nL own D cI cR A ret) {x y : Int32} (hd : decode cc pc = .ok (.idiv, 1)) (hp : pc + 1 = pc')  (hne : ¬ y = 0) (kk : GW p l e R s m args below meth c D A nL Q ce sl ws lv pc' (.int (x / y) :: st)) : GW p l e R s m args below meth c D A nL Q ce sl ws lv pc (.int y :: .int x :: st) := by
  subst hp
  exact fun H locs ls hP hD hS hl => lv_idiv κ.1.1 κ.1.2.1  hd hne (kk H locs ls hP hD hS hl)
theorem gw_irem (κ : KC p s m args meth c cc nL own D cI cR A ret) {x y : Int32} (hd : decode cc pc = .ok (.irem, 1)) (hp : pc + 1 = pc')  (hne : ¬ y = 0) (kk : GW p l e R s m args below meth c D A nL Q ce sl ws lv pc' (.int (x - x / y * y) :: st)) : GW p l e R s m args below meth c D A nL Q ce sl ws lv pc (.int y :: .int x :: st) := by
  subst hp
  exact fun H locs ls hP hD hS hl => lv_irem κ.1.1 κ.1.2.1  hd hne (kk H locs ls hP hD hS hl)
theorem gw_land (κ : KC p s m args meth c cc nL own D cI cR A ret) {x y : Int64} (hd : decode cc pc = .ok (.land, 1)) (hp : pc + 1 = pc')  (kk : GW p l e R s m args below meth c D A nL Q ce sl ws lv pc' (.long (x &&& y) :: st)) : GW p l e R s m args below meth c D A nL Q ce sl ws lv pc (.long y :: .long x :: st) := by
  subst hp
  exact fun H locs ls hP hD hS hl => lv_land κ.1.1 κ.1.2.1  hd  (kk H locs ls hP hD hS hl)
theorem gw_lor (κ : KC p s m args meth c cc nL own D cI cR A ret) {x y : Int64} (hd : decode cc pc = .ok (.lor, 1)) (hp : pc + 1 = pc')  (kk : GW p l e R s m args below meth c D A nL Q ce sl ws lv pc' (.long (x ||| y) :: st)) : GW p l e R s m args below meth c D A nL Q ce sl ws lv pc (.long y :: .long x :: st) := by
  subst hp
  exact fun H locs ls hP hD hS hl => lv_lor κ.1.1 κ.1.2.1  hd  (kk H locs ls hP hD hS hl)
theorem gw_iushr (κ : KC p s m args meth c cc nL own D cI cR A ret) {x y : Int32} (hd : decode cc pc = .ok (.iushr, 1)) (hp : pc + 1 = pc')  (kk : GW p l e R s m args below meth c D A nL Q ce sl ws lv pc' (.int ((x.toUInt32 >>> (y.toUInt32 &&& Int32.toUInt32 31)).toInt32) :: st)) : GW p l e R s m args below meth c D A nL Q ce sl ws lv pc (.int y :: .int x :: st) := by
  subst hp
  exact fun H locs ls hP hD hS hl => lv_iushr κ.1.1 κ.1.2.1  hd rfl (kk H locs ls hP hD hS hl)
theorem gw_lushr (κ : KC p s m args meth c cc nL own D cI cR A ret) {x : Int64} {y : Int32} (hd : decode cc pc = .ok (.lushr, 1)) (hp : pc + 1 = pc')   (kk : GW p l e R s m args below meth c D A nL Q ce sl ws lv pc' (.long ((x.toUInt64 >>> (y.toInt64.toUInt64 &&& Int64.toUInt64 63)).toInt64) :: st)) : GW p l e R s m args below meth c D A nL Q ce sl ws lv pc (.int y :: .long x :: st) := by
  subst hp
  exact fun H locs ls hP hD hS hl => lv_lushr κ.1.1 κ.1.2.1  hd rfl (kk H locs ls hP hD hS hl)
theorem gw_lshl (κ : KC p s m args meth c cc nL own D cI cR A ret) {x : Int64} {y : Int32} (hd : decode cc pc = .ok (.lshl, 1)) (hp : pc + 1 = pc')   (kk : GW p l e R s m args below meth c D A nL Q ce sl ws lv pc' (.long (x <<< (y.toInt64 &&& 63)) :: st)) : GW p l e R s m args below meth c D A nL Q ce sl ws lv pc (.int y :: .long x :: st) := by
  subst hp
  exact fun H locs ls hP hD hS hl => lv_lshl κ.1.1 κ.1.2.1  hd rfl (kk H locs ls hP hD hS hl)
theorem gw_i2l (κ : KC p s m args meth c cc nL own D cI cR A ret) {x : Int32} (hd : decode cc pc = .ok (.i2l, 1)) (hp : pc + 1 = pc')  (kk : GW p l e R s m args below meth c D A nL Q ce sl ws lv pc' (.long x.toInt64 :: st)) : GW p l e R s m args below meth c D A nL Q ce sl ws lv pc (.int x :: st) := by
  subst hp
  exact fun H locs ls hP hD hS hl => lv_i2l κ.1.1 κ.1.2.1  hd rfl (kk H locs ls hP hD hS hl)
theorem gw_l2i (κ : KC p s m args meth c cc nL own D cI cR A ret) {x : Int64} (hd : decode cc pc = .ok (.l2i, 1)) (hp : pc + 1 = pc')  (kk : GW p l e R s m args below meth c D A nL Q ce sl ws lv pc' (.int x.toInt32 :: st)) : GW p l e R s m args below meth c D A nL Q ce sl ws lv pc (.long x :: st) := by
  subst hp
  exact fun H locs ls hP hD hS hl => lv_l2i κ.1.1 κ.1.2.1  hd rfl (kk H locs ls hP hD hS hl)
theorem gw_dup (κ : KC p s m args meth c cc nL own D cI cR A ret) {va : Value} (hd : decode cc pc = .ok (.dup, 1)) (hp : pc + 1 = pc')  (hva : va.category = 1) (kk : GW p l e R s m args below meth c D A nL Q ce sl ws lv pc' (va :: va :: st)) : GW p l e R s m args below meth c D A nL Q ce sl ws lv pc (va :: st) := by
  subst hp
  exact fun H locs ls hP hD hS hl => lv_dup κ.1.1 κ.1.2.1  hd hva (kk H locs ls hP hD hS hl)
theorem gw_dup2 (κ : KC p s m args meth c cc nL own D cI cR A ret) {va vb : Value} (hd : decode cc pc = .ok (.dup2, 1)) (hp : pc + 1 = pc')  (hva : va.category = 1) (hvb : vb.category = 1) (kk : GW p l e R s m args below meth c D A nL Q ce sl ws lv pc' (va :: vb :: va :: vb :: st)) : GW p l e R s m args below meth c D A nL Q ce sl ws lv pc (va :: vb :: st) := by
  subst hp
  exact fun H locs ls hP hD hS hl => lv_dup2_11 κ.1.1 κ.1.2.1  hd hva hvb (kk H locs ls hP hD hS hl)
theorem gw_lcmp (κ : KC p s m args meth c cc nL own D cI cR A ret) {x y : Int64} (hd : decode cc pc = .ok (.lcmp, 1)) (hp : pc + 1 = pc')  (kk : GW p l e R s m args below meth c D A nL Q ce sl ws lv pc' (.int (lg_cmp x y) :: st)) : GW p l e R s m args below meth c D A nL Q ce sl ws lv pc (.long y :: .long x :: st) := by
  subst hp
  exact fun H locs ls hP hD hS hl => W.lcmp κ.1.1 κ.1.2.1 hd (kk H locs ls hP hD hS hl)
theorem gw_if_eq (κ : KC p s m args meth c cc nL own D cI cR A ret) {x : Int32} {off : Int} {tgt : Nat} (hd : decode cc pc = .ok (.ifCond .eq off, 3)) (hp : pc + 3 = pc')    (ht : (pc : Int) + off = (tgt : Int)) (kt : x = 0 → GW p l e R s m args below meth c D A nL Q ce sl ws lv tgt st) (kf : ¬ x = 0 → GW p l e R s m args below meth c D A nL Q ce sl ws lv pc' st) : GW p l e R s m args below meth c D A nL Q ce sl ws lv pc (.int x :: st) := by
  subst hp
  exact fun H locs ls hP hD hS hl => lv_if_eq κ.1.1 κ.1.2.1 hd ht (fun h => kt h H locs ls hP hD hS hl) (fun h => kf h H locs ls hP hD hS hl)
theorem gw_if_ne (κ : KC p s m args meth c cc nL own D cI cR A ret) {x : Int32} {off : Int} {tgt : Nat} (hd : decode cc pc = .ok (.ifCond .ne off, 3)) (hp : pc + 3 = pc')    (ht : (pc : Int) + off = (tgt : Int)) (kt : ¬ x = 0 → GW p l e R s m args below meth c D A nL Q ce sl ws lv tgt st) (kf : x = 0 → GW p l e R s m args below meth c D A nL Q ce sl ws lv pc' st) : GW p l e R s m args below meth c D A nL Q ce sl ws lv pc (.int x :: st) := by
  subst hp
  exact fun H locs ls hP hD hS hl => lv_if_ne κ.1.1 κ.1.2.1 hd ht (fun h => kt h H locs ls hP hD hS hl) (fun h => kf h H locs ls hP hD hS hl)
theorem gw_if_lt (κ : KC p s m args meth c cc nL own D cI cR A ret) {x : Int32} {off : Int} {tgt : Nat} (hd : decode cc pc = .ok (.ifCond .lt off, 3)) (hp : pc + 3 = pc')    (ht : (pc : Int) + off = (tgt : Int)) (kt : x < 0 → GW p l e R s m args below meth c D A nL Q ce sl ws lv tgt st) (kf : ¬ x < 0 → GW p l e R s m args below meth c D A nL Q ce sl ws lv pc' st) : GW p l e R s m args below meth c D A nL Q ce sl ws lv pc (.int x :: st) := by
  subst hp
  exact fun H locs ls hP hD hS hl => lv_if_lt κ.1.1 κ.1.2.1 hd ht (fun h => kt h H locs ls hP hD hS hl) (fun h => kf h H locs ls hP hD hS hl)
theorem gw_if_ge (κ : KC p s m args meth c cc nL own D cI cR A ret) {x : Int32} {off : Int} {tgt : Nat} (hd : decode cc pc = .ok (.ifCond .ge off, 3)) (hp : pc + 3 = pc')    (ht : (pc : Int) + off = (tgt : Int)) (kt : 0 ≤ x → GW p l e R s m args below meth c D A nL Q ce sl ws lv tgt st) (kf : ¬ 0 ≤ x → GW p l e R s m args below meth c D A nL Q ce sl ws lv pc' st) : GW p l e R s m args below meth c D A nL Q ce sl ws lv pc (.int x :: st) := by
  subst hp
  exact fun H locs ls hP hD hS hl => lv_if_ge κ.1.1 κ.1.2.1 hd ht (fun h => kt h H locs ls hP hD hS hl) (fun h => kf h H locs ls hP hD hS hl)
theorem gw_if_gt (κ : KC p s m args meth c cc nL own D cI cR A ret) {x : Int32} {off : Int} {tgt : Nat} (hd : decode cc pc = .ok (.ifCond .gt off, 3)) (hp : pc + 3 = pc')    (ht : (pc : Int) + off = (tgt : Int)) (kt : 0 < x → GW p l e R s m args below meth c D A nL Q ce sl ws lv tgt st) (kf : ¬ 0 < x → GW p l e R s m args below meth c D A nL Q ce sl ws lv pc' st) : GW p l e R s m args below meth c D A nL Q ce sl ws lv pc (.int x :: st) := by
  subst hp
  exact fun H locs ls hP hD hS hl => lv_if_gt κ.1.1 κ.1.2.1 hd ht (fun h => kt h H locs ls hP hD hS hl) (fun h => kf h H locs ls hP hD hS hl)
theorem gw_if_le (κ : KC p s m args meth c cc nL own D cI cR A ret) {x : Int32} {off : Int} {tgt : Nat} (hd : decode cc pc = .ok (.ifCond .le off, 3)) (hp : pc + 3 = pc')    (ht : (pc : Int) + off = (tgt : Int)) (kt : x ≤ 0 → GW p l e R s m args below meth c D A nL Q ce sl ws lv tgt st) (kf : ¬ x ≤ 0 → GW p l e R s m args below meth c D A nL Q ce sl ws lv pc' st) : GW p l e R s m args below meth c D A nL Q ce sl ws lv pc (.int x :: st) := by
  subst hp
  exact fun H locs ls hP hD hS hl => lv_if_le κ.1.1 κ.1.2.1 hd ht (fun h => kt h H locs ls hP hD hS hl) (fun h => kf h H locs ls hP hD hS hl)
theorem gw_icmp_eq (κ : KC p s m args meth c cc nL own D cI cR A ret) {x y : Int32} {off : Int} {tgt : Nat} (hd : decode cc pc = .ok (.if_icmp .eq off, 3)) (hp : pc + 3 = pc')    (ht : (pc : Int) + off = (tgt : Int)) (kt : x = y → GW p l e R s m args below meth c D A nL Q ce sl ws lv tgt st) (kf : ¬ x = y → GW p l e R s m args below meth c D A nL Q ce sl ws lv pc' st) : GW p l e R s m args below meth c D A nL Q ce sl ws lv pc (.int y :: .int x :: st) := by
  subst hp
  exact fun H locs ls hP hD hS hl => lv_icmp_eq κ.1.1 κ.1.2.1 hd ht (fun h => kt h H locs ls hP hD hS hl) (fun h => kf h H locs ls hP hD hS hl)
theorem gw_icmp_ne (κ : KC p s m args meth c cc nL own D cI cR A ret) {x y : Int32} {off : Int} {tgt : Nat} (hd : decode cc pc = .ok (.if_icmp .ne off, 3)) (hp : pc + 3 = pc')    (ht : (pc : Int) + off = (tgt : Int)) (kt : ¬ x = y → GW p l e R s m args below meth c D A nL Q ce sl ws lv tgt st) (kf : x = y → GW p l e R s m args below meth c D A nL Q ce sl ws lv pc' st) : GW p l e R s m args below meth c D A nL Q ce sl ws lv pc (.int y :: .int x :: st) := by
  subst hp
  exact fun H locs ls hP hD hS hl => lv_icmp_ne κ.1.1 κ.1.2.1 hd ht (fun h => kt h H locs ls hP hD hS hl) (fun h => kf h H locs ls hP hD hS hl)
theorem gw_icmp_lt (κ : KC p s m args meth c cc nL own D cI cR A ret) {x y : Int32} {off : Int} {tgt : Nat} (hd : decode cc pc = .ok (.if_icmp .lt off, 3)) (hp : pc + 3 = pc')    (ht : (pc : Int) + off = (tgt : Int)) (kt : x < y → GW p l e R s m args below meth c D A nL Q ce sl ws lv tgt st) (kf : ¬ x < y → GW p l e R s m args below meth c D A nL Q ce sl ws lv pc' st) : GW p l e R s m args below meth c D A nL Q ce sl ws lv pc (.int y :: .int x :: st) := by
  subst hp
  exact fun H locs ls hP hD hS hl => lv_icmp_lt κ.1.1 κ.1.2.1 hd ht (fun h => kt h H locs ls hP hD hS hl) (fun h => kf h H locs ls hP hD hS hl)
theorem gw_icmp_ge (κ : KC p s m args meth c cc nL own D cI cR A ret) {x y : Int32} {off : Int} {tgt : Nat} (hd : decode cc pc = .ok (.if_icmp .ge off, 3)) (hp : pc + 3 = pc')    (ht : (pc : Int) + off = (tgt : Int)) (kt : y ≤ x → GW p l e R s m args below meth c D A nL Q ce sl ws lv tgt st) (kf : ¬ y ≤ x → GW p l e R s m args below meth c D A nL Q ce sl ws lv pc' st) : GW p l e R s m args below meth c D A nL Q ce sl ws lv pc (.int y :: .int x :: st) := by
  subst hp
  exact fun H locs ls hP hD hS hl => lv_icmp_ge κ.1.1 κ.1.2.1 hd ht (fun h => kt h H locs ls hP hD hS hl) (fun h => kf h H locs ls hP hD hS hl)
theorem gw_icmp_gt (κ : KC p s m args meth c cc nL own D cI cR A ret) {x y : Int32} {off : Int} {tgt : Nat} (hd : decode cc pc = .ok (.if_icmp .gt off, 3)) (hp : pc + 3 = pc')    (ht : (pc : Int) + off = (tgt : Int)) (kt : y < x → GW p l e R s m args below meth c D A nL Q ce sl ws lv tgt st) (kf : ¬ y < x → GW p l e R s m args below meth c D A nL Q ce sl ws lv pc' st) : GW p l e R s m args below meth c D A nL Q ce sl ws lv pc (.int y :: .int x :: st) := by
  subst hp
  exact fun H locs ls hP hD hS hl => lv_icmp_gt κ.1.1 κ.1.2.1 hd ht (fun h => kt h H locs ls hP hD hS hl) (fun h => kf h H locs ls hP hD hS hl)
theorem gw_icmp_le (κ : KC p s m args meth c cc nL own D cI cR A ret) {x y : Int32} {off : Int} {tgt : Nat} (hd : decode cc pc = .ok (.if_icmp .le off, 3)) (hp : pc + 3 = pc')    (ht : (pc : Int) + off = (tgt : Int)) (kt : x ≤ y → GW p l e R s m args below meth c D A nL Q ce sl ws lv tgt st) (kf : ¬ x ≤ y → GW p l e R s m args below meth c D A nL Q ce sl ws lv pc' st) : GW p l e R s m args below meth c D A nL Q ce sl ws lv pc (.int y :: .int x :: st) := by
  subst hp
  exact fun H locs ls hP hD hS hl => lv_icmp_le κ.1.1 κ.1.2.1 hd ht (fun h => kt h H locs ls hP hD hS hl) (fun h => kf h H locs ls hP hD hS hl)
theorem gw_goto (κ : KC p s m args meth c cc nL own D cI cR A ret) {off : Int} {tgt : Nat} (hd : decode cc pc = .ok (.goto off, 3))    (ht : (pc : Int) + off = (tgt : Int)) (kk : GW p l e R s m args below meth c D A nL Q ce sl ws lv tgt st) : GW p l e R s m args below meth c D A nL Q ce sl ws lv pc st := fun H locs ls hP hD hS hl => lv_goto κ.1.1 κ.1.2.1 hd ht (kk H locs ls hP hD hS hl)
theorem gw_tableIn (κ : KC p s m args meth c cc nL own D cI cR A ret) {dflt lo hi : Int} {offs : Array Int} {len : Nat} {x : Int32} {off : Int} {tgt : Nat} (hd : decode cc pc = .ok (.tableswitch dflt lo hi offs, len))        (h1 : ¬ x.toInt < lo) (h2 : ¬ hi < x.toInt) (ho : offs[(x.toInt - lo).toNat]? = some off) (ht : (pc : Int) + off = (tgt : Int)) (kk : GW p l e R s m args below meth c D A nL Q ce sl ws lv tgt st) : GW p l e R s m args below meth c D A nL Q ce sl ws lv pc (.int x :: st) := fun H locs ls hP hD hS hl => lv_tableIn κ.1.1 κ.1.2.1 hd h1 h2 ho ht (kk H locs ls hP hD hS hl)
theorem gw_tableOut (κ : KC p s m args meth c cc nL own D cI cR A ret) {dflt lo hi : Int} {offs : Array Int} {len : Nat} {x : Int32} {tgt : Nat} (hd : decode cc pc = .ok (.tableswitch dflt lo hi offs, len))       (h : x.toInt < lo ∨ hi < x.toInt) (ht : (pc : Int) + dflt = (tgt : Int)) (kk : GW p l e R s m args below meth c D A nL Q ce sl ws lv tgt st) : GW p l e R s m args below meth c D A nL Q ce sl ws lv pc (.int x :: st) := fun H locs ls hP hD hS hl => lv_tableOut κ.1.1 κ.1.2.1 hd h ht (kk H locs ls hP hD hS hl)
theorem gw_ifnonnull (κ : KC p s m args meth c cc nL own D cI cR A ret) {x : Nat} {off : Int} {tgt : Nat} (hd : decode cc pc = .ok (.ifnonnull off, 3))     (ht : (pc : Int) + off = (tgt : Int)) (kk : GW p l e R s m args below meth c D A nL Q ce sl ws lv tgt st) : GW p l e R s m args below meth c D A nL Q ce sl ws lv pc (.ref x :: st) := fun H locs ls hP hD hS hl => lv_ifnonnull κ.1.1 κ.1.2.1 hd ht (kk H locs ls hP hD hS hl)
theorem gw_ifnonnullN (κ : KC p s m args meth c cc nL own D cI cR A ret) {off : Int} (hd : decode cc pc = .ok (.ifnonnull off, 3)) (hp : pc + 3 = pc')  (kk : GW p l e R s m args below meth c D A nL Q ce sl ws lv pc' st) : GW p l e R s m args below meth c D A nL Q ce sl ws lv pc (.null :: st) := by
  subst hp
  exact fun H locs ls hP hD hS hl => lv_ifnonnullN κ.1.1 κ.1.2.1 hd (kk H locs ls hP hD hS hl)
theorem gw_aload_nN (κ : KC p s m args meth c cc nL own D cI cR A ret) {k : Fin 4} {i : Nat} (hd : decode cc pc = .ok (.aload_n k, 1)) (hp : pc + 1 = pc')   (j : Nat) (hj : lv[j]? = some (i, .null)) (hi : (k : Nat) = i) (kk : GW p l e R s m args below meth c D A nL Q ce sl ws lv pc' (.null :: st)) : GW p l e R s m args below meth c D A nL Q ce sl ws lv pc st := by
  subst hp
  exact fun H locs ls hP hD hS hl => lv_aload_nN κ.1.1 κ.1.2.1 hd hi (lv_at hl j hj) (kk H locs ls hP hD hS hl)
theorem gw_astore_nN (κ : KC p s m args meth c cc nL own D cI cR A ret) {k : Fin 4} {i : Nat} {lv' : List (Nat × Value)} (hd : decode cc pc = .ok (.astore_n k, 1)) (hp : pc + 1 = pc')    (hi : (k : Nat) = i) (hn : i < nL) (hl' : (i, Value.null) :: lv.filter (fun q => !(q.1 == i) && !(q.1 + 1 == i && q.2.category == 2)) = lv') (kk : GW p l e R s m args below meth c D A nL Q ce sl ws lv' pc' st) : GW p l e R s m args below meth c D A nL Q ce sl ws lv pc (.null :: st) := by
  subst hp
  exact fun H locs ls hP hD hS hl => lv_astore_nN κ.1.1 κ.1.2.1 hd hi hl hn hl' (fun ls' hl2 => kk H locs ls' hP hD hS hl2)
theorem gw_ldcw (κ : KC p s m args meth c cc nL own D cI cR A ret) {idx : Nat} {v : Int32} (hd : decode cc pc = .ok (.ldc_w idx, 3)) (hp : pc + 3 = pc')   (hw : Cond.constant own idx v ∈ lw_good) (kk : GW p l e R s m args below meth c D A nL Q ce sl ws lv pc' (.int v :: st)) : GW p l e R s m args below meth c D A nL Q ce sl ws lv pc st := by
  subst hp
  exact fun H locs ls hP hD hS hl => lv_ldcw κ.1.1 κ.1.2.1 κ.1.2.2.2.1 (κ.1.2.2.2.2 _ hw) hd (kk H locs ls hP hD hS hl)
theorem gw_ldc2 (κ : KC p s m args meth c cc nL own D cI cR A ret) {idx : Nat} {v : Int64} (hd : decode cc pc = .ok (.ldc2_w idx, 3)) (hp : pc + 3 = pc')   (hw : Cond.constantLong own idx v ∈ lw_good) (kk : GW p l e R s m args below meth c D A nL Q ce sl ws lv pc' (.long v :: st)) : GW p l e R s m args below meth c D A nL Q ce sl ws lv pc st := by
  subst hp
  exact fun H locs ls hP hD hS hl => lv_ldc2 κ.1.1 κ.1.2.1 κ.1.2.2.2.1 (κ.1.2.2.2.2 _ hw) hd (kk H locs ls hP hD hS hl)
theorem gw_get (κ : KC p s m args meth c cc nL own D cI cR A ret) {C : String} {T : u_T} {N ci idx a : Nat} {fs : List Value} {v : Value} (hd : decode cc pc = .ok (.getfield idx, 3)) (hp : pc + 3 = pc')    (hin : ∀ w ∈ u_ws C T N, w ∈ lw_good) (q0 : Nat)  (he : ws[q0]? = some (a, .inr (ci, fs))) (hc : vwCl[ci]? = some (C, T, N)) (k : Nat) (hk : k < N) (hlink : Cond.fieldLink own idx (T k).1 (T k).2.1 (T k).2.2.1 ∈ lw_good)  (hv : fs[k]? = some v) (kk : GW p l e R s m args below meth c D A nL Q ce sl ws lv pc' (v :: st)) : GW p l e R s m args below meth c D A nL Q ce sl ws lv pc (.ref a :: st) := by
  subst hp
  exact fun H locs ls hP hD hS hl => va_get κ.1.1 κ.1.2.1 κ.1.2.2.2.2 hin κ.1.2.2.2.1 κ.2.1 hP q0 he hc k hk (κ.1.2.2.2.2 _ hlink) (fun _ h => h) hv hd (kk H locs ls hP hD hS hl)
theorem gw_put (κ : KC p s m args meth c cc nL own D cI cR A ret) {C : String} {T : u_T} {N ci idx a : Nat} {fs : List Value} {ty : FieldType} {v : Value} {ws' : va_W} (hd : decode cc pc = .ok (.putfield idx, 3)) (hp : pc + 3 = pc')    (hin : ∀ w ∈ u_ws C T N, w ∈ lw_good) (ty0 : Nat → FieldType) (hty : ∀ k, k < N → parseFieldDescriptor (T k).2.2.1 = some (ty0 k)) (hnm : ∀ a, a < N → ∀ b, b < N → a ≠ b → (T a).2.1 ≠ (T b).2.1) (q0 : Nat)  (he : ws[q0]? = some (a, .inr (ci, fs))) (hc : vwCl[ci]? = some (C, T, N)) (k : Nat) (hk : k < N) (hlink : Cond.fieldLink own idx (T k).1 (T k).2.1 (T k).2.2.1 ∈ lw_good) (hfin : (T k).2.2.2 = false)   (hdd : parseFieldDescriptor (T k).2.2.1 = some ty) (hn : narrow ty v = v) (hfit : fits ty v = true) (hlen : k < fs.length)  (hw : ws.set q0 (a, .inr (ci, fs.set k v)) = ws') (kk : GW p l e R s m args below meth c D A nL Q ce sl ws' lv pc' st) : GW p l e R s m args below meth c D A nL Q ce sl ws lv pc (v :: .ref a :: st) := by
  subst hp
  subst hw
  exact fun H locs ls hP hD hS hl => va_put κ.1.1 κ.1.2.1 κ.1.2.2.2.2 hin ty0 hty hnm κ.1.2.2.2.1 κ.2.1 hP hD hS q0 he hc k hk (κ.1.2.2.2.2 _ hlink) (fun _ h => h) hfin hdd hn hfit hlen hd (fun H1 locs1 hP1 hD1 hS1 => kk H1 locs1 ls hP1 hD1 hS1 hl)
theorem gw_putF (κ : KC p s m args meth c cc nL own D cI cR A ret) {C : String} {T : u_T} {N ci idx a : Nat} {fs : List Value} {ty : FieldType} {v : Value} {ws' : va_W} (hd : decode cc pc = .ok (.putfield idx, 3)) (hp : pc + 3 = pc')    (hin : ∀ w ∈ u_ws C T N, w ∈ lw_good) (ty0 : Nat → FieldType) (hty : ∀ k, k < N → parseFieldDescriptor (T k).2.2.1 = some (ty0 k)) (hnm : ∀ a, a < N → ∀ b, b < N → a ≠ b → (T a).2.1 ≠ (T b).2.1) (q0 : Nat)  (he : ws[q0]? = some (a, .inr (ci, fs))) (hc : vwCl[ci]? = some (C, T, N)) (k : Nat) (hk : k < N) (hlink : Cond.fieldLink own idx (T k).1 (T k).2.1 (T k).2.2.1 ∈ lw_good) (hfin : (T k).2.2.2 = true) (hin2 : meth.name = "<init>") (hdecl : (T k).1 = own)   (hdd : parseFieldDescriptor (T k).2.2.1 = some ty) (hn : narrow ty v = v) (hfit : fits ty v = true) (hlen : k < fs.length)  (hw : ws.set q0 (a, .inr (ci, fs.set k v)) = ws') (kk : GW p l e R s m args below meth c D A nL Q ce sl ws' lv pc' st) : GW p l e R s m args below meth c D A nL Q ce sl ws lv pc (v :: .ref a :: st) := by
  subst hp
  subst hw
  exact fun H locs ls hP hD hS hl => va_putF κ.1.1 κ.1.2.1 κ.1.2.2.2.2 hin ty0 hty hnm κ.1.2.2.2.1 κ.2.1 hP hD hS q0 he hc k hk (κ.1.2.2.2.2 _ hlink) (fun _ h => h) hfin hin2 hdecl hdd hn hfit hlen hd (fun H1 locs1 hP1 hD1 hS1 => kk H1 locs1 ls hP1 hD1 hS1 hl)
theorem gw_iald (κ : KC p s m args meth c cc nL own D cI cR A ret) {a n : Nat} {f : Nat → Int32} {i : Int32} (hd : decode cc pc = .ok (.iaload, 1)) (hp : pc + 1 = pc')   (q0 : Nat) (ha : ws[q0]? = some (a, .inl (cI, n, .inl f)))  (hin : vp_in i n) (kk : GW p l e R s m args below meth c D A nL Q ce sl ws lv pc' (.int (f i.toNatClampNeg) :: st)) : GW p l e R s m args below meth c D A nL Q ce sl ws lv pc (.int i :: .ref a :: st) := by
  subst hp
  exact fun H locs ls hP hD hS hl => va_iald κ.1.1 κ.1.2.1 κ.2.1 hP q0 0 ha rfl hin hd (kk H locs ls hP hD hS hl)
theorem gw_iast (κ : KC p s m args meth c cc nL own D cI cR A ret) {a n : Nat} {f : Nat → Int32} {i x : Int32} {ws' : va_W} (hd : decode cc pc = .ok (.iastore, 1)) (hp : pc + 1 = pc')   (q0 : Nat) (ha : ws[q0]? = some (a, .inl (cI, n, .inl f)))  (hin : vp_in i n)  (hw : ws.set q0 (a, .inl (cI, n, .inl (upd f i.toNatClampNeg x))) = ws') (kk : GW p l e R s m args below meth c D A nL Q ce sl ws' lv pc' st) : GW p l e R s m args below meth c D A nL Q ce sl ws lv pc (.int x :: .int i :: .ref a :: st) := by
  subst hp
  subst hw
  exact fun H locs ls hP hD hS hl => va_iast κ.1.1 κ.1.2.1 κ.2.1 hP hD hS q0 0 ha rfl hin hd (fun H1 locs1 hP1 hD1 hS1 => kk H1 locs1 ls hP1 hD1 hS1 hl)
theorem gw_aald (κ : KC p s m args meth c cc nL own D cI cR A ret) {a n : Nat} {f : Nat → Option Nat} {i : Int32} {v : Value} (hd : decode cc pc = .ok (.aaload, 1)) (hp : pc + 1 = pc')   (q0 : Nat) (ha : ws[q0]? = some (a, .inl (cR, n, .inr (.inr (.inr (.inr f))))))  (hin : vp_in i n)  (hv : va_rf (f i.toNatClampNeg) = v) (kk : GW p l e R s m args below meth c D A nL Q ce sl ws lv pc' (v :: st)) : GW p l e R s m args below meth c D A nL Q ce sl ws lv pc (.int i :: .ref a :: st) := by
  subst hp
  subst hv
  exact fun H locs ls hP hD hS hl => va_aldq κ.1.1 κ.1.2.1 κ.2.1 hP q0 1 ha rfl hin hd (kk H locs ls hP hD hS hl)
theorem gw_aast (κ : KC p s m args meth c cc nL own D cI cR A ret) {a n v : Nat} {vs : List Value} {f : Nat → Option Nat} {i : Int32} {ws' : va_W} (hd : decode cc pc = .ok (.aastore, 1)) (hp : pc + 1 = pc')    (q0 qk : Nat) (ha : ws[q0]? = some (a, .inl (cR, n, .inr (.inr (.inr (.inr f)))))) (hv : ws[qk]? = some (v, .inr (3, vs)))  (hin : vp_in i n)  (hw : ws.set q0 (a, .inl (cR, n, .inr (.inr (.inr (.inr (va_up f i.toNatClampNeg (some v))))))) = ws') (kk : GW p l e R s m args below meth c D A nL Q ce sl ws' lv pc' st) : GW p l e R s m args below meth c D A nL Q ce sl ws lv pc (.ref v :: .int i :: .ref a :: st) := by
  subst hp
  subst hw
  exact fun H locs ls hP hD hS hl => va_astq (r := (RX3, TX3, 10)) κ.1.1 κ.1.2.1 κ.2.1 hP hD hS q0 1 qk 3 ha rfl hv rfl hin hd (fun H1 locs1 hP1 hD1 hS1 => kk H1 locs1 ls hP1 hD1 hS1 hl)
theorem gw_new (κ : KC p s m args meth c cc nL own D cI cR A ret) {C : String} {T : u_T} {N ci idx : Nat} {fs : List Value} (hd : decode cc pc = .ok (.new idx, 3)) (hp : pc + 3 = pc')    (hin : ∀ w ∈ u_ws C T N, w ∈ lw_good) (ty : Nat → FieldType) (hty : ∀ k, k < N → parseFieldDescriptor (T k).2.2.1 = some (ty k)) (hcl : Cond.classLink own idx C ∈ lw_good) (hinst : Cond.instantiable C N ∈ lw_good) (hini : Cond.initialized C ∈ lw_good) (hc : vwCl[ci]? = some (C, T, N))  (hfs : ∀ j, j < N → defaultValue (ty j) = vp_V fs j) (hcells : ce + 1 ≤ R.cells) (hslots : sl + N ≤ R.slots) (kk : ∀ q : Nat, GW p l e R s m args below meth c D A nL Q (ce + 1) (sl + N) (ws ++ [(q, .inr (ci, fs))]) lv pc' (.ref q :: st)) : GW p l e R s m args below meth c D A nL Q ce sl ws lv pc st := by
  subst hp
  exact fun H locs ls hP hD hS hl => va_new κ.1.1 κ.1.2.1 κ.1.2.2.2.2 hin ty hty κ.1.2.2.2.1 (κ.1.2.2.2.2 _ hcl) (κ.1.2.2.2.2 _ hinst) (κ.1.2.2.2.2 _ hini) κ.2.1 hP hD hS κ.2.2.1 hc hfs hcells hslots hd (fun q H1 hP1 hD1 hS1 => kk q H1 locs ls hP1 hD1 hS1 hl)
theorem gw_newa (κ : KC p s m args meth c cc nL own D cI cR A ret) {n : Int32} {N : Nat} (hd : decode cc pc = .ok (.newarray .int, 2)) (hp : pc + 2 = pc')   (hn : ¬ n < 0) (hN : n.toNatClampNeg = N) (hbytes : N * 4 ≤ 536870912) (hcells : ce + 1 ≤ R.cells) (hslots : sl + N ≤ R.slots) (kk : ∀ q : Nat, GW p l e R s m args below meth c D A nL Q (ce + 1) (sl + N) (ws ++ [(q, .inl (cI, N, .inl (fun _ => 0)))]) lv pc' (.ref q :: st)) : GW p l e R s m args below meth c D A nL Q ce sl ws lv pc (.int n :: st) := by
  subst hp
  intro H locs ls hP hD hS hl
  refine va_newa (atype := .int) (ty := .int) (a0 := (N, .inl (fun _ => 0))) κ.1.1 κ.1.2.1 (κ.1.2.2.2.2 _ tw_ac_int) rfl κ.2.1 hP hD hS κ.2.2.1 (fun _ => rfl) hn hN hbytes hcells hslots hd (fun q cA H1 hK1 hP1 hD1 hS1 => ?_)
  have e : cA = cI := Option.some.inj ((va_nm_int (hK1.2 2 _ rfl).2).symm.trans (va_nm_int (κ.2.1.2 0 _ rfl).2))
  subst e
  exact kk q H1 locs ls hP1 hD1 hS1 hl
theorem gw_newq (κ : KC p s m args meth c cc nL own D cI cR A ret) {n : Int32} {N idx : Nat} (hd : decode cc pc = .ok (.anewarray idx, 3)) (hp : pc + 3 = pc')   (hcl : Cond.classLink own idx RX3 ∈ lw_good) (hn : ¬ n < 0) (hN : n.toNatClampNeg = N) (hbytes : N * 4 ≤ 536870912) (hcells : ce + 1 ≤ R.cells) (hslots : sl + N ≤ R.slots) (kk : ∀ q : Nat, GW p l e R s m args below meth c D A nL Q (ce + 1) (sl + N) (ws ++ [(q, .inl (cR, N, .inr (.inr (.inr (.inr (fun _ => none))))))]) lv pc' (.ref q :: st)) : GW p l e R s m args below meth c D A nL Q ce sl ws lv pc (.int n :: st) := by
  subst hp
  intro H locs ls hP hD hS hl
  refine va_newq κ.1.1 κ.1.2.1 κ.1.2.2.2.1 (κ.1.2.2.2.2 _ hcl) κ.2.2.2.1.2.2.2.2.2.2.2.2.2 κ.2.1 hP hD hS κ.2.2.1 hn hN hbytes hcells hslots hd (fun q cA H1 hK1 hP1 hD1 hS1 => ?_)
  obtain ⟨kA, comp, -, -, -, e1⟩ := (hK1.2 2 _ rfl).2
  obtain ⟨kA2, comp2, -, -, -, e2⟩ := (κ.2.1.2 1 _ rfl).2
  have e : cA = cR := Option.some.inj (e1.symm.trans e2)
  subst e
  exact kk q H1 locs ls hP1 hD1 hS1 hl
theorem gw_objInit (κ : KC p s m args meth c cc nL own D cI cR A ret) {idx a : Nat} (hd : decode cc pc = .ok (.invokespecial idx, 3)) (hp : pc + 3 = pc')  (hlink : Cond.methodLink own idx objectInit ∈ lw_good) (hR : 1 ≤ R.frames ∧ (st.map fun v => v.category).sum + 12 ≤ R.locals) (kk : GW p l e R s m args below meth c D A nL Q ce sl ws lv pc' st) : GW p l e R s m args below meth c D A nL Q ce sl ws lv pc (.ref a :: st) := by
  subst hp
  intro H locs ls hP hD hS hl
  have hts := κ.1.2.2.2.2
  refine W.objInit κ.1.1 κ.1.2.1 κ.1.2.2.2.1 (hts _ hlink) (hts _ tw_im_Object_init) (hts _ tw_co_Object_init) rfl (by rw [κ.1.2.2.1]; exact hl.1) rfl hd hR.1 (by show 2 * 0 + _ + 12 ≤ _; omega) ?_
  exact kk H locs ls hP hD hS hl
theorem g_cpy_eq {cA : ClassId} {n : Nat} {f g : Nat → Int32} (h : ∀ j, j < n → f j = g j) : vp_cell cA (n, .inl f) = vp_cell cA (n, .inl g) := by
  rw [vp_cell_i, vp_cell_i]
  unfold arrV
  congr 1
  apply Array.ext
  · simp
  · intro j h1 h2
    simp only [Array.getElem_ofFn]
    rw [h j (by simpa using h1)]
theorem gw_cell {a n : Nat} {f g : Nat → Int32} (q0 : Nat) (ha : ws[q0]? = some (a, .inl (cI, n, .inl f))) (h : ∀ j, j < n → f j = g j) {ws' : va_W} (hw : ws.set q0 (a, .inl (cI, n, .inl g)) = ws') (kk : GW p l e R s m args below meth c D A nL Q ce sl ws' lv pc st) : GW p l e R s m args below meth c D A nL Q ce sl ws lv pc st := by
  subst hw
  intro H locs ls hP hD hS hl
  refine kk H locs ls (hP.set hD ha ?_ (fun _ _ => rfl)) (hD.set ha) hS hl
  have h1 : H[a]? = some (vp_cell cI (n, .inl f)) := hP q0 _ ha
  show H[a]? = some (vp_cell cI (n, .inl g))
  rw [h1, g_cpy_eq h]
theorem gw_copy (κ : KC p s m args meth c cc nL own D cI cR A ret) {a0 a1 n0 idx : Nat} {f g : Nat → Int32} {n : Int32} {ws' : va_W} (hd : decode cc pc = .ok (.invokestatic idx, 3)) (hp : pc + 3 = pc')   (q0 q1 : Nat) (ha0 : ws[q0]? = some (a0, .inl (cI, n0, .inl f))) (ha1 : ws[q1]? = some (a1, .inl (cI, n0, .inl g)))  (hnn : ¬ n < 0) (hn : n.toNatClampNeg = n0) (hlink : Cond.methodLink own idx arraycopyName ∈ lw_good) (hini : Cond.initialized "java/lang/System" ∈ lw_good) (hR : 1 ≤ R.frames ∧ (st.map fun v => v.category).sum + (nativeFrameWords "java/lang/System" "arraycopy" 5 + 11) ≤ R.locals)  (hw : ws.set q1 (a1, .inl (cI, n0, .inl f)) = ws') (kk : GW p l e R s m args below meth c D A nL Q ce sl ws' lv pc' st) : GW p l e R s m args below meth c D A nL Q ce sl ws lv pc (.int n :: .int 0 :: .ref a1 :: .int 0 :: .ref a0 :: st) := by
  subst hp
  subst hw
  subst hn
  intro H locs ls hP hD hS hl
  have hts := κ.1.2.2.2.2
  have z : (0 : Int32).toNatClampNeg = 0 := by decide
  refine va_copyi (ty := .int) κ.1.1 κ.1.2.1 (by rw [κ.1.2.2.1]; exact hl.1.symm) κ.1.2.2.2.1 (hts _ hlink) (hts _ tw_na_arraycopy) (hts _ tw_st_arraycopy) (hts _ hini) κ.2.1 hP hD hS q0 q1 0 0 ha0 ha1 rfl rfl rfl (by decide) (by decide) hnn (by rw [z]; omega) (by rw [z]; omega) (fun _ _ => rfl) hR.1 hR.2 hd (fun H1 locs1 hP1 hD1 hS1 => ?_)
  have hlt := (List.getElem?_eq_some_iff.mp ha1).1
  have hc := gw_cell (cI := cI) (D := D) (lv := lv) (nL := nL) (A := A) (st := st) (ws := ws.set q1 (a1, .inl (cI, n.toNatClampNeg, .inl (va_cpy f g (0 : Int32).toNatClampNeg (0 : Int32).toNatClampNeg n.toNatClampNeg)))) (g := f) q1 (by rw [List.getElem?_set_self hlt]) (fun j hj => by rw [z]; simp [va_cpy, hj]) (by rw [List.set_set]) kk
  exact hc H1 locs1 ls hP1 hD1 hS1 hl
theorem gw_nf {ws' : va_W} {lv' : List (Nat × Value)} {st' : List Value} {ce' sl' : Nat} (h1 : ws = ws') (h2 : lv = lv') (h3 : st = st') (h4 : pc = pc') (h5 : ce = ce') (h6 : sl = sl') (k : GW p l e R s m args below meth c D A nL Q ce' sl' ws' lv' pc' st') : GW p l e R s m args below meth c D A nL Q ce sl ws lv pc st := by
  subst h1; subst h2; subst h3; subst h4; subst h5; subst h6; exact k
theorem gw_top {x : Int32} (k : ∀ y : Int32, y = x → GW p l e R s m args below meth c D A nL Q ce sl ws lv pc (.int y :: st)) : GW p l e R s m args below meth c D A nL Q ce sl ws lv pc (.int x :: st) := k x rfl
theorem gw_topl {x : Int64} (k : ∀ y : Int64, y = x → GW p l e R s m args below meth c D A nL Q ce sl ws lv pc (.long y :: st)) : GW p l e R s m args below meth c D A nL Q ce sl ws lv pc (.long x :: st) := k x rfl
theorem gw_max (κ : KC p s m args meth c cc nL own D cI cR A ret) {idx : Nat} {x y : Int32} (hd : decode cc pc = .ok (.invokestatic idx, 3)) (hp : pc + 3 = pc')   (hlink : Cond.methodLink own idx Lib.Math.max.name ∈ lw_good) (hst : Cond.static Lib.Math.max.name ∈ lw_good) (hini : Cond.initialized "java/lang/Math" ∈ lw_good) (hco : Cond.code Lib.Math.max.name Lib.Math.max.code 2 (some .int) ∈ lw_good) (hR : 1 ≤ R.frames ∧ (st.map fun v => v.category).sum + 13 ≤ R.locals ∧ ce ≤ R.cells ∧ sl ≤ R.slots) (kk : GW p l e R s m args below meth c D A nL Q ce sl ws lv pc' (.int (if x < y then y else x) :: st)) : GW p l e R s m args below meth c D A nL Q ce sl ws lv pc (.int y :: .int x :: st) := by
  subst hp
  intro H locs ls hP hD hS hl
  have hts := κ.1.2.2.2.2
  exact va_mmax κ.1.1 κ.1.2.1 (by rw [κ.1.2.2.1]; exact hl.1.symm) κ.1.2.2.2.1 (hts _ hlink) (hts _ hst) (hts _ hini) (hts _ hco) hR.1 hR.2.1 hR.2.2.1 hR.2.2.2 hd (kk H locs ls hP hD hS hl)
theorem gw_gets (κ : KC p s m args meth c cc nL own D cI cR A ret) {n : String} {f : Nat → Int32} {idx : Nat} (hd : decode cc pc = .ok (.getstatic idx, 3)) (hp : pc + 3 = pc')    (h : g_S1 n f A s s.heap) (hlink : Cond.fieldLink own idx "ShuttleDoors" n "[I" ∈ lw_good) (kk : ∀ t : Nat, va_T .int t 5 (fun j => .int (f j)) A s s.heap → GW p l e R s m args below meth c D A nL Q ce sl ws lv pc' (.ref t :: st)) : GW p l e R s m args below meth c D A nL Q ce sl ws lv pc st := by
  subst hp
  obtain ⟨t, hZ, hT⟩ := h
  exact fun H locs ls hP hD hS hl => va_gets κ.1.1 κ.1.2.1 hZ hS κ.1.2.2.2.1 (κ.1.2.2.2.2 _ hlink) (fun _ h => h) hd (kk t hT H locs ls hP hD hS hl)
theorem gw_getsN (κ : KC p s m args meth c cc nL own D cI cR A ret) {n host : String} {f : Nat → Int32} {idx : Nat} (hd : decode cc pc = .ok (.getstatic idx, 3)) (hp : pc + 3 = pc')    (h : g_S1 n f A s s.heap) (hlink : va_Nw (.fieldLinkNest own idx "ShuttleDoors" n "[I" host) s) (kk : ∀ t : Nat, va_T .int t 5 (fun j => .int (f j)) A s s.heap → GW p l e R s m args below meth c D A nL Q ce sl ws lv pc' (.ref t :: st)) : GW p l e R s m args below meth c D A nL Q ce sl ws lv pc st := by
  subst hp
  obtain ⟨t, hZ, hT⟩ := h
  exact fun H locs ls hP hD hS hl => va_getsN κ.1.1 κ.1.2.1 hZ hS κ.1.2.2.2.1 (va_Nw.use rfl hlink) (fun _ h => h) hd (kk t hT H locs ls hP hD hS hl)
theorem gw_tiald (κ : KC p s m args meth c cc nL own D cI cR A ret) {t : Nat} {f : Nat → Int32} {i : Int32} (hd : decode cc pc = .ok (.iaload, 1)) (hp : pc + 1 = pc')   (hT : va_T .int t 5 (fun j => .int (f j)) A s s.heap)  (hin : vp_in i 5) (kk : GW p l e R s m args below meth c D A nL Q ce sl ws lv pc' (.int (f i.toNatClampNeg) :: st)) : GW p l e R s m args below meth c D A nL Q ce sl ws lv pc (.int i :: .ref t :: st) := by
  subst hp
  exact fun H locs ls hP hD hS hl => va_ti κ.1.1 κ.1.2.1 hT hS hin rfl hd (kk H locs ls hP hD hS hl)
theorem gw_iret (κ : KC p s m args meth c cc nL own D cI cR A (some .int)) {S : Type} {post : Option Value → S → Prop} {B : S → va_W} {v : Int32} (hd : decode cc pc = .ok (.ireturn, 1))     (u : S) (hu : ws = B u)  (hpost : post (some (.int v)) u) : GW p l e R s m args below meth c D A nL (MQ below (g_Q D post B A) args s ce sl A) ce sl ws lv pc [.int v] := by
  subst hu
  exact fun H locs ls hP hD hS hl => W.iret κ.1.1 κ.1.2.1 κ.2.2.2.2.2 (fun t ht hW => ⟨⟨_, u, rfl, hpost, by rw [ht]; exact hP, hD⟩, hS.F ht⟩) hS.2.2 hd κ.2.2.2.2.1
theorem gw_zret (κ : KC p s m args meth c cc nL own D cI cR A (some .boolean)) {S : Type} {post : Option Value → S → Prop} {B : S → va_W} {v : Int32} (hd : decode cc pc = .ok (.ireturn, 1))     (u : S) (hu : ws = B u)  (hb : narrow .boolean (.int v) = .int v) (hpost : post (some (.int v)) u) : GW p l e R s m args below meth c D A nL (MQ below (g_Q D post B A) args s ce sl A) ce sl ws lv pc [.int v] := by
  subst hu
  exact fun H locs ls hP hD hS hl => W.zret κ.1.1 κ.1.2.1 κ.2.2.2.2.2 hb (fun t ht hW => ⟨⟨_, u, rfl, hpost, by rw [ht]; exact hP, hD⟩, hS.F ht⟩) hS.2.2 hd κ.2.2.2.2.1
theorem gw_vret (κ : KC p s m args meth c cc nL own D cI cR A none) {S : Type} {post : Option Value → S → Prop} {B : S → va_W} (hd : decode cc pc = .ok (.return_, 1))     (u : S) (hu : ws = B u) (hpost : post none u) : GW p l e R s m args below meth c D A nL (MQ below (g_Q D post B A) args s ce sl A) ce sl ws lv pc [] := by
  subst hu
  exact fun H locs ls hP hD hS hl => W.vret κ.1.1 κ.1.2.1 κ.2.2.2.2.2 (fun t ht hW => ⟨⟨_, u, rfl, hpost, by rw [ht]; exact hP, hD⟩, hS.F ht⟩) hS.2.2 hd κ.2.2.2.2.1
end GWR
/-- the way into a method: its walk from the entry gives its contract -/
theorem ct_of {l : Launch} {D : va_G} {cI cR : ClassId} {y : MethodName} {cy : ByteArray} {nLy : Nat} {rety : Option FieldType} {rm : Room} {av : List Value} {wc : va_W} {S : Type} {B : S → va_W} {post : Option Value → S → Prop} {mc ms : Nat} (own : String) (hown : y.cls = own) (hy : plainName y.cls = true) (hav : (lg_sl av).length ≤ nLy)
    (body : ∀ (p : Program) (e : Env) (s : State) (m : MethodId) (below : List Frame) (meth : Method) (c : Code) (A : Nat → Prop), meth.name = y.name → KC p s m av.toArray meth c cy nLy own D cI cR A rety → GM p l e rm s m av.toArray below meth c D A nLy post B mc ms 0 0 wc (lv_args 0 av) 0 []) : CT l D cI cR y cy nLy rety rm av wc B post mc ms := by
  intro sz
  refine Met.ofW (cc := cy) (maxL := nLy) (ret := rety) hy rfl ?_
  intro p e s m args below meth c s₁ Bd hml hv
  obtain ⟨rfl, hsz, hP, hK, hD0, hST⟩ := hv
  subst hsz
  have hD := hD0.self (sz := s.heap.size)
  have hts := atoms_spec (ws := Cond.code y cy nLy rety :: lw_good) Bd.pre
  have hl := lv_entry av (n := nLy) hav
  rw [lg_entry_eq]
  exact body p e s m below meth c (va_A wc s.heap.size) (name_of_methodNamed Bd.named Bd.method).1 ⟨⟨Bd.exec, Bd.bytes, hml, hown ▸ findClass_of_methodNamed Bd.named, fun w hw => hts w (List.mem_cons_of_mem _ hw)⟩, hK, fun q h => Or.inr h, hST, Bd.notSynchronized, Bd.returns⟩ s.heap [] _ hP hD va_S.rf hl
/-- posts of a number, of nothing -/
def pI {S : Type} (P : Int32 → S → Prop) : Option Value → S → Prop := fun v u => ∃ r : Int32, v = some (.int r) ∧ P r u
def pV {S : Type} (P : S → Prop) : Option Value → S → Prop := fun v u => v = none ∧ P u
theorem sw_out {x : Int32} {n : Nat} (hn : n < 2 ^ 31) (h : ∀ k : Nat, k ≤ n → ¬ x = nI k) : x.toInt < (0 : Int) ∨ (n : Int) < x.toInt := by
  rcases Int.lt_or_le x.toInt 0 with h1 | h1
  · exact Or.inl h1
  · rcases Int.lt_or_le (n : Int) x.toInt with h2 | h2
    · exact Or.inr h2
    · exfalso
      refine h x.toInt.toNat (by omega) ?_
      apply Int32.toInt_inj.mp
      rw [nI_toInt (by omega)]
      omega
theorem sw_out2 {x : Int32} {lo hi : Nat} (hn : hi < 2 ^ 31) (h : ∀ k : Nat, lo ≤ k → k ≤ hi → ¬ x = nI k) : x.toInt < (lo : Int) ∨ (hi : Int) < x.toInt := by
  rcases Int.lt_or_le x.toInt lo with h1 | h1
  · exact Or.inl h1
  · rcases Int.lt_or_le (hi : Int) x.toInt with h2 | h2
    · exact Or.inr h2
    · exfalso
      refine h x.toInt.toNat (by omega) (by omega) ?_
      apply Int32.toInt_inj.mp
      rw [nI_toInt (by omega)]
      omega
def g_b (v : Int32) : Prop := narrow .boolean (.int v) = .int v
end
section
/-! ===== worlds in blocks: a block an object ===== -/
def wfl (bs : List va_W) : va_W := bs.flatten
def off : List va_W → Nat → Nat
  | [], _ => 0
  | _ :: _, 0 => 0
  | b :: bs, i + 1 => b.length + off bs i
theorem fl_cons (b : va_W) (bs : List va_W) : wfl (b :: bs) = b ++ wfl bs := by simp [wfl]
theorem fl_get : ∀ (bs : List va_W) (i : Nat) (b : va_W) (k : Nat) (x : Nat × va_E), bs[i]? = some b → b[k]? = some x → (wfl bs)[off bs i + k]? = some x
  | [], i, b, k, x, hb, _ => by simp at hb
  | c :: bs, 0, b, k, x, hb, hk => by
    simp only [List.getElem?_cons_zero, Option.some.injEq] at hb
    subst hb
    have hl := (List.getElem?_eq_some_iff.mp hk).1
    rw [fl_cons, show off (c :: bs) 0 + k = k by simp [off], List.getElem?_append_left hl]
    exact hk
  | c :: bs, i + 1, b, k, x, hb, hk => by
    simp only [List.getElem?_cons_succ] at hb
    rw [fl_cons, show off (c :: bs) (i + 1) + k = c.length + (off bs i + k) by simp [off]; omega, List.getElem?_append_right (by omega)]
    rw [show c.length + (off bs i + k) - c.length = off bs i + k by omega]
    exact fl_get bs i b k x hb hk
theorem fl_inv : ∀ (bs : List va_W) (n : Nat) (x : Nat × va_E), (wfl bs)[n]? = some x → ∃ i b k, bs[i]? = some b ∧ b[k]? = some x ∧ n = off bs i + k
  | [], n, x, h => by simp [wfl] at h
  | c :: bs, n, x, h => by
    rw [fl_cons] at h
    by_cases hl : n < c.length
    · rw [List.getElem?_append_left hl] at h
      exact ⟨0, c, n, rfl, h, by simp [off]⟩
    · rw [List.getElem?_append_right (by omega)] at h
      obtain ⟨i, b, k, h1, h2, h3⟩ := fl_inv bs _ x h
      exact ⟨i + 1, b, k, by simpa using h1, h2, by simp only [off]; omega⟩
theorem off_inj : ∀ (bs : List va_W) (i j : Nat) (b c : va_W) (k l : Nat), bs[i]? = some b → bs[j]? = some c → k < b.length → l < c.length → off bs i + k = off bs j + l → i = j ∧ k = l
  | [], i, j, b, c, k, l, hb, _, _, _, _ => by simp at hb
  | d :: bs, 0, 0, b, c, k, l, hb, hc, hk, hl, e => ⟨rfl, by omega⟩
  | d :: bs, 0, j + 1, b, c, k, l, hb, hc, hk, hl, e => by
    simp only [List.getElem?_cons_zero, Option.some.injEq] at hb
    subst hb
    simp only [off] at e
    omega
  | d :: bs, i + 1, 0, b, c, k, l, hb, hc, hk, hl, e => by
    simp only [List.getElem?_cons_zero, Option.some.injEq] at hc
    subst hc
    simp only [off] at e
    omega
  | d :: bs, i + 1, j + 1, b, c, k, l, hb, hc, hk, hl, e => by
    simp only [List.getElem?_cons_succ] at hb hc
    simp only [off] at e
    obtain ⟨h1, h2⟩ := off_inj bs i j b c k l hb hc hk hl (by omega)
    exact ⟨by omega, h2⟩
theorem fl_set : ∀ (bs : List va_W) (i : Nat) (b : va_W) (k : Nat) (x : Nat × va_E), bs[i]? = some b → k < b.length → (wfl bs).set (off bs i + k) x = wfl (bs.set i (b.set k x))
  | [], i, b, k, x, hb, _ => by simp at hb
  | c :: bs, 0, b, k, x, hb, hk => by
    simp only [List.getElem?_cons_zero, Option.some.injEq] at hb
    subst hb
    rw [List.set_cons_zero, fl_cons, fl_cons, show off (c :: bs) 0 + k = k by simp [off], List.set_append_left _ _ hk]
  | c :: bs, i + 1, b, k, x, hb, hk => by
    simp only [List.getElem?_cons_succ] at hb
    rw [List.set_cons_succ, fl_cons, fl_cons, show off (c :: bs) (i + 1) + k = c.length + (off bs i + k) by simp [off]; omega, List.set_append_right _ _ (by omega)]
    rw [show c.length + (off bs i + k) - c.length = off bs i + k by omega, fl_set bs i b k x hb hk]
theorem g_pickB {α : Type} {ws wc : List α} {isC : List Nat} (hC : isC.map (fun i => ws[i]?) = wc.map some) {k : Nat} {q : α} (hq : wc[k]? = some q) : ∃ i, isC[k]? = some i ∧ ws[i]? = some q := by
  have h1 : (isC.map (fun i => ws[i]?))[k]? = some (some q) := by rw [hC, List.getElem?_map, hq]; rfl
  rw [List.getElem?_map] at h1
  cases hi : isC[k]? with
  | none => rw [hi] at h1; cases h1
  | some i => rw [hi] at h1; exact ⟨i, rfl, Option.some.inj h1⟩
theorem fl_sub {bs bc : List va_W} {isB : List Nat} (hC : isB.map (fun i => bs[i]?) = bc.map some) {n : Nat} {q : Nat × va_E} (h : (wfl bc)[n]? = some q) : ∃ j c l i, bc[j]? = some c ∧ c[l]? = some q ∧ n = off bc j + l ∧ isB[j]? = some i ∧ bs[i]? = some c ∧ (wfl bs)[off bs i + l]? = some q := by
  obtain ⟨j, c, l, h1, h2, h3⟩ := fl_inv bc n q h
  obtain ⟨i, h4, h5⟩ := g_pickB hC h1
  exact ⟨j, c, l, i, h1, h2, h3, h4, h5, fl_get bs i c l q h5 h2⟩
theorem fl_P {D : va_G} {bs bc : List va_W} {isB : List Nat} {H : Heap} (hC : isB.map (fun i => bs[i]?) = bc.map some) (hP : va_P D vwCl (wfl bs) H) : va_P D vwCl (wfl bc) H := by
  intro n q h
  obtain ⟨j, c, l, i, -, -, -, -, -, h6⟩ := fl_sub hC h
  exact hP _ q h6
theorem fl_D {A : Nat → Prop} {bs bc : List va_W} {isB : List Nat} (hC : isB.map (fun i => bs[i]?) = bc.map some) (hN : va_nd isB = true) (hD : va_D A (wfl bs)) : va_D A (wfl bc) := by
  refine ⟨fun n m x y hx hy hxy => ?_, fun n q h => ?_⟩
  · obtain ⟨j, c, l, i, a1, a2, a3, a4, a5, a6⟩ := fl_sub hC hx
    obtain ⟨j', c', l', i', b1, b2, b3, b4, b5, b6⟩ := fl_sub hC hy
    have e := hD.1 _ _ x y a6 b6 hxy
    obtain ⟨e1, e2⟩ := off_inj bs i i' c c' l l' a5 b5 (List.getElem?_eq_some_iff.mp a2).1 (List.getElem?_eq_some_iff.mp b2).1 e
    subst e1
    have e3 := va_nd_inj isB hN j j' i a4 b4
    subst e3
    rw [a3, b3, e2]
  · obtain ⟨j, c, l, i, -, -, -, -, -, h6⟩ := fl_sub hC h
    exact hD.2 _ q h6
theorem fl_free {A : Nat → Prop} {bs bc : List va_W} {isB : List Nat} {H0 H : Heap} {locs : List Loc} (hC : isB.map (fun i => bs[i]?) = bc.map some) (hD : va_D A (wfl bs)) (hS : va_S A H0 H locs) (hA : ∀ q, H0.size ≤ q → A q) : ∀ q, va_A (wfl bc) H.size q → A q := by
  intro q h
  rcases h with ⟨n, e, h⟩ | h
  · obtain ⟨j, c, l, i, -, -, -, -, -, h6⟩ := fl_sub hC h
    exact hD.2 _ _ h6
  · exact hA q (Nat.le_trans hS.1 h)
theorem g_joinB {A : Nat → Prop} {D : va_G} {bs bc b1 : List va_W} {H H1 : Heap} (hP : va_P D vwCl (wfl bs) H) (hD : va_D A (wfl bs)) (isB : List Nat) (hC : isB.map (fun i => bs[i]?) = bc.map some) (hB : isB.length ≤ b1.length)
    (hk : ∀ q : Nat, q < H.size → ¬ va_A (wfl bc) H.size q → H1[q]? = H[q]?) (hF : ∀ q, va_A (wfl bc) H.size q → A q) (hP1 : va_P D vwCl (wfl b1) H1) (hD1 : va_D (va_A (wfl bc) H.size) (wfl b1)) : va_P D vwCl (wfl (g_repl bs isB b1)) H1 ∧ va_D A (wfl (g_repl bs isB b1)) := by
  have apart : ∀ (i : Nat) (b : va_W) (k : Nat) (q : Nat × va_E), i ∉ isB → bs[i]? = some b → b[k]? = some q → q.1 < H.size ∧ ¬ va_A (wfl bc) H.size q.1 := by
    intro i b k q hn hb hq
    have hf := fl_get bs i b k q hb hq
    have hl := (hP _ q hf).lt
    refine ⟨hl, fun h => ?_⟩
    rcases h with ⟨n, e, h⟩ | h
    · obtain ⟨j, c, l, i', -, a2, -, a4, a5, a6⟩ := fl_sub hC h
      have hij := hD.1 _ _ q (q.1, e) hf a6 rfl
      obtain ⟨e1, -⟩ := off_inj bs i i' b c k l hb a5 (List.getElem?_eq_some_iff.mp hq).1 (List.getElem?_eq_some_iff.mp a2).1 hij
      subst e1
      exact hn (List.mem_of_getElem? a4)
    · omega
  refine ⟨fun n q h => ?_, fun n m x y hx hy hxy => ?_, fun n q h => ?_⟩
  · obtain ⟨i, b, k, h1, h2, -⟩ := fl_inv _ n q h
    rcases g_repl_get isB bs b1 i b hB h1 with ⟨j, h3, -⟩ | ⟨h3, h4⟩
    · exact hP1 _ q (fl_get b1 j b k q h3 h2)
    · obtain ⟨g1, g2⟩ := apart i b k q h3 h4 h2
      exact (hP _ q (fl_get bs i b k q h4 h2)).kept (hk q.1 g1 g2)
  · obtain ⟨i, b, k, a1, a2, a3⟩ := fl_inv _ n x hx
    obtain ⟨i', b', k', c1, c2, c3⟩ := fl_inv _ m y hy
    have lk := (List.getElem?_eq_some_iff.mp a2).1
    have lk' := (List.getElem?_eq_some_iff.mp c2).1
    rcases g_repl_get isB bs b1 i b hB a1 with ⟨j, h1, h1'⟩ | ⟨h1, h2⟩ <;> rcases g_repl_get isB bs b1 i' b' hB c1 with ⟨j', h3, h3'⟩ | ⟨h3, h4⟩
    · have e := hD1.1 _ _ x y (fl_get b1 j b k x h1 a2) (fl_get b1 j' b' k' y h3 c2) hxy
      obtain ⟨e1, e2⟩ := off_inj b1 j j' b b' k k' h1 h3 lk lk' e
      subst e1; subst e2
      have e4 : i = i' := by
        rcases h1' with h1' | ⟨h1', e1⟩ <;> rcases h3' with h3' | ⟨h3', e3⟩
        · exact Option.some.inj (h1'.symm.trans h3')
        · have := (List.getElem?_eq_some_iff.mp h1').1
          omega
        · have := (List.getElem?_eq_some_iff.mp h3').1
          omega
        · rw [e1, e3]
      rw [a3, c3, e4]
    · exact absurd (hxy ▸ hD1.2 _ x (fl_get b1 j b k x h1 a2)) (apart i' b' k' y h3 h4 c2).2
    · exact absurd (hxy.symm ▸ hD1.2 _ y (fl_get b1 j' b' k' y h3 c2)) (apart i b k x h1 h2 a2).2
    · have e := hD.1 _ _ x y (fl_get bs i b k x h2 a2) (fl_get bs i' b' k' y h4 c2) hxy
      obtain ⟨e1, e2⟩ := off_inj bs i i' b b' k k' h2 h4 lk lk' e
      rw [a3, c3, e1, e2]
  · obtain ⟨i, b, k, h1, h2, -⟩ := fl_inv _ n q h
    rcases g_repl_get isB bs b1 i b hB h1 with ⟨j, h3, -⟩ | ⟨h3, h4⟩
    · exact hF _ (hD1.2 _ q (fl_get b1 j b k q h3 h2))
    · exact hD.2 _ q (fl_get bs i b k q h4 h2)
section GBS
variable {p : Program} {l : Launch} {e : Env} {R : Room} {s : State} {m : MethodId} {args : Array Value} {below : List Frame} {meth : Method} {c : Code} {D : va_G} {cI cR : ClassId} {A : Nat → Prop} {nL : Nat} {Q : State → Prop} {ce sl : Nat} {bs : List va_W} {lv : List (Nat × Value)} {pc pc' : Nat} {st : List Value} {cc : ByteArray} {own : String} {ret : Option FieldType}
theorem gb_pre (κ : KC p s m args meth c cc nL own D cI cR A ret) {H : Heap} {locs : List Loc} {av : List Value} {bc : List va_W} (hP : va_P D vwCl (wfl bs) H) (hD : va_D A (wfl bs)) (hS : va_S A s.heap H locs) (isB : List Nat) (hC : isB.map (fun i => bs[i]?) = bc.map some) (hN : va_nd isB = true) :
    ∀ U : State, U.heap = H → s.WarmedH U.vm → g_Pc D cI cR av (wfl bc) H.size av.toArray U := by
  intro U hU hW
  have hF := fl_free hC hD hS κ.2.2.1
  have hq : ∀ a : Nat, a < s.heap.size → ¬ A a → U.heap[a]? = s.heap[a]? := fun a h1 h2 => by rw [hU]; exact hS.2.1 a h1 h2
  have hst := κ.2.2.2.1
  exact ⟨rfl, by rw [hU], by rw [hU]; exact fl_P hC hP, va_K.moved hW.alike κ.2.1, (fl_D hC hN hD).weaken (fun _ _ _ _ => trivial), hst.1.step hq hW.alike hF, hst.2.1.step hq hW.alike hF, hst.2.2.1.step hq hW.alike hF, hst.2.2.2.warm hW⟩
theorem gb_run (κ : KC p s m args meth c cc nL own D cI cR A ret) {S : Type} {Bb : S → List va_W} {post : Option Value → S → Prop} {bc : List va_W} {mc ms : Nat} {rest st0 : List Value} {aa : Array Value} (isB : List Nat) (hC : isB.map (fun i => bs[i]?) = bc.map some) (hB : ∀ u, isB.length ≤ (Bb u).length)
    (hr : ∀ (H : Heap) (locs : List Loc) (ls : Array Slot), va_P D vwCl (wfl bs) H → va_D A (wfl bs) → va_S A s.heap H locs → lv_has ls nL lv → va_Run p l e R s m args below meth c H locs ce sl mc ms (F0 m pc ls st0) rest (g_Q D post (fun u => wfl (Bb u)) (va_A (wfl bc) H.size) aa) (va_A (wfl bc) H.size))
    (kk : ∀ v u, post v u → GW p l e R s m args below meth c D A nL Q (ce + mc) (sl + ms) (wfl (g_repl bs isB (Bb u))) lv (pc + 3) (v.toList ++ rest)) : GW p l e R s m args below meth c D A nL Q ce sl (wfl bs) lv pc st0 := by
  intro H locs ls hP hD hS hl
  have hF := fl_free hC hD hS κ.2.2.1
  refine g_call (hr H locs ls hP hD hS hl) hS (fun q _ h => hF q h) hF (fun v u H1 locs1 hp hP1 hD1 hk hS1 => ?_)
  obtain ⟨hP2, hD2⟩ := g_joinB hP hD isB hC (hB u) hk hF hP1 hD1
  exact kk v u hp H1 locs1 ls hP2 hD2 hS1 hl

theorem gb_callV (κ : KC p s m args meth c cc nL own D cI cR A ret) {y : MethodName} {cy : ByteArray} {nLy : Nat} {rety : Option FieldType} {rm : Room} {b : Nat} {As : List Value} {bc : List va_W} {S : Type} {Bb : S → List va_W} {post : Option Value → S → Prop} {mc ms n idx ci qb : Nat} {fs : List Value} {r : vw_C} {rest : List Value}
    (hct : CT l D cI cR y cy nLy rety rm (.ref b :: As) (wfl bc) (fun u => wfl (Bb u)) post mc ms) (hrm : g_rm R rm nLy mc ms)
    (hwl : Cond.methodLink own idx y ∈ lw_good) (hwi : Cond.instanceMethod y ∈ lw_good) (hws : Cond.selects y.cls y y ∈ lw_good) (hwc : Cond.code y cy nLy rety ∈ lw_good) (hwn : Cond.initialized y.cls ∈ lw_good)
    (hy : g_hy y n) (hn : As.length = n) (hcl : vwCl[ci]? = some r) (hrc : r.1 = y.cls) {bb : va_W} (hqa : bs[qb]? = some bb) (hqb : bb[0]? = some (b, .inr (ci, fs)))
    (hW : (rest.map fun v => v.category).sum ≤ 8) (hst : st = As.reverse ++ .ref b :: rest) (hd : decode cc pc = .ok (.invokevirtual idx, 3))
    (isB : List Nat) (hC : isB.map (fun i => bs[i]?) = bc.map some) (hN : va_nd isB = true) (hB : ∀ u, isB.length ≤ (Bb u).length) (hcells : ce + mc ≤ R.cells ∧ sl + ms ≤ R.slots)
    (kk : ∀ v u, post v u → GW p l e R s m args below meth c D A nL Q (ce + mc) (sl + ms) (wfl (g_repl bs isB (Bb u))) lv (pc + 3) (v.toList ++ rest)) : GW p l e R s m args below meth c D A nL Q ce sl (wfl bs) lv pc st := by
  have hts := κ.1.2.2.2.2
  refine gb_run κ (rest := rest) (aa := (Value.ref b :: As).toArray) isB hC hB (fun H locs ls hP hD hS hl => ?_) kk
  obtain ⟨cell, g1, g2, g3⟩ := va_recv κ.2.1 hP hcl (fl_get bs qb bb 0 _ hqa hqb)
  exact va_runV (C := y.cls) (n := n) (ret := rety) κ.1 (hct H.size) ⟨callB_of n hts (g_good hwc) rfl hrm.1 hrm.2.1 (hts _ hwn) (hts _ hwl) hy hrm.2.2, hts _ hwi, hts _ hws⟩
    ⟨g_Pc.blind, ⟨cell, g1, g2, by rw [← hrc]; exact g3⟩, gb_pre κ hP hD hS isB hC hN⟩ rfl hn hl.1 hst (lv_room hW) hd hcells
theorem gb_callS (κ : KC p s m args meth c cc nL own D cI cR A ret) {y : MethodName} {cy : ByteArray} {nLy : Nat} {rety : Option FieldType} {rm : Room} {As : List Value} {bc : List va_W} {S : Type} {Bb : S → List va_W} {post : Option Value → S → Prop} {mc ms n idx : Nat} {rest : List Value}
    (hct : CT l D cI cR y cy nLy rety rm As (wfl bc) (fun u => wfl (Bb u)) post mc ms) (hrm : g_rm R rm nLy mc ms)
    (hwl : Cond.methodLink own idx y ∈ lw_good) (hwi : Cond.static y ∈ lw_good) (hwc : Cond.code y cy nLy rety ∈ lw_good) (hwn : Cond.initialized y.cls ∈ lw_good)
    (hy : g_hy y n) (hn : As.length = n)
    (hW : (rest.map fun v => v.category).sum ≤ 8) (hst : st = As.reverse ++ rest) (hd : decode cc pc = .ok (.invokestatic idx, 3))
    (isB : List Nat) (hC : isB.map (fun i => bs[i]?) = bc.map some) (hN : va_nd isB = true) (hB : ∀ u, isB.length ≤ (Bb u).length) (hcells : ce + mc ≤ R.cells ∧ sl + ms ≤ R.slots)
    (kk : ∀ v u, post v u → GW p l e R s m args below meth c D A nL Q (ce + mc) (sl + ms) (wfl (g_repl bs isB (Bb u))) lv (pc + 3) (v.toList ++ rest)) : GW p l e R s m args below meth c D A nL Q ce sl (wfl bs) lv pc st := by
  have hts := κ.1.2.2.2.2
  refine gb_run κ (rest := rest) (aa := As.toArray) isB hC hB (fun H locs ls hP hD hS hl => ?_) kk
  exact va_runS (n := n) (ret := rety) κ.1 (hct H.size) ⟨callB_of n hts (g_good hwc) rfl hrm.1 hrm.2.1 (hts _ hwn) (hts _ hwl) hy hrm.2.2, hts _ hwi⟩
    ⟨g_Pc.blind, gb_pre κ hP hD hS isB hC hN⟩ rfl hn hl.1 hst (lv_room hW) hd hcells
theorem gb_callSN (κ : KC p s m args meth c cc nL own D cI cR A ret) {y : MethodName} {cy : ByteArray} {nLy : Nat} {rety : Option FieldType} {rm : Room} {As : List Value} {bc : List va_W} {S : Type} {Bb : S → List va_W} {post : Option Value → S → Prop} {mc ms n idx : Nat} {rest : List Value} {host : String}
    (hct : CT l D cI cR y cy nLy rety rm As (wfl bc) (fun u => wfl (Bb u)) post mc ms) (hrm : g_rm R rm nLy mc ms)
    (hwl : va_Nw (.methodLinkNest own idx y host) s) (hwi : Cond.static y ∈ lw_good) (hwc : Cond.code y cy nLy rety ∈ lw_good) (hwn : Cond.initialized y.cls ∈ lw_good)
    (hy : g_hy y n) (hn : As.length = n)
    (hW : (rest.map fun v => v.category).sum ≤ 8) (hst : st = As.reverse ++ rest) (hd : decode cc pc = .ok (.invokestatic idx, 3))
    (isB : List Nat) (hC : isB.map (fun i => bs[i]?) = bc.map some) (hN : va_nd isB = true) (hB : ∀ u, isB.length ≤ (Bb u).length) (hcells : ce + mc ≤ R.cells ∧ sl + ms ≤ R.slots)
    (kk : ∀ v u, post v u → GW p l e R s m args below meth c D A nL Q (ce + mc) (sl + ms) (wfl (g_repl bs isB (Bb u))) lv (pc + 3) (v.toList ++ rest)) : GW p l e R s m args below meth c D A nL Q ce sl (wfl bs) lv pc st := by
  have hts := κ.1.2.2.2.2
  refine gb_run κ (rest := rest) (aa := As.toArray) isB hC hB (fun H locs ls hP hD hS hl => ?_) kk
  exact va_runSN (n := n) (ret := rety) κ.1 (hct H.size) ⟨va_cnB n hts (g_good hwc) rfl hrm.1 hrm.2.1 hwl (hts _ hwn) hy hrm.2.2, hts _ hwi, trivial⟩
    ⟨g_Pc.blind, gb_pre κ hP hD hS isB hC hN⟩ rfl hn hl.1 hst (lv_room hW) hd hcells
theorem gb_callI (κ : KC p s m args meth c cc nL own D cI cR A ret) {y : MethodName} {cy : ByteArray} {nLy : Nat} {rm : Room} {b : Nat} {As : List Value} {bc : List va_W} {S : Type} {Bb : S → List va_W} {post : Option Value → S → Prop} {mc ms n idx : Nat} {rest : List Value}
    (hct : CT l D cI cR y cy nLy none rm (.ref b :: As) (wfl bc) (fun u => wfl (Bb u)) post mc ms) (hrm : g_rm R rm nLy mc ms)
    (hwl : Cond.methodLink own idx y ∈ lw_good) (hwi : Cond.instanceMethod y ∈ lw_good) (hwc : Cond.code y cy nLy none ∈ lw_good) (hwn : Cond.initialized y.cls ∈ lw_good)
    (hy : g_hy y n) (hy1 : y.name = "<init>") (hn : As.length = n)
    (hW : (rest.map fun v => v.category).sum ≤ 8) (hst : st = As.reverse ++ .ref b :: rest) (hd : decode cc pc = .ok (.invokespecial idx, 3))
    (isB : List Nat) (hC : isB.map (fun i => bs[i]?) = bc.map some) (hN : va_nd isB = true) (hB : ∀ u, isB.length ≤ (Bb u).length) (hcells : ce + mc ≤ R.cells ∧ sl + ms ≤ R.slots)
    (kk : ∀ v u, post v u → GW p l e R s m args below meth c D A nL Q (ce + mc) (sl + ms) (wfl (g_repl bs isB (Bb u))) lv (pc + 3) (v.toList ++ rest)) : GW p l e R s m args below meth c D A nL Q ce sl (wfl bs) lv pc st := by
  have hts := κ.1.2.2.2.2
  refine gb_run κ (rest := rest) (aa := (Value.ref b :: As).toArray) isB hC hB (fun H locs ls hP hD hS hl => ?_) kk
  exact va_runI (n := n) κ.1 (hct H.size) ⟨callB_of n hts (g_good hwc) rfl hrm.1 hrm.2.1 (hts _ hwn) (hts _ hwl) hy hrm.2.2, hy1, hts _ hwi⟩
    ⟨g_Pc.blind, gb_pre κ hP hD hS isB hC hN⟩ rfl hn hl.1 hst (lv_room hW) hd hcells
theorem gb_callIN (κ : KC p s m args meth c cc nL own D cI cR A ret) {y : MethodName} {cy : ByteArray} {nLy : Nat} {rm : Room} {b : Nat} {As : List Value} {bc : List va_W} {S : Type} {Bb : S → List va_W} {post : Option Value → S → Prop} {mc ms n idx : Nat} {rest : List Value} {host : String}
    (hct : CT l D cI cR y cy nLy none rm (.ref b :: As) (wfl bc) (fun u => wfl (Bb u)) post mc ms) (hrm : g_rm R rm nLy mc ms)
    (hwl : va_Nw (.methodLinkNest own idx y host) s) (hwi : Cond.instanceMethod y ∈ lw_good) (hwc : Cond.code y cy nLy none ∈ lw_good) (hwn : Cond.initialized y.cls ∈ lw_good)
    (hy : g_hy y n) (hy1 : y.name = "<init>") (hn : As.length = n)
    (hW : (rest.map fun v => v.category).sum ≤ 8) (hst : st = As.reverse ++ .ref b :: rest) (hd : decode cc pc = .ok (.invokespecial idx, 3))
    (isB : List Nat) (hC : isB.map (fun i => bs[i]?) = bc.map some) (hN : va_nd isB = true) (hB : ∀ u, isB.length ≤ (Bb u).length) (hcells : ce + mc ≤ R.cells ∧ sl + ms ≤ R.slots)
    (kk : ∀ v u, post v u → GW p l e R s m args below meth c D A nL Q (ce + mc) (sl + ms) (wfl (g_repl bs isB (Bb u))) lv (pc + 3) (v.toList ++ rest)) : GW p l e R s m args below meth c D A nL Q ce sl (wfl bs) lv pc st := by
  have hts := κ.1.2.2.2.2
  refine gb_run κ (rest := rest) (aa := (Value.ref b :: As).toArray) isB hC hB (fun H locs ls hP hD hS hl => ?_) kk
  exact va_runIN (n := n) κ.1 (hct H.size) ⟨va_cnB n hts (g_good hwc) rfl hrm.1 hrm.2.1 hwl (hts _ hwn) hy hrm.2.2, hy1, hts _ hwi⟩
    ⟨g_Pc.blind, gb_pre κ hP hD hS isB hC hN⟩ rfl hn hl.1 hst (lv_room hW) hd hcells
theorem gb_get (κ : KC p s m args meth c cc nL own D cI cR A ret) {C : String} {T : u_T} {N ci idx a : Nat} {fs : List Value} {b : va_W} {v : Value} (hd : decode cc pc = .ok (.getfield idx, 3)) (hp : pc + 3 = pc') (hin : ∀ w ∈ u_ws C T N, w ∈ lw_good) (i : Nat) (hb : bs[i]? = some b) (he : b[0]? = some (a, .inr (ci, fs))) (hc : vwCl[ci]? = some (C, T, N)) (k : Nat) (hk : k < N) (hlink : Cond.fieldLink own idx (T k).1 (T k).2.1 (T k).2.2.1 ∈ lw_good) (hv : fs[k]? = some v) (kk : GW p l e R s m args below meth c D A nL Q ce sl (wfl bs) lv pc' (v :: st)) : GW p l e R s m args below meth c D A nL Q ce sl (wfl bs) lv pc (.ref a :: st) :=
  gw_get κ hd hp hin (off bs i + 0) (fl_get bs i b 0 _ hb he) hc k hk hlink hv kk
theorem gb_put (κ : KC p s m args meth c cc nL own D cI cR A ret) {C : String} {T : u_T} {N ci idx a : Nat} {fs : List Value} {b : va_W} {ty : FieldType} {v : Value} {bs' : List va_W} (hd : decode cc pc = .ok (.putfield idx, 3)) (hp : pc + 3 = pc') (hin : ∀ w ∈ u_ws C T N, w ∈ lw_good) (ty0 : Nat → FieldType) (hty : ∀ k, k < N → parseFieldDescriptor (T k).2.2.1 = some (ty0 k)) (hnm : ∀ a, a < N → ∀ b, b < N → a ≠ b → (T a).2.1 ≠ (T b).2.1) (i : Nat) (hb : bs[i]? = some b) (he : b[0]? = some (a, .inr (ci, fs))) (hc : vwCl[ci]? = some (C, T, N)) (k : Nat) (hk : k < N) (hlink : Cond.fieldLink own idx (T k).1 (T k).2.1 (T k).2.2.1 ∈ lw_good) (hfin : (T k).2.2.2 = false) (hdd : parseFieldDescriptor (T k).2.2.1 = some ty) (hn : narrow ty v = v) (hfit : fits ty v = true) (hlen : k < fs.length) (hw : bs.set i (b.set 0 (a, .inr (ci, fs.set k v))) = bs') (kk : GW p l e R s m args below meth c D A nL Q ce sl (wfl bs') lv pc' st) : GW p l e R s m args below meth c D A nL Q ce sl (wfl bs) lv pc (v :: .ref a :: st) := by
  refine gw_put κ hd hp hin ty0 hty hnm (off bs i + 0) (fl_get bs i b 0 _ hb he) hc k hk hlink hfin hdd hn hfit hlen ?_ kk
  rw [fl_set bs i b 0 _ hb (List.getElem?_eq_some_iff.mp he).1, hw]
theorem gb_iald (κ : KC p s m args meth c cc nL own D cI cR A ret) {a n : Nat} {f : Nat → Int32} {b : va_W} {x : Int32} (hd : decode cc pc = .ok (.iaload, 1)) (hp : pc + 1 = pc') (i k : Nat) (hb : bs[i]? = some b) (ha : b[k]? = some (a, .inl (cI, n, .inl f))) (hin : vp_in x n) (kk : GW p l e R s m args below meth c D A nL Q ce sl (wfl bs) lv pc' (.int (f x.toNatClampNeg) :: st)) : GW p l e R s m args below meth c D A nL Q ce sl (wfl bs) lv pc (.int x :: .ref a :: st) :=
  gw_iald κ hd hp (off bs i + k) (fl_get bs i b k _ hb ha) hin kk
theorem gb_iast (κ : KC p s m args meth c cc nL own D cI cR A ret) {a n : Nat} {f : Nat → Int32} {b : va_W} {x y : Int32} {bs' : List va_W} (hd : decode cc pc = .ok (.iastore, 1)) (hp : pc + 1 = pc') (i k : Nat) (hb : bs[i]? = some b) (ha : b[k]? = some (a, .inl (cI, n, .inl f))) (hin : vp_in x n) (hw : bs.set i (b.set k (a, .inl (cI, n, .inl (upd f x.toNatClampNeg y)))) = bs') (kk : GW p l e R s m args below meth c D A nL Q ce sl (wfl bs') lv pc' st) : GW p l e R s m args below meth c D A nL Q ce sl (wfl bs) lv pc (.int y :: .int x :: .ref a :: st) := by
  refine gw_iast κ hd hp (off bs i + k) (fl_get bs i b k _ hb ha) hin ?_ kk
  rw [fl_set bs i b k _ hb (List.getElem?_eq_some_iff.mp ha).1, hw]
theorem gb_aald (κ : KC p s m args meth c cc nL own D cI cR A ret) {a n : Nat} {f : Nat → Option Nat} {b : va_W} {x : Int32} {v : Value} (hd : decode cc pc = .ok (.aaload, 1)) (hp : pc + 1 = pc') (i k : Nat) (hb : bs[i]? = some b) (ha : b[k]? = some (a, .inl (cR, n, .inr (.inr (.inr (.inr f)))))) (hin : vp_in x n) (hv : va_rf (f x.toNatClampNeg) = v) (kk : GW p l e R s m args below meth c D A nL Q ce sl (wfl bs) lv pc' (v :: st)) : GW p l e R s m args below meth c D A nL Q ce sl (wfl bs) lv pc (.int x :: .ref a :: st) :=
  gw_aald κ hd hp (off bs i + k) (fl_get bs i b k _ hb ha) hin hv kk
theorem gb_copy (κ : KC p s m args meth c cc nL own D cI cR A ret) {a0 a1 n0 idx : Nat} {f g : Nat → Int32} {b0 b1 : va_W} {n : Int32} {bs' : List va_W} (hd : decode cc pc = .ok (.invokestatic idx, 3)) (hp : pc + 3 = pc') (i0 k0 i1 k1 : Nat) (hb0 : bs[i0]? = some b0) (hb1 : bs[i1]? = some b1) (ha0 : b0[k0]? = some (a0, .inl (cI, n0, .inl f))) (ha1 : b1[k1]? = some (a1, .inl (cI, n0, .inl g))) (hnn : ¬ n < 0) (hn : n.toNatClampNeg = n0) (hlink : Cond.methodLink own idx arraycopyName ∈ lw_good) (hini : Cond.initialized "java/lang/System" ∈ lw_good) (hR : 1 ≤ R.frames ∧ (st.map fun v => v.category).sum + (nativeFrameWords "java/lang/System" "arraycopy" 5 + 11) ≤ R.locals) (hw : bs.set i1 (b1.set k1 (a1, .inl (cI, n0, .inl f))) = bs') (kk : GW p l e R s m args below meth c D A nL Q ce sl (wfl bs') lv pc' st) : GW p l e R s m args below meth c D A nL Q ce sl (wfl bs) lv pc (.int n :: .int 0 :: .ref a1 :: .int 0 :: .ref a0 :: st) := by
  refine gw_copy κ hd hp (off bs i0 + k0) (off bs i1 + k1) (fl_get bs i0 b0 k0 _ hb0 ha0) (fl_get bs i1 b1 k1 _ hb1 ha1) hnn hn hlink hini hR ?_ kk
  rw [fl_set bs i1 b1 k1 _ hb1 (List.getElem?_eq_some_iff.mp ha1).1, hw]
theorem fl_snoc (bs : List va_W) (x : Nat × va_E) : wfl bs ++ [x] = wfl (bs ++ [[x]]) := by simp [wfl]
theorem gb_newa (κ : KC p s m args meth c cc nL own D cI cR A ret) {n : Int32} {N : Nat} (hd : decode cc pc = .ok (.newarray .int, 2)) (hp : pc + 2 = pc') (hn : ¬ n < 0) (hN : n.toNatClampNeg = N) (hbytes : N * 4 ≤ 536870912) (hcells : ce + 1 ≤ R.cells) (hslots : sl + N ≤ R.slots) (kk : ∀ q : Nat, GW p l e R s m args below meth c D A nL Q (ce + 1) (sl + N) (wfl (bs ++ [[(q, .inl (cI, N, .inl (fun _ => 0)))]])) lv pc' (.ref q :: st)) : GW p l e R s m args below meth c D A nL Q ce sl (wfl bs) lv pc (.int n :: st) :=
  gw_newa κ hd hp hn hN hbytes hcells hslots (fun q => by rw [fl_snoc]; exact kk q)
theorem gb_newq (κ : KC p s m args meth c cc nL own D cI cR A ret) {n : Int32} {N idx : Nat} (hd : decode cc pc = .ok (.anewarray idx, 3)) (hp : pc + 3 = pc') (hcl : Cond.classLink own idx RX3 ∈ lw_good) (hn : ¬ n < 0) (hN : n.toNatClampNeg = N) (hbytes : N * 4 ≤ 536870912) (hcells : ce + 1 ≤ R.cells) (hslots : sl + N ≤ R.slots) (kk : ∀ q : Nat, GW p l e R s m args below meth c D A nL Q (ce + 1) (sl + N) (wfl (bs ++ [[(q, .inl (cR, N, .inr (.inr (.inr (.inr (fun _ => none))))))]])) lv pc' (.ref q :: st)) : GW p l e R s m args below meth c D A nL Q ce sl (wfl bs) lv pc (.int n :: st) :=
  gw_newq κ hd hp hcl hn hN hbytes hcells hslots (fun q => by rw [fl_snoc]; exact kk q)
theorem gb_new (κ : KC p s m args meth c cc nL own D cI cR A ret) {C : String} {T : u_T} {N ci idx : Nat} {fs : List Value} (hd : decode cc pc = .ok (.new idx, 3)) (hp : pc + 3 = pc') (hin : ∀ w ∈ u_ws C T N, w ∈ lw_good) (ty : Nat → FieldType) (hty : ∀ k, k < N → parseFieldDescriptor (T k).2.2.1 = some (ty k)) (hcl : Cond.classLink own idx C ∈ lw_good) (hinst : Cond.instantiable C N ∈ lw_good) (hini : Cond.initialized C ∈ lw_good) (hc : vwCl[ci]? = some (C, T, N)) (hfs : ∀ j, j < N → defaultValue (ty j) = vp_V fs j) (hcells : ce + 1 ≤ R.cells) (hslots : sl + N ≤ R.slots) (kk : ∀ q : Nat, GW p l e R s m args below meth c D A nL Q (ce + 1) (sl + N) (wfl (bs ++ [[(q, .inr (ci, fs))]])) lv pc' (.ref q :: st)) : GW p l e R s m args below meth c D A nL Q ce sl (wfl bs) lv pc st :=
  gw_new κ hd hp hin ty hty hcl hinst hini hc hfs hcells hslots (fun q => by rw [fl_snoc]; exact kk q)
theorem gb_putF (κ : KC p s m args meth c cc nL own D cI cR A ret) {C : String} {T : u_T} {N ci idx a : Nat} {fs : List Value} {b : va_W} {ty : FieldType} {v : Value} {bs' : List va_W} (hd : decode cc pc = .ok (.putfield idx, 3)) (hp : pc + 3 = pc') (hin : ∀ w ∈ u_ws C T N, w ∈ lw_good) (ty0 : Nat → FieldType) (hty : ∀ k, k < N → parseFieldDescriptor (T k).2.2.1 = some (ty0 k)) (hnm : ∀ a, a < N → ∀ b, b < N → a ≠ b → (T a).2.1 ≠ (T b).2.1) (i : Nat) (hb : bs[i]? = some b) (he : b[0]? = some (a, .inr (ci, fs))) (hc : vwCl[ci]? = some (C, T, N)) (k : Nat) (hk : k < N) (hlink : Cond.fieldLink own idx (T k).1 (T k).2.1 (T k).2.2.1 ∈ lw_good) (hfin : (T k).2.2.2 = true) (hin2 : meth.name = "<init>") (hdecl : (T k).1 = own) (hdd : parseFieldDescriptor (T k).2.2.1 = some ty) (hn : narrow ty v = v) (hfit : fits ty v = true) (hlen : k < fs.length) (hw : bs.set i (b.set 0 (a, .inr (ci, fs.set k v))) = bs') (kk : GW p l e R s m args below meth c D A nL Q ce sl (wfl bs') lv pc' st) : GW p l e R s m args below meth c D A nL Q ce sl (wfl bs) lv pc (v :: .ref a :: st) := by
  refine gw_putF κ hd hp hin ty0 hty hnm (off bs i + 0) (fl_get bs i b 0 _ hb he) hc k hk hlink hfin hin2 hdecl hdd hn hfit hlen ?_ kk
  rw [fl_set bs i b 0 _ hb (List.getElem?_eq_some_iff.mp he).1, hw]
theorem gb_aast (κ : KC p s m args meth c cc nL own D cI cR A ret) {a n v : Nat} {vs : List Value} {f : Nat → Option Nat} {b0 b1 : va_W} {x : Int32} {bs' : List va_W} (hd : decode cc pc = .ok (.aastore, 1)) (hp : pc + 1 = pc') (i k i1 : Nat) (hb : bs[i]? = some b0) (hb1 : bs[i1]? = some b1) (ha : b0[k]? = some (a, .inl (cR, n, .inr (.inr (.inr (.inr f)))))) (hv : b1[0]? = some (v, .inr (3, vs))) (hin : vp_in x n) (hw : bs.set i (b0.set k (a, .inl (cR, n, .inr (.inr (.inr (.inr (va_up f x.toNatClampNeg (some v)))))))) = bs') (kk : GW p l e R s m args below meth c D A nL Q ce sl (wfl bs') lv pc' st) : GW p l e R s m args below meth c D A nL Q ce sl (wfl bs) lv pc (.ref v :: .int x :: .ref a :: st) := by
  refine gw_aast κ hd hp (off bs i + k) (off bs i1 + 0) (fl_get bs i b0 k _ hb ha) (fl_get bs i1 b1 0 _ hb1 hv) hin ?_ kk
  rw [fl_set bs i b0 k _ hb (List.getElem?_eq_some_iff.mp ha).1, hw]
theorem g_cellq_eq {cA : ClassId} {n : Nat} {f g : Nat → Option Nat} (h : ∀ j, j < n → f j = g j) : vp_cell cA (n, .inr (.inr (.inr (.inr f)))) = vp_cell cA (n, .inr (.inr (.inr (.inr g)))) := by
  rw [vp_cell_q, vp_cell_q]
  unfold arrV
  congr 1
  apply Array.ext
  · simp
  · intro j h1 h2
    simp only [Array.getElem_ofFn]
    rw [h j (by simpa using h1)]
theorem gb_cellq {a n : Nat} {f g : Nat → Option Nat} {b : va_W} {bs' : List va_W} (i k : Nat) (hb : bs[i]? = some b) (ha : b[k]? = some (a, .inl (cR, n, .inr (.inr (.inr (.inr f)))))) (h : ∀ j, j < n → f j = g j) (hw : bs.set i (b.set k (a, .inl (cR, n, .inr (.inr (.inr (.inr g)))))) = bs') (kk : GW p l e R s m args below meth c D A nL Q ce sl (wfl bs') lv pc st) : GW p l e R s m args below meth c D A nL Q ce sl (wfl bs) lv pc st := by
  intro H locs ls hP hD hS hl
  have hf := fl_get bs i b k _ hb ha
  have hs := fl_set bs i b k (a, .inl (cR, n, .inr (.inr (.inr (.inr g))))) hb (List.getElem?_eq_some_iff.mp ha).1
  rw [hw] at hs
  refine kk H locs ls (hs ▸ hP.set hD hf ?_ (fun _ _ => rfl)) (hs ▸ hD.set hf) hS hl
  have h1 : H[a]? = some (vp_cell cR (n, .inr (.inr (.inr (.inr f))))) := hP _ _ hf
  show H[a]? = some (vp_cell cR (n, .inr (.inr (.inr (.inr g)))))
  rw [h1, g_cellq_eq h]
theorem gb_sub {bc : List va_W} (isB : List Nat) (hC : isB.map (fun i => bs[i]?) = bc.map some) (hN : va_nd isB = true) (kk : GW p l e R s m args below meth c D A nL Q ce sl (wfl bc) lv pc st) : GW p l e R s m args below meth c D A nL Q ce sl (wfl bs) lv pc st :=
  fun H locs ls hP hD hS hl => kk H locs ls (fl_P hC hP) (fl_D hC hN hD) hS hl
end GBS
end
section
/-! ===== rows of long numbers, of small constants, of the script; the contract of cell ===== -/
section GWL
variable {p : Program} {l : Launch} {e : Env} {R : Room} {s : State} {m : MethodId} {args : Array Value} {below : List Frame} {meth : Method} {c : Code} {D : va_G} {cI cR : ClassId} {A : Nat → Prop} {nL : Nat} {Q : State → Prop} {ce sl : Nat} {ws : va_W} {lv : List (Nat × Value)} {pc pc' : Nat} {st : List Value} {cc : ByteArray} {own : String} {ret : Option FieldType}
theorem gw_ladd (κ : KC p s m args meth c cc nL own D cI cR A ret) {x y : Int64} (hd : decode cc pc = .ok (.ladd, 1)) (hp : pc + 1 = pc') (kk : GW p l e R s m args below meth c D A nL Q ce sl ws lv pc' (.long (x + y) :: st)) : GW p l e R s m args below meth c D A nL Q ce sl ws lv pc (.long y :: .long x :: st) := by
  subst hp
  exact fun H locs ls hP hD hS hl => lv_ladd κ.1.1 κ.1.2.1 hd (kk H locs ls hP hD hS hl)
theorem gw_lmul (κ : KC p s m args meth c cc nL own D cI cR A ret) {x y : Int64} (hd : decode cc pc = .ok (.lmul, 1)) (hp : pc + 1 = pc') (kk : GW p l e R s m args below meth c D A nL Q ce sl ws lv pc' (.long (x * y) :: st)) : GW p l e R s m args below meth c D A nL Q ce sl ws lv pc (.long y :: .long x :: st) := by
  subst hp
  exact fun H locs ls hP hD hS hl => lv_lmul κ.1.1 κ.1.2.1 hd (kk H locs ls hP hD hS hl)
theorem gw_ldc (κ : KC p s m args meth c cc nL own D cI cR A ret) {idx : Nat} {v : Int32} (hd : decode cc pc = .ok (.ldc idx, 2)) (hp : pc + 2 = pc') (hw : Cond.constant own idx v ∈ lw_good) (kk : GW p l e R s m args below meth c D A nL Q ce sl ws lv pc' (.int v :: st)) : GW p l e R s m args below meth c D A nL Q ce sl ws lv pc st := by
  subst hp
  exact fun H locs ls hP hD hS hl => lv_ldc κ.1.1 κ.1.2.1 κ.1.2.2.2.1 (κ.1.2.2.2.2 _ hw) hd (kk H locs ls hP hD hS hl)
theorem gw_lret (κ : KC p s m args meth c cc nL own D cI cR A (some .long)) {S : Type} {post : Option Value → S → Prop} {B : S → va_W} {v : Int64} (hd : decode cc pc = .ok (.lreturn, 1)) (u : S) (hu : ws = B u) (hpost : post (some (.long v)) u) : GW p l e R s m args below meth c D A nL (MQ below (g_Q D post B A) args s ce sl A) ce sl ws lv pc [.long v] := by
  subst hu
  exact fun H locs ls hP hD hS hl => W.lret κ.1.1 κ.1.2.1 κ.2.2.2.2.2 (fun t ht hW => ⟨⟨_, u, rfl, hpost, by rw [ht]; exact hP, hD⟩, hS.F ht⟩) hS.2.2 hd κ.2.2.2.2.1
theorem gw_xld (κ : KC p s m args meth c cc nL own D cI cR A ret) {b L : Nat} {xs : Nat → Int32} {x : Int32} (hd : decode cc pc = .ok (.iaload, 1)) (hp : pc + 1 = pc') (hX : va_X b L xs s s.heap) (hbl : b < s.heap.size) (hbA : ¬ A b) (hin : vp_in x L) (kk : GW p l e R s m args below meth c D A nL Q ce sl ws lv pc' (.int (xs x.toNatClampNeg) :: st)) : GW p l e R s m args below meth c D A nL Q ce sl ws lv pc (.int x :: .ref b :: st) := by
  subst hp
  exact fun H locs ls hP hD hS hl => va_sld κ.1.1 κ.1.2.1 hX hbl hbA hS hin hd (kk H locs ls hP hD hS hl)
theorem gw_slen (κ : KC p s m args meth c cc nL own D cI cR A ret) {b L : Nat} {xs : Nat → Int32} (hd : decode cc pc = .ok (.arraylength, 1)) (hp : pc + 1 = pc') (hX : va_X b L xs s s.heap) (hbl : b < s.heap.size) (hbA : ¬ A b) (kk : GW p l e R s m args below meth c D A nL Q ce sl ws lv pc' (.int (nI L) :: st)) : GW p l e R s m args below meth c D A nL Q ce sl ws lv pc (.ref b :: st) := by
  subst hp
  exact fun H locs ls hP hD hS hl => va_slen κ.1.1 κ.1.2.1 hX hbl hbA hS hd (kk H locs ls hP hD hS hl)
end GWL
def pL {S : Type} (P : Int64 → S → Prop) : Option Value → S → Prop := fun v u => ∃ r : Int64, v = some (.long r) ∧ P r u
/-- the k-th int of the script, or what stands for it behind its end -/
def celV (L : Nat) (xs : Nat → Int32) (x : Int32) : Int32 := if x < nI L then xs x.toNatClampNeg else (44129 : Int32) * (x + 5) + (2891131 : Int32)
def g_PX (D : va_G) (cI cR : ClassId) (b L : Nat) (xs : Nat → Int32) (av : List Value) (wc : va_W) (sz : Nat) : Array Value → State → Prop := fun a U => g_Pc D cI cR av wc sz a U ∧ va_X b L xs U U.heap ∧ b < U.heap.size ∧ ¬ va_A wc sz b
theorem g_PX.blind {D : va_G} {cI cR : ClassId} {b L : Nat} {xs : Nat → Int32} {av : List Value} {wc : va_W} {sz : Nat} : FrameBlind (g_PX D cI cR b L xs av wc sz) := fun a U g mk q =>
  ⟨g_Pc.blind a U g mk q.1, va_X.moved (u := U) (U := U.calling g mk a) (Vm.Alike.refl U.vm) q.2.1, q.2.2⟩
theorem c_L_cell {l : Launch} {D : va_G} {cI cR : ClassId} {b L : Nat} {xs : Nat → Int32} (hL : L ≤ 260) {x : Int32} (hx : (0 : Int32) ≤ x) (sz : Nat) : Met l yL_cell (Cond.code yL_cell cL_cell 2 (some .int) :: lw_good) ({ frames := 0, cells := 0, slots := 0, locals := 0 } : Room) (g_PX D cI cR b L xs [.ref b, .int x] [] sz) (g_Q D (pI (fun (r : Int32) (_ : Unit) => r = celV L xs x)) (fun _ => []) (va_A [] sz)) 0 0 (va_A [] sz) := by
  refine Met.ofW (cc := cL_cell) (maxL := 2) (ret := some .int) (by decide +kernel) rfl ?_
  intro p e s m args below meth c s₁ Bd hml hv
  obtain ⟨⟨rfl, hsz, hP, hK, hD0, hST⟩, hX, hbl, hbA⟩ := hv
  subst hsz
  have hD := hD0.self (sz := s.heap.size)
  have hts := atoms_spec (ws := Cond.code yL_cell cL_cell 2 (some .int) :: lw_good) Bd.pre
  have hl := lv_entry [.ref b, .int x] (n := 2) (Nat.le_of_ble_eq_true rfl)
  rw [lg_entry_eq]
  have κ : KC p s m ([.ref b, .int x] : List Value).toArray meth c cL_cell 2 RL D cI cR (va_A [] s.heap.size) (some .int) := ⟨⟨Bd.exec, Bd.bytes, hml, show s.vm.findClass RL = some m.cls from findClass_of_methodNamed Bd.named, fun w hw => hts w (List.mem_cons_of_mem _ hw)⟩, hK, fun q h => Or.inr h, hST, Bd.notSynchronized, Bd.returns⟩
  suffices hh : GM p l e ({ frames := 0, cells := 0, slots := 0, locals := 0 } : Room) s m ([.ref b, .int x] : List Value).toArray below meth c D (va_A [] s.heap.size) 2 (pI (fun (r : Int32) (_ : Unit) => r = celV L xs x)) (fun _ => []) 0 0 0 0 [] [(0, .ref b), (1, .int x)] 0 [] from hh s.heap [] _ hP hD va_S.rf hl
  refine gw_iload_n (pc' := 1) κ dL_cell_0 rfl 1 rfl rfl ?_
  refine gw_aload_n (pc' := 2) κ dL_cell_1 rfl 0 rfl rfl ?_
  refine gw_slen (pc' := 3) κ dL_cell_2 rfl hX hbl hbA ?_
  refine gw_icmp_ge (pc' := 6) (tgt := 12) κ dL_cell_3 rfl (by decide) (fun hc => ?_) (fun hc => ?_)
  · have hn : ¬ x < nI L := fun h => by rw [Int32.lt_iff_toInt_lt] at h; rw [Int32.le_iff_toInt_le] at hc; omega
    refine gw_ldc (pc' := 14) κ dL_cell_12 rfl tw_ct_L_7 ?_
    refine gw_iload_n (pc' := 15) κ dL_cell_14 rfl 1 rfl rfl ?_
    refine gw_iconst (pc' := 16) (v := 5) κ dL_cell_15 rfl (by decide) ?_
    refine gw_iadd (pc' := 17) κ dL_cell_16 rfl ?_
    refine gw_imul (pc' := 18) κ dL_cell_17 rfl ?_
    refine gw_ldc (pc' := 20) κ dL_cell_18 rfl tw_ct_L_8 ?_
    refine gw_iadd (pc' := 21) κ dL_cell_20 rfl ?_
    exact gw_iret κ dL_cell_21 () rfl ⟨_, rfl, by unfold celV; rw [if_neg hn]⟩
  · have hlt : x < nI L := by rw [Int32.lt_iff_toInt_lt]; rw [Int32.le_iff_toInt_le] at hc; omega
    have hin : vp_in x L := by
      have h1 := Int32.lt_iff_toInt_lt.mp hlt
      rw [nI_toInt (by omega)] at h1
      rw [Int32.le_iff_toInt_le] at hx
      have h0 : (0 : Int32).toInt = 0 := by decide
      obtain ⟨j, hj, rfl⟩ := nI_of (x := x) (by rw [Int32.lt_iff_toInt_lt]; omega)
      rw [nI_toInt (by omega)] at h1
      exact vp_in_nI (by omega) (by omega)
    refine gw_aload_n (pc' := 7) κ dL_cell_6 rfl 0 rfl rfl ?_
    refine gw_iload_n (pc' := 8) κ dL_cell_7 rfl 1 rfl rfl ?_
    refine gw_xld (pc' := 9) κ dL_cell_8 rfl hX hbl hbA hin ?_
    refine gw_goto (tgt := 21) κ dL_cell_9 (by decide) ?_
    exact gw_iret κ dL_cell_21 () rfl ⟨_, rfl, by unfold celV; rw [if_pos hlt]⟩
theorem hy_L_cell : g_hy yL_cell 2 := by decide +kernel
theorem gw_cellcall {p : Program} {l : Launch} {e : Env} {R : Room} {s : State} {m : MethodId} {args : Array Value} {below : List Frame} {meth : Method} {c : Code} {D : va_G} {cI cR : ClassId} {A : Nat → Prop} {nL : Nat} {Q : State → Prop} {ce sl : Nat} {bs : List va_W} {lv : List (Nat × Value)} {pc pc' : Nat} {cc : ByteArray} {ret : Option FieldType} (κ : KC p s m args meth c cc nL RL D cI cR A ret) {b L : Nat} {xs : Nat → Int32} {x : Int32} {rest : List Value} {idx : Nat} (hd : decode cc pc = .ok (.invokestatic idx, 3)) (hp : pc + 3 = pc') (hX : va_X b L xs s s.heap) (hbl : b < s.heap.size) (hbA : ¬ A b) (hL : L ≤ 260) (hx : (0 : Int32) ≤ x)
    (hwl : Cond.methodLink RL idx yL_cell ∈ lw_good) (hrm : 1 ≤ R.frames ∧ 21 ≤ R.locals) (hW : (rest.map fun v => v.category).sum ≤ 8) (hcells : ce ≤ R.cells ∧ sl ≤ R.slots)
    (kk : GW p l e R s m args below meth c D A nL Q ce sl (wfl bs) lv pc' (.int (celV L xs x) :: rest)) : GW p l e R s m args below meth c D A nL Q ce sl (wfl bs) lv pc (.int x :: .ref b :: rest) := by
  subst hp
  have hts := κ.1.2.2.2.2
  refine gb_run κ (bc := []) (rest := rest) (aa := ([.ref b, .int x] : List Value).toArray) (post := pI (fun (r : Int32) (_ : Unit) => r = celV L xs x)) (Bb := fun _ => []) (mc := 0) (ms := 0) [] rfl (fun _ => Nat.le_refl _) (fun H locs ls hP hD hS hl => ?_) (fun v u hv => ?_)
  · exact va_runS (n := 2) (ret := some .int) κ.1 (c_L_cell hL hx H.size) ⟨callB_of 2 hts (g_good tw_co_L_cell) rfl rfl rfl (hts _ tw_in_L) (hts _ hwl) hy_L_cell ⟨hrm.1, hrm.2⟩, hts _ tw_st_L_cell⟩
      ⟨g_PX.blind, fun U hU hWm => ⟨gb_pre (bc := []) (av := [.ref b, .int x]) κ hP hD hS [] rfl (by decide) U hU hWm, (va_X.moved hWm.alike hX).kept (by rw [hU]; exact hS.2.1 b hbl hbA), by rw [hU]; exact Nat.lt_of_lt_of_le hbl hS.1, fun h => by
        rcases h with ⟨k, e, h⟩ | h
        · simp [wfl] at h
        · have := hS.1; omega⟩⟩ rfl rfl hl.1 rfl (lv_room hW) hd ⟨by omega, by omega⟩
  · obtain ⟨r, rfl, rfl⟩ := hv
    have e : wfl (g_repl bs [] []) = wfl bs := by simp [g_repl]
    rw [e]
    exact kk
end
section
/-! ===== what the cells hold: State, Plan, Way, Pad, History; the reference ===== -/

def StT : Type := (Nat → Int32) × (Nat → Int32) × (Nat → Int32) × (Nat → Int32) × (Nat → Int32) × (Nat → Int32) × (Nat → Int32) × (Nat → Int32) × (Nat → Int32) × Int32
def mkSt (se : Nat → Int32) (la : Nat → Int32) (de : Nat → Int32) (le : Nat → Int32) (sa : Nat → Int32) (fl : Nat → Int32) (ar : Nat → Int32) (dr : Nat → Int32) (pe : Nat → Int32) (ri : Int32) : StT := (se, la, de, le, sa, fl, ar, dr, pe, ri)
def StT.se (x : StT) : Nat → Int32 := x.1
def StT.la (x : StT) : Nat → Int32 := x.2.1
def StT.de (x : StT) : Nat → Int32 := x.2.2.1
def StT.le (x : StT) : Nat → Int32 := x.2.2.2.1
def StT.sa (x : StT) : Nat → Int32 := x.2.2.2.2.1
def StT.fl (x : StT) : Nat → Int32 := x.2.2.2.2.2.1
def StT.ar (x : StT) : Nat → Int32 := x.2.2.2.2.2.2.1
def StT.dr (x : StT) : Nat → Int32 := x.2.2.2.2.2.2.2.1
def StT.pe (x : StT) : Nat → Int32 := x.2.2.2.2.2.2.2.2.1
def StT.ri (x : StT) : Int32 := x.2.2.2.2.2.2.2.2.2
def PlT : Type := (Nat → Int32) × (Nat → Int32) × (Nat → Int32) × (Nat → Int32) × (Nat → Int32) × Int32 × Int32 × Int32
def mkPl (od : Nat → Int32) (rd : Nat → Int32) (vn : Nat → Int32) (pn : Nat → Int32) (ao : Nat → Int32) (sr : Int32) (sp : Int32) (wt : Int32) : PlT := (od, rd, vn, pn, ao, sr, sp, wt)
def PlT.od (x : PlT) : Nat → Int32 := x.1
def PlT.rd (x : PlT) : Nat → Int32 := x.2.1
def PlT.vn (x : PlT) : Nat → Int32 := x.2.2.1
def PlT.pn (x : PlT) : Nat → Int32 := x.2.2.2.1
def PlT.ao (x : PlT) : Nat → Int32 := x.2.2.2.2.1
def PlT.sr (x : PlT) : Int32 := x.2.2.2.2.2.1
def PlT.sp (x : PlT) : Int32 := x.2.2.2.2.2.2.1
def PlT.wt (x : PlT) : Int32 := x.2.2.2.2.2.2.2
def WyT : Type := (Nat → Int32) × (Nat → Int32) × (Nat → Int32) × Int32
def mkWy (ky : Nat → Int32) (wp : Nat → Int32) (mi : Nat → Int32) (so : Int32) : WyT := (ky, wp, mi, so)
def WyT.ky (x : WyT) : Nat → Int32 := x.1
def WyT.wp (x : WyT) : Nat → Int32 := x.2.1
def WyT.mi (x : WyT) : Nat → Int32 := x.2.2.1
def WyT.so (x : WyT) : Int32 := x.2.2.2
def PdT : Type := (Nat → Int32) × Int32
def mkPd (co : Nat → Int32) (ln : Int32) : PdT := (co, ln)
def PdT.co (x : PdT) : Nat → Int32 := x.1
def PdT.ln (x : PdT) : Int32 := x.2
def updS (f : Nat → StT) (k : Nat) (x : StT) : Nat → StT := fun j => if j = k then x else f j
def HiT : Type := (Nat → StT) × Int32 × Int32
def mkHi (hs : Nat → StT) (ol sz : Int32) : HiT := (hs, ol, sz)
def HiT.hs (x : HiT) : Nat → StT := x.1
def HiT.ol (x : HiT) : Int32 := x.2.1
def HiT.sz (x : HiT) : Int32 := x.2.2
def cA34 (q : Nat → Nat) (cI : ClassId) (f : Nat → Int32) : va_W := [(q 0, .inl (cI, 34, .inl f))]
def cA24 (q : Nat → Nat) (cI : ClassId) (f : Nat → Int32) : va_W := [(q 0, .inl (cI, 24, .inl f))]
def cA16 (q : Nat → Nat) (cI : ClassId) (f : Nat → Int32) : va_W := [(q 0, .inl (cI, 16, .inl f))]
def cSt (q : Nat → Nat) (cI : ClassId) (se : Nat → Int32) (la : Nat → Int32) (de : Nat → Int32) (le : Nat → Int32) (sa : Nat → Int32) (fl : Nat → Int32) (ar : Nat → Int32) (dr : Nat → Int32) (pe : Nat → Int32) (ri : Int32) : va_W := [(q 0, .inr (3, [.ref (q 1), .ref (q 2), .ref (q 3), .ref (q 4), .ref (q 5), .ref (q 6), .ref (q 7), .ref (q 8), .ref (q 9), .int ri])), (q 1, .inl (cI, 5, .inl se)), (q 2, .inl (cI, 6, .inl la)), (q 3, .inl (cI, 6, .inl de)), (q 4, .inl (cI, 8, .inl le)), (q 5, .inl (cI, 8, .inl sa)), (q 6, .inl (cI, 24, .inl fl)), (q 7, .inl (cI, 24, .inl ar)), (q 8, .inl (cI, 24, .inl dr)), (q 9, .inl (cI, 24, .inl pe))]
def cPl (q : Nat → Nat) (cI : ClassId) (od : Nat → Int32) (rd : Nat → Int32) (vn : Nat → Int32) (pn : Nat → Int32) (ao : Nat → Int32) (sr : Int32) (sp : Int32) (wt : Int32) : va_W := [(q 0, .inr (2, [.ref (q 1), .ref (q 2), .ref (q 3), .ref (q 4), .ref (q 5), .int sr, .int sp, .int wt])), (q 1, .inl (cI, 24, .inl od)), (q 2, .inl (cI, 24, .inl rd)), (q 3, .inl (cI, 24, .inl vn)), (q 4, .inl (cI, 8, .inl pn)), (q 5, .inl (cI, 8, .inl ao))]
def cWy (q : Nat → Nat) (cI : ClassId) (ky : Nat → Int32) (wp : Nat → Int32) (mi : Nat → Int32) (so : Int32) : va_W := [(q 0, .inr (4, [.ref (q 1), .ref (q 2), .ref (q 3), .int so])), (q 1, .inl (cI, 24, .inl ky)), (q 2, .inl (cI, 24, .inl wp)), (q 3, .inl (cI, 24, .inl mi))]
def cPd (q : Nat → Nat) (cI : ClassId) (co : Nat → Int32) (ln : Int32) : va_W := [(q 0, .inr (1, [.ref (q 1), .int ln])), (q 1, .inl (cI, 60, .inl co))]
def cHi (qa : Nat → Nat) (qas : Nat → Nat → Nat) (cR : ClassId) (ol sz : Int32) : va_W := [(qa 0, .inr (0, [.ref (qa 1), .int ol, .int sz])), (qa 1, .inl (cR, 6, .inr (.inr (.inr (.inr (fun j => some (qas j 0))))))) ]
def cX (qx qn qp qw qt qu qd qh ql : Nat → Nat) : va_W := [(qx 0, .inr (5, [.ref (qn 0), .ref (qp 0), .ref (qw 0), .ref (qt 0), .ref (qu 0), .ref (qd 0), .ref (qh 0), .ref (ql 0)]))]
def wp_X5_isIn (P : Int32 → Prop) (x0 : Int32) (x1 : Int32) (x2 : Int32) : Prop :=
  ((x0 < x1) →
    P (0 : Int32)) ∧
  ((¬ x0 < x1) →
    ((x2 < x0) →
      P (0 : Int32)) ∧
    ((¬ x2 < x0) →
      P (1 : Int32)))
def wp_X3_copyFrom (P : (Nat → Int32) → (Nat → Int32) → (Nat → Int32) → (Nat → Int32) → (Nat → Int32) → (Nat → Int32) → (Nat → Int32) → (Nat → Int32) → (Nat → Int32) → Int32 → Prop) (o0 : StT) (o1 : StT) : Prop :=
  P o1.se o1.la o1.de o1.le o1.sa o1.fl o1.ar o1.dr o1.pe o1.ri
def wp_X0_record_32 (P : (Nat → StT) → Int32 → Int32 → Prop) (o0 : HiT) (o1 : StT) (hs : Nat → StT) (ol : Int32) (sz : Int32) : Prop :=
  vp_in ((ol + sz) - (ol + sz) / (6 : Int32) * (6 : Int32)) 6 ∧
  ∀ j_4 : Nat, j_4 < 6 → ((ol + sz) - (ol + sz) / (6 : Int32) * (6 : Int32)) = nI j_4 →
  wp_X3_copyFrom (fun se_25 la_26 de_27 le_28 sa_29 fl_30 ar_31 dr_32 pe_33 ri_34 =>
    P (updS hs j_4 (mkSt se_25 la_26 de_27 le_28 sa_29 fl_30 ar_31 dr_32 pe_33 ri_34)) ol (sz + (1 : Int32))) (hs j_4) o1
def wp_X0_record (P : (Nat → StT) → Int32 → Int32 → Prop) (o0 : HiT) (o1 : StT) : Prop :=
  ((o0.sz < (6 : Int32)) →
    wp_X0_record_32 P o0 o1 o0.hs o0.ol o0.sz) ∧
  ((¬ o0.sz < (6 : Int32)) →
    wp_X0_record_32 P o0 o1 o0.hs ((o0.ol + (1 : Int32)) - (o0.ol + (1 : Int32)) / (6 : Int32) * (6 : Int32)) (o0.sz - (1 : Int32)))
def wp_X3_flightReady (P : Int32 → Prop) (o0 : StT) (x1 : Int32) : Prop :=
  vp_in x1 6 ∧
  vp_in x1 6 ∧
  P (((o0.la x1.toNatClampNeg) + (o0.de x1.toNatClampNeg)) + (o0.se (0 : Int32).toNatClampNeg))
def wp_X3_riderReady (P : Int32 → Prop) (o0 : StT) (x1 : Int32) : Prop :=
  vp_in x1 24 ∧
  wp_X3_flightReady (fun r_2 =>
    P r_2) o0 (o0.fl x1.toNatClampNeg)
def wp_X2_lineUp_69 (P : (Nat → Int32) → (Nat → Int32) → Prop) (o0 : PlT) (o1 : StT) (r2 : Int32 → (Nat → Int32) → (Nat → Int32) → Prop) (v2 : Int32) (v3 : Int32) (od : Nat → Int32) (rd : Nat → Int32) : Prop :=
  vp_in v3 24 ∧
  r2 (v2 + 1) (upd od v3.toNatClampNeg v2) rd
def wp_X2_lineUp_23F (P : (Nat → Int32) → (Nat → Int32) → Prop) (o0 : PlT) (o1 : StT) (r2 : Int32 → (Nat → Int32) → (Nat → Int32) → Prop) (v2 : Int32) (rd : Nat → Int32) (r23 : Int32 → (Nat → Int32) → Prop) (v3 : Int32) (od : Nat → Int32) : Prop :=
  ((v3 ≤ 0) →
    wp_X2_lineUp_69 P o0 o1 r2 v2 v3 od rd) ∧
  ((¬ v3 ≤ 0) →
    vp_in (v3 - (1 : Int32)) 24 ∧
    vp_in (od (v3 - (1 : Int32)).toNatClampNeg) 24 ∧
    vp_in v2 24 ∧
    (((rd (od (v3 - (1 : Int32)).toNatClampNeg).toNatClampNeg) ≤ (rd v2.toNatClampNeg)) →
      wp_X2_lineUp_69 P o0 o1 r2 v2 v3 od rd) ∧
    ((¬ (rd (od (v3 - (1 : Int32)).toNatClampNeg).toNatClampNeg) ≤ (rd v2.toNatClampNeg)) →
      vp_in (v3 - (1 : Int32)) 24 ∧
      vp_in v3 24 ∧
      r23 (v3 + (-1)) (upd od v3.toNatClampNeg (od (v3 - (1 : Int32)).toNatClampNeg))))
def wp_X2_lineUp_23 (P : (Nat → Int32) → (Nat → Int32) → Prop) (o0 : PlT) (o1 : StT) (r2 : Int32 → (Nat → Int32) → (Nat → Int32) → Prop) (v2 : Int32) (rd : Nat → Int32) : Nat → Int32 → (Nat → Int32) → Prop
  | 0 => fun _ _ => False
  | n + 1 => wp_X2_lineUp_23F P o0 o1 r2 v2 rd (wp_X2_lineUp_23 P o0 o1 r2 v2 rd n)
def wp_X2_lineUp_2F (P : (Nat → Int32) → (Nat → Int32) → Prop) (o0 : PlT) (o1 : StT) (r2 : Int32 → (Nat → Int32) → (Nat → Int32) → Prop) (v2 : Int32) (od : Nat → Int32) (rd : Nat → Int32) : Prop :=
  ((o1.ri ≤ v2) →
    P od rd) ∧
  ((¬ o1.ri ≤ v2) →
    wp_X3_riderReady (fun r_2 =>
      vp_in v2 24 ∧
      ∃ n : Nat, wp_X2_lineUp_23 P o0 o1 r2 v2 (upd rd v2.toNatClampNeg r_2) n v2 od) o1 v2)
def wp_X2_lineUp_2 (P : (Nat → Int32) → (Nat → Int32) → Prop) (o0 : PlT) (o1 : StT) : Nat → Int32 → (Nat → Int32) → (Nat → Int32) → Prop
  | 0 => fun _ _ _ => False
  | n + 1 => wp_X2_lineUp_2F P o0 o1 (wp_X2_lineUp_2 P o0 o1 n)
def wp_X2_lineUp (P : (Nat → Int32) → (Nat → Int32) → Prop) (o0 : PlT) (o1 : StT) : Prop :=
  ∃ n : Nat, wp_X2_lineUp_2 P o0 o1 n (0 : Int32) o0.od o0.rd
def wp_J6_bitCount_0f7a4 (P : Int32 → Prop) (x0 : Int32) : Prop :=
  ∀ y_1 : Int32, y_1 = (x0 - (((x0).toUInt32 >>> (((1 : Int32)).toUInt32 &&& Int32.toUInt32 31)).toInt32 &&& (1431655765 : Int32))) →
  ∀ y_2 : Int32, y_2 = ((y_1 &&& (858993459 : Int32)) + (((y_1).toUInt32 >>> (((2 : Int32)).toUInt32 &&& Int32.toUInt32 31)).toInt32 &&& (858993459 : Int32))) →
  ∀ y_3 : Int32, y_3 = ((y_2 + ((y_2).toUInt32 >>> (((4 : Int32)).toUInt32 &&& Int32.toUInt32 31)).toInt32) &&& (252645135 : Int32)) →
  ∀ y_4 : Int32, y_4 = (y_3 + ((y_3).toUInt32 >>> (((8 : Int32)).toUInt32 &&& Int32.toUInt32 31)).toInt32) →
  ∀ y_5 : Int32, y_5 = (y_4 + ((y_4).toUInt32 >>> (((16 : Int32)).toUInt32 &&& Int32.toUInt32 31)).toInt32) →
  P (y_5 &&& (63 : Int32))
def wp_X2_takes (P : Int32 → Prop) (o0 : PlT) (o1 : StT) (x2 : Int32) (x3 : Int32) : Prop :=
  vp_in x2 8 ∧
  vp_in x3 24 ∧
  ∀ y_3 : Int32, y_3 = ((o1.le x2.toNatClampNeg) - (o0.rd x3.toNatClampNeg)) →
  wp_X5_isIn (fun r_5 =>
    ((¬ r_5 = 0) →
      vp_in x2 8 ∧
      vp_in x3 24 ∧
      vp_in x2 8 ∧
      ((((o0.pn x2.toNatClampNeg) + (o1.pe x3.toNatClampNeg)) ≤ (o1.sa x2.toNatClampNeg)) →
        vp_in x2 8 ∧
        vp_in x3 24 ∧
        ∀ y_13 : Int32, y_13 = ((o0.ao x2.toNatClampNeg) ||| ((1 : Int32) <<< ((o1.ar x3.toNatClampNeg) &&& 31))) →
        wp_J6_bitCount_0f7a4 (fun r_14 =>
          (((o1.se (2 : Int32).toNatClampNeg) < r_14) →
            P (0 : Int32)) ∧
          ((¬ (o1.se (2 : Int32).toNatClampNeg) < r_14) →
            P (1 : Int32))) y_13) ∧
      ((¬ ((o0.pn x2.toNatClampNeg) + (o1.pe x3.toNatClampNeg)) ≤ (o1.sa x2.toNatClampNeg)) →
        P (0 : Int32))) ∧
    ((r_5 = 0) →
      P (0 : Int32))) y_3 (0 : Int32) (o1.se (1 : Int32).toNatClampNeg)
def wp_X2_firstVanFor_39 (P : Int32 → Prop) (o0 : PlT) (o1 : StT) (x2 : Int32) (r9 : Int32 → Int32 → Int32 → Prop) (v3 : Int32) (v4 : Int32) (v5 : Int32) (w0 : Int32) : Prop :=
  ((w0 = 0) →
    r9 v3 v4 (v5 + 1)) ∧
  ((¬ w0 = 0) →
    wp_X2_takes (fun r_6 =>
      ((r_6 = 0) →
        r9 v3 v4 (v5 + 1)) ∧
      ((¬ r_6 = 0) →
        vp_in v5 8 ∧
        r9 v5 (o1.le v5.toNatClampNeg) (v5 + 1))) o0 o1 v5 x2)
def wp_X2_firstVanFor_9F (P : Int32 → Prop) (o0 : PlT) (o1 : StT) (x2 : Int32) (r9 : Int32 → Int32 → Int32 → Prop) (v3 : Int32) (v4 : Int32) (v5 : Int32) : Prop :=
  (((8 : Int32) ≤ v5) →
    P v3) ∧
  ((¬ (8 : Int32) ≤ v5) →
    ((v3 = (-106 : Int32)) →
      wp_X2_firstVanFor_39 P o0 o1 x2 r9 v3 v4 v5 (1 : Int32)) ∧
    ((¬ v3 = (-106 : Int32)) →
      vp_in v5 8 ∧
      ((v4 ≤ (o1.le v5.toNatClampNeg)) →
        wp_X2_firstVanFor_39 P o0 o1 x2 r9 v3 v4 v5 (0 : Int32)) ∧
      ((¬ v4 ≤ (o1.le v5.toNatClampNeg)) →
        wp_X2_firstVanFor_39 P o0 o1 x2 r9 v3 v4 v5 (1 : Int32))))
def wp_X2_firstVanFor_9 (P : Int32 → Prop) (o0 : PlT) (o1 : StT) (x2 : Int32) : Nat → Int32 → Int32 → Int32 → Prop
  | 0 => fun _ _ _ => False
  | n + 1 => wp_X2_firstVanFor_9F P o0 o1 x2 (wp_X2_firstVanFor_9 P o0 o1 x2 n)
def wp_X2_firstVanFor (P : Int32 → Prop) (o0 : PlT) (o1 : StT) (x2 : Int32) : Prop :=
  ∃ n : Nat, wp_X2_firstVanFor_9 P o0 o1 x2 n (-106 : Int32) (0 : Int32) (0 : Int32)
def wp_X5_isVan (P : Int32 → Prop) (x0 : Int32) : Prop :=
  wp_X5_isIn (fun r_1 =>
    g_b r_1 ∧ P r_1) x0 (0 : Int32) (7 : Int32)
def wp_X2_boardOne (P : (Nat → Int32) → (Nat → Int32) → (Nat → Int32) → Int32 → Int32 → Int32 → Prop) (o0 : PlT) (o1 : StT) (x2 : Int32) : Prop :=
  vp_in x2 24 ∧
  wp_X2_firstVanFor (fun r_2 =>
    vp_in x2 24 ∧
    wp_X5_isVan (fun r_4 =>
      ((¬ r_4 = 0) →
        vp_in r_2 8 ∧
        vp_in r_2 8 ∧
        vp_in r_2 8 ∧
        vp_in x2 24 ∧
        vp_in r_2 8 ∧
        vp_in r_2 8 ∧
        vp_in x2 24 ∧
        P (upd o0.vn x2.toNatClampNeg r_2) (upd o0.pn r_2.toNatClampNeg ((o0.pn r_2.toNatClampNeg) + (o1.pe x2.toNatClampNeg))) (upd o0.ao r_2.toNatClampNeg ((o0.ao r_2.toNatClampNeg) ||| ((1 : Int32) <<< ((o1.ar x2.toNatClampNeg) &&& 31)))) o0.sr o0.sp (o0.wt + ((o1.pe x2.toNatClampNeg) * ((o1.le r_2.toNatClampNeg) - (o0.rd x2.toNatClampNeg))))) ∧
      ((r_4 = 0) →
        P (upd o0.vn x2.toNatClampNeg r_2) o0.pn o0.ao (o0.sr + (1 : Int32)) (o0.sp + (o1.pe x2.toNatClampNeg)) o0.wt)) r_2) o0 o1 x2
def wp_X2_board_45F (P : (Nat → Int32) → (Nat → Int32) → (Nat → Int32) → Int32 → Int32 → Int32 → Prop) (o0 : PlT) (o1 : StT) (r45 : Int32 → (Nat → Int32) → (Nat → Int32) → (Nat → Int32) → Int32 → Int32 → Int32 → Prop) (v2 : Int32) (vn : Nat → Int32) (pn : Nat → Int32) (ao : Nat → Int32) (sr : Int32) (sp : Int32) (wt : Int32) : Prop :=
  ((o1.ri ≤ v2) →
    P vn pn ao sr sp wt) ∧
  ((¬ o1.ri ≤ v2) →
    vp_in v2 24 ∧
    wp_X2_boardOne (fun vn_6 pn_7 ao_8 sr_9 sp_10 wt_11 =>
      r45 (v2 + 1) vn_6 pn_7 ao_8 sr_9 sp_10 wt_11) (mkPl o0.od o0.rd vn pn ao sr sp wt) o1 (o0.od v2.toNatClampNeg))
def wp_X2_board_45 (P : (Nat → Int32) → (Nat → Int32) → (Nat → Int32) → Int32 → Int32 → Int32 → Prop) (o0 : PlT) (o1 : StT) : Nat → Int32 → (Nat → Int32) → (Nat → Int32) → (Nat → Int32) → Int32 → Int32 → Int32 → Prop
  | 0 => fun _ _ _ _ _ _ _ => False
  | n + 1 => wp_X2_board_45F P o0 o1 (wp_X2_board_45 P o0 o1 n)
def wp_X2_board_2F (P : (Nat → Int32) → (Nat → Int32) → (Nat → Int32) → Int32 → Int32 → Int32 → Prop) (o0 : PlT) (o1 : StT) (vn : Nat → Int32) (sr : Int32) (sp : Int32) (wt : Int32) (r2 : Int32 → (Nat → Int32) → (Nat → Int32) → Prop) (v2 : Int32) (pn : Nat → Int32) (ao : Nat → Int32) : Prop :=
  (((8 : Int32) ≤ v2) →
    ∃ n : Nat, wp_X2_board_45 P o0 o1 n (0 : Int32) vn pn ao (0 : Int32) (0 : Int32) (0 : Int32)) ∧
  ((¬ (8 : Int32) ≤ v2) →
    vp_in v2 8 ∧
    vp_in v2 8 ∧
    r2 (v2 + 1) (upd pn v2.toNatClampNeg (0 : Int32)) (upd ao v2.toNatClampNeg (0 : Int32)))
def wp_X2_board_2 (P : (Nat → Int32) → (Nat → Int32) → (Nat → Int32) → Int32 → Int32 → Int32 → Prop) (o0 : PlT) (o1 : StT) (vn : Nat → Int32) (sr : Int32) (sp : Int32) (wt : Int32) : Nat → Int32 → (Nat → Int32) → (Nat → Int32) → Prop
  | 0 => fun _ _ _ => False
  | n + 1 => wp_X2_board_2F P o0 o1 vn sr sp wt (wp_X2_board_2 P o0 o1 vn sr sp wt n)
def wp_X2_board (P : (Nat → Int32) → (Nat → Int32) → (Nat → Int32) → Int32 → Int32 → Int32 → Prop) (o0 : PlT) (o1 : StT) : Prop :=
  ∃ n : Nat, wp_X2_board_2 P o0 o1 o0.vn o0.sr o0.sp o0.wt n (0 : Int32) o0.pn o0.ao
def wp_X2_make (P : (Nat → Int32) → (Nat → Int32) → (Nat → Int32) → (Nat → Int32) → (Nat → Int32) → Int32 → Int32 → Int32 → Prop) (o0 : PlT) (o1 : StT) : Prop :=
  wp_X2_lineUp (fun od_1 rd_2 =>
    wp_X2_board (fun vn_3 pn_4 ao_5 sr_6 sp_7 wt_8 =>
      P od_1 rd_2 vn_3 pn_4 ao_5 sr_6 sp_7 wt_8) (mkPl od_1 rd_2 o0.vn o0.pn o0.ao o0.sr o0.sp o0.wt) o1) o0 o1
def wp_X5_set (P : Int32 → (Nat → Int32) → (Nat → Int32) → (Nat → Int32) → (Nat → Int32) → (Nat → Int32) → (Nat → Int32) → Int32 → Int32 → Int32 → (Nat → StT) → Int32 → Int32 → Prop) (now : StT) (pln : PlT) (his : HiT) (x1 : Int32) (x2 : Int32) : Prop :=
  wp_X5_isIn (fun r_1 =>
    ((¬ r_1 = 0) →
      vp_in x1 5 ∧
      vp_in x1 5 ∧
      wp_X5_isIn (fun r_9 =>
        ((¬ r_9 = 0) →
          vp_in x1 5 ∧
          wp_X0_record (fun hs_12 ol_13 sz_14 =>
            vp_in x1 5 ∧
            wp_X2_make (fun od_16 rd_17 vn_18 pn_19 ao_20 sr_21 sp_22 wt_23 =>
              P (now.se x1.toNatClampNeg) (upd now.se x1.toNatClampNeg x2) od_16 rd_17 vn_18 pn_19 ao_20 sr_21 sp_22 wt_23 hs_12 ol_13 sz_14) pln (mkSt (upd now.se x1.toNatClampNeg x2) now.la now.de now.le now.sa now.fl now.ar now.dr now.pe now.ri)) his now) ∧
        ((r_9 = 0) →
          P (-102 : Int32) now.se pln.od pln.rd pln.vn pln.pn pln.ao pln.sr pln.sp pln.wt his.hs his.ol his.sz)) x2 (g_least x1.toNatClampNeg) (g_most x1.toNatClampNeg)) ∧
    ((r_1 = 0) →
      P (-102 : Int32) now.se pln.od pln.rd pln.vn pln.pn pln.ao pln.sr pln.sp pln.wt his.hs his.ol his.sz)) x1 (0 : Int32) (4 : Int32)
def wp_X5_isFlight (P : Int32 → Prop) (x0 : Int32) : Prop :=
  wp_X5_isIn (fun r_1 =>
    g_b r_1 ∧ P r_1) x0 (0 : Int32) (5 : Int32)
def wp_X5_land (P : Int32 → (Nat → Int32) → (Nat → Int32) → (Nat → Int32) → (Nat → Int32) → (Nat → Int32) → (Nat → Int32) → Int32 → Int32 → Int32 → (Nat → StT) → Int32 → Int32 → Prop) (now : StT) (pln : PlT) (his : HiT) (x1 : Int32) (x2 : Int32) : Prop :=
  wp_X5_isFlight (fun r_1 =>
    ((¬ r_1 = 0) →
      wp_X5_isIn (fun r_3 =>
        ((¬ r_3 = 0) →
          vp_in x1 6 ∧
          wp_X0_record (fun hs_6 ol_7 sz_8 =>
            vp_in x1 6 ∧
            wp_X2_make (fun od_10 rd_11 vn_12 pn_13 ao_14 sr_15 sp_16 wt_17 =>
              P (now.la x1.toNatClampNeg) (upd now.la x1.toNatClampNeg x2) od_10 rd_11 vn_12 pn_13 ao_14 sr_15 sp_16 wt_17 hs_6 ol_7 sz_8) pln (mkSt now.se (upd now.la x1.toNatClampNeg x2) now.de now.le now.sa now.fl now.ar now.dr now.pe now.ri)) his now) ∧
        ((r_3 = 0) →
          P (-102 : Int32) now.la pln.od pln.rd pln.vn pln.pn pln.ao pln.sr pln.sp pln.wt his.hs his.ol his.sz)) x2 (0 : Int32) (1200 : Int32)) ∧
    ((r_1 = 0) →
      P (-101 : Int32) now.la pln.od pln.rd pln.vn pln.pn pln.ao pln.sr pln.sp pln.wt his.hs his.ol his.sz)) x1
def wp_X5_isDelay (P : Int32 → Prop) (x0 : Int32) : Prop :=
  wp_X5_isIn (fun r_1 =>
    g_b r_1 ∧ P r_1) x0 (-30 : Int32) (300 : Int32)
def wp_X5_delay (P : Int32 → (Nat → Int32) → (Nat → Int32) → (Nat → Int32) → (Nat → Int32) → (Nat → Int32) → (Nat → Int32) → Int32 → Int32 → Int32 → (Nat → StT) → Int32 → Int32 → Prop) (now : StT) (pln : PlT) (his : HiT) (x1 : Int32) (x2 : Int32) : Prop :=
  wp_X5_isFlight (fun r_1 =>
    ((¬ r_1 = 0) →
      wp_X5_isDelay (fun r_3 =>
        ((¬ r_3 = 0) →
          wp_X0_record (fun hs_5 ol_6 sz_7 =>
            vp_in x1 6 ∧
            wp_X2_make (fun od_9 rd_10 vn_11 pn_12 ao_13 sr_14 sp_15 wt_16 =>
              wp_X3_flightReady (fun r_17 =>
                P r_17 (upd now.de x1.toNatClampNeg x2) od_9 rd_10 vn_11 pn_12 ao_13 sr_14 sp_15 wt_16 hs_5 ol_6 sz_7) (mkSt now.se now.la (upd now.de x1.toNatClampNeg x2) now.le now.sa now.fl now.ar now.dr now.pe now.ri) x1) pln (mkSt now.se now.la (upd now.de x1.toNatClampNeg x2) now.le now.sa now.fl now.ar now.dr now.pe now.ri)) his now) ∧
        ((r_3 = 0) →
          P (-102 : Int32) now.de pln.od pln.rd pln.vn pln.pn pln.ao pln.sr pln.sp pln.wt his.hs his.ol his.sz)) x2) ∧
    ((r_1 = 0) →
      P (-101 : Int32) now.de pln.od pln.rd pln.vn pln.pn pln.ao pln.sr pln.sp pln.wt his.hs his.ol his.sz)) x1
def wp_X5_van (P : Int32 → (Nat → Int32) → (Nat → Int32) → (Nat → Int32) → (Nat → Int32) → (Nat → Int32) → (Nat → Int32) → (Nat → Int32) → Int32 → Int32 → Int32 → (Nat → StT) → Int32 → Int32 → Prop) (now : StT) (pln : PlT) (his : HiT) (x1 : Int32) (x2 : Int32) (x3 : Int32) : Prop :=
  wp_X5_isVan (fun r_1 =>
    ((¬ r_1 = 0) →
      wp_X5_isIn (fun r_3 =>
        ((r_3 = 0) →
          P (-102 : Int32) now.le now.sa pln.od pln.rd pln.vn pln.pn pln.ao pln.sr pln.sp pln.wt his.hs his.ol his.sz) ∧
        ((¬ r_3 = 0) →
          wp_X5_isIn (fun r_5 =>
            ((¬ r_5 = 0) →
              wp_X0_record (fun hs_7 ol_8 sz_9 =>
                vp_in x1 8 ∧
                vp_in x1 8 ∧
                wp_X2_make (fun od_12 rd_13 vn_14 pn_15 ao_16 sr_17 sp_18 wt_19 =>
                  P sp_18 (upd now.le x1.toNatClampNeg x2) (upd now.sa x1.toNatClampNeg x3) od_12 rd_13 vn_14 pn_15 ao_16 sr_17 sp_18 wt_19 hs_7 ol_8 sz_9) pln (mkSt now.se now.la now.de (upd now.le x1.toNatClampNeg x2) (upd now.sa x1.toNatClampNeg x3) now.fl now.ar now.dr now.pe now.ri)) his now) ∧
            ((r_5 = 0) →
              P (-102 : Int32) now.le now.sa pln.od pln.rd pln.vn pln.pn pln.ao pln.sr pln.sp pln.wt his.hs his.ol his.sz)) x3 (0 : Int32) (12 : Int32))) x2 (0 : Int32) (1500 : Int32)) ∧
    ((r_1 = 0) →
      P (-101 : Int32) now.le now.sa pln.od pln.rd pln.vn pln.pn pln.ao pln.sr pln.sp pln.wt his.hs his.ol his.sz)) x1
def wp_X3_addRider (P : (Nat → Int32) → (Nat → Int32) → (Nat → Int32) → (Nat → Int32) → Int32 → Prop) (o0 : StT) (x1 : Int32) (x2 : Int32) (x3 : Int32) (x4 : Int32) : Prop :=
  ((o0.ri < (24 : Int32)) →
    vp_in o0.ri 24 ∧
    vp_in o0.ri 24 ∧
    vp_in o0.ri 24 ∧
    vp_in o0.ri 24 ∧
    P (upd o0.fl o0.ri.toNatClampNeg x1) (upd o0.ar o0.ri.toNatClampNeg x2) (upd o0.dr o0.ri.toNatClampNeg x3) (upd o0.pe o0.ri.toNatClampNeg x4) (o0.ri + (1 : Int32))) ∧
  ((¬ o0.ri < (24 : Int32)) →
    P o0.fl o0.ar o0.dr o0.pe o0.ri)
def wp_X5_ride (P : Int32 → (Nat → Int32) → (Nat → Int32) → (Nat → Int32) → (Nat → Int32) → Int32 → (Nat → Int32) → (Nat → Int32) → (Nat → Int32) → (Nat → Int32) → (Nat → Int32) → Int32 → Int32 → Int32 → (Nat → StT) → Int32 → Int32 → Prop) (now : StT) (pln : PlT) (his : HiT) (x1 : Int32) (x2 : Int32) (x3 : Int32) (x4 : Int32) : Prop :=
  wp_X5_isFlight (fun r_1 =>
    ((r_1 = 0) →
      P (-101 : Int32) now.fl now.ar now.dr now.pe now.ri pln.od pln.rd pln.vn pln.pn pln.ao pln.sr pln.sp pln.wt his.hs his.ol his.sz) ∧
    ((¬ r_1 = 0) →
      wp_X5_isIn (fun r_3 =>
        ((¬ r_3 = 0) →
          wp_X5_isIn (fun r_5 =>
            ((r_5 = 0) →
              P (-102 : Int32) now.fl now.ar now.dr now.pe now.ri pln.od pln.rd pln.vn pln.pn pln.ao pln.sr pln.sp pln.wt his.hs his.ol his.sz) ∧
            ((¬ r_5 = 0) →
              wp_X5_isIn (fun r_7 =>
                ((¬ r_7 = 0) →
                  ((now.ri < (24 : Int32)) →
                    wp_X0_record (fun hs_10 ol_11 sz_12 =>
                      wp_X3_addRider (fun fl_13 ar_14 dr_15 pe_16 ri_17 =>
                        wp_X2_make (fun od_18 rd_19 vn_20 pn_21 ao_22 sr_23 sp_24 wt_25 =>
                          P (ri_17 - (1 : Int32)) fl_13 ar_14 dr_15 pe_16 ri_17 od_18 rd_19 vn_20 pn_21 ao_22 sr_23 sp_24 wt_25 hs_10 ol_11 sz_12) pln (mkSt now.se now.la now.de now.le now.sa fl_13 ar_14 dr_15 pe_16 ri_17)) now x1 x2 x3 x4) his now) ∧
                  ((¬ now.ri < (24 : Int32)) →
                    P (-104 : Int32) now.fl now.ar now.dr now.pe now.ri pln.od pln.rd pln.vn pln.pn pln.ao pln.sr pln.sp pln.wt his.hs his.ol his.sz)) ∧
                ((r_7 = 0) →
                  P (-102 : Int32) now.fl now.ar now.dr now.pe now.ri pln.od pln.rd pln.vn pln.pn pln.ao pln.sr pln.sp pln.wt his.hs his.ol his.sz)) x4 (1 : Int32) (4 : Int32))) x3 (0 : Int32) (99 : Int32)) ∧
        ((r_3 = 0) →
          P (-101 : Int32) now.fl now.ar now.dr now.pe now.ri pln.od pln.rd pln.vn pln.pn pln.ao pln.sr pln.sp pln.wt his.hs his.ol his.sz)) x2 (0 : Int32) (5 : Int32))) x1
def wp_X5_isRider (P : Int32 → Prop) (now : StT) (x1 : Int32) : Prop :=
  wp_X5_isIn (fun r_1 =>
    g_b r_1 ∧ P r_1) x1 (0 : Int32) (now.ri - (1 : Int32))
def wp_X3_stopKey (P : Int32 → Prop) (o0 : StT) (x1 : Int32) : Prop :=
  vp_in x1 24 ∧
  vp_in x1 24 ∧
  P (((o0.ar x1.toNatClampNeg) * (100 : Int32)) + (o0.dr x1.toNatClampNeg))
def wp_X2_shares (P : Int32 → Prop) (o0 : PlT) (o1 : StT) (x2 : Int32) (x3 : Int32) (x4 : Int32) : Prop :=
  vp_in x2 24 ∧
  vp_in x3 24 ∧
  ((¬ (o0.vn x2.toNatClampNeg) = (o0.vn x3.toNatClampNeg)) →
    P (0 : Int32)) ∧
  (((o0.vn x2.toNatClampNeg) = (o0.vn x3.toNatClampNeg)) →
    ((x4 = 0) →
      P (1 : Int32)) ∧
    ((¬ x4 = 0) →
      wp_X3_stopKey (fun r_5 =>
        wp_X3_stopKey (fun r_6 =>
          ((¬ r_5 = r_6) →
            P (0 : Int32)) ∧
          ((r_5 = r_6) →
            P (1 : Int32))) o1 x3) o1 x2))
def wp_X2_share_71F (P : Int32 → Prop) (o0 : PlT) (o1 : StT) (x2 : Int32) (x3 : Int32) (x4 : Int32) (v5 : Int32) (v6 : Int32) (r71 : Int32 → Int32 → Int32 → Prop) (v7 : Int32) (v8 : Int32) (v9 : Int32) : Prop :=
  ((o1.ri ≤ v9) →
    vp_in x2 24 ∧
    ¬ v6 = 0 ∧
    ((v7 ≤ v8) →
      P ((v5 * (o1.pe x2.toNatClampNeg)) / v6)) ∧
    ((¬ v7 ≤ v8) →
      P (((v5 * (o1.pe x2.toNatClampNeg)) / v6) + (1 : Int32)))) ∧
  ((¬ o1.ri ≤ v9) →
    wp_X2_shares (fun r_11 =>
      ((r_11 = 0) →
        r71 v7 v8 (v9 + 1)) ∧
      ((¬ r_11 = 0) →
        vp_in v9 24 ∧
        ¬ v6 = 0 ∧
        ((x2 ≤ v9) →
          r71 (v7 - ((v5 * (o1.pe v9.toNatClampNeg)) / v6)) (v8 + (0 : Int32)) (v9 + 1)) ∧
        ((¬ x2 ≤ v9) →
          r71 (v7 - ((v5 * (o1.pe v9.toNatClampNeg)) / v6)) (v8 + (1 : Int32)) (v9 + 1)))) o0 o1 x2 v9 x4)
def wp_X2_share_71 (P : Int32 → Prop) (o0 : PlT) (o1 : StT) (x2 : Int32) (x3 : Int32) (x4 : Int32) (v5 : Int32) (v6 : Int32) : Nat → Int32 → Int32 → Int32 → Prop
  | 0 => fun _ _ _ => False
  | n + 1 => wp_X2_share_71F P o0 o1 x2 x3 x4 v5 v6 (wp_X2_share_71 P o0 o1 x2 x3 x4 v5 v6 n)
def wp_X2_share_14F (P : Int32 → Prop) (o0 : PlT) (o1 : StT) (x2 : Int32) (x3 : Int32) (x4 : Int32) (v5 : Int32) (r14 : Int32 → Int32 → Prop) (v6 : Int32) (v7 : Int32) : Prop :=
  ((o1.ri ≤ v7) →
    ((0 < v6) →
      ∃ n : Nat, wp_X2_share_71 P o0 o1 x2 x3 x4 v5 v6 n v5 (0 : Int32) (0 : Int32)) ∧
    ((¬ 0 < v6) →
      P (0 : Int32))) ∧
  ((¬ o1.ri ≤ v7) →
    wp_X2_shares (fun r_4 =>
      ((r_4 = 0) →
        r14 v6 (v7 + 1)) ∧
      ((¬ r_4 = 0) →
        vp_in v7 24 ∧
        r14 (v6 + (o1.pe v7.toNatClampNeg)) (v7 + 1))) o0 o1 x2 v7 x4)
def wp_X2_share_14 (P : Int32 → Prop) (o0 : PlT) (o1 : StT) (x2 : Int32) (x3 : Int32) (x4 : Int32) (v5 : Int32) : Nat → Int32 → Int32 → Prop
  | 0 => fun _ _ => False
  | n + 1 => wp_X2_share_14F P o0 o1 x2 x3 x4 v5 (wp_X2_share_14 P o0 o1 x2 x3 x4 v5 n)
def wp_X2_share (P : Int32 → Prop) (o0 : PlT) (o1 : StT) (x2 : Int32) (x3 : Int32) (x4 : Int32) : Prop :=
  vp_in x3 5 ∧
  ∃ n : Nat, wp_X2_share_14 P o0 o1 x2 x3 x4 (o1.se x3.toNatClampNeg) n (0 : Int32) (0 : Int32)
def wp_X2_fare (P : Int32 → Prop) (o0 : PlT) (o1 : StT) (x2 : Int32) : Prop :=
  vp_in x2 24 ∧
  ((¬ (o0.vn x2.toNatClampNeg) = (-106 : Int32)) →
    wp_X2_share (fun r_3 =>
      wp_X2_share (fun r_4 =>
        P (r_3 + r_4)) o0 o1 x2 (4 : Int32) (1 : Int32)) o0 o1 x2 (3 : Int32) (0 : Int32)) ∧
  (((o0.vn x2.toNatClampNeg) = (-106 : Int32)) →
    P (0 : Int32))
def wp_X3_removeRider_2F (P : (Nat → Int32) → (Nat → Int32) → (Nat → Int32) → (Nat → Int32) → Int32 → Prop) (o0 : StT) (x1 : Int32) (ri : Int32) (r2 : Int32 → (Nat → Int32) → (Nat → Int32) → (Nat → Int32) → (Nat → Int32) → Prop) (v2 : Int32) (fl : Nat → Int32) (ar : Nat → Int32) (dr : Nat → Int32) (pe : Nat → Int32) : Prop :=
  (((ri - (1 : Int32)) ≤ v2) →
    P fl ar dr pe (ri - (1 : Int32))) ∧
  ((¬ (ri - (1 : Int32)) ≤ v2) →
    vp_in (v2 + (1 : Int32)) 24 ∧
    vp_in v2 24 ∧
    vp_in (v2 + (1 : Int32)) 24 ∧
    vp_in v2 24 ∧
    vp_in (v2 + (1 : Int32)) 24 ∧
    vp_in v2 24 ∧
    vp_in (v2 + (1 : Int32)) 24 ∧
    vp_in v2 24 ∧
    r2 (v2 + 1) (upd fl v2.toNatClampNeg (fl (v2 + (1 : Int32)).toNatClampNeg)) (upd ar v2.toNatClampNeg (ar (v2 + (1 : Int32)).toNatClampNeg)) (upd dr v2.toNatClampNeg (dr (v2 + (1 : Int32)).toNatClampNeg)) (upd pe v2.toNatClampNeg (pe (v2 + (1 : Int32)).toNatClampNeg)))
def wp_X3_removeRider_2 (P : (Nat → Int32) → (Nat → Int32) → (Nat → Int32) → (Nat → Int32) → Int32 → Prop) (o0 : StT) (x1 : Int32) (ri : Int32) : Nat → Int32 → (Nat → Int32) → (Nat → Int32) → (Nat → Int32) → (Nat → Int32) → Prop
  | 0 => fun _ _ _ _ _ => False
  | n + 1 => wp_X3_removeRider_2F P o0 x1 ri (wp_X3_removeRider_2 P o0 x1 ri n)
def wp_X3_removeRider (P : (Nat → Int32) → (Nat → Int32) → (Nat → Int32) → (Nat → Int32) → Int32 → Prop) (o0 : StT) (x1 : Int32) : Prop :=
  ∃ n : Nat, wp_X3_removeRider_2 P o0 x1 o0.ri n x1 o0.fl o0.ar o0.dr o0.pe
def wp_X5_cancel (P : Int32 → (Nat → Int32) → (Nat → Int32) → (Nat → Int32) → (Nat → Int32) → Int32 → (Nat → Int32) → (Nat → Int32) → (Nat → Int32) → (Nat → Int32) → (Nat → Int32) → Int32 → Int32 → Int32 → (Nat → StT) → Int32 → Int32 → Prop) (now : StT) (pln : PlT) (his : HiT) (x1 : Int32) : Prop :=
  wp_X5_isRider (fun r_1 =>
    ((¬ r_1 = 0) →
      wp_X2_fare (fun r_3 =>
        wp_X0_record (fun hs_4 ol_5 sz_6 =>
          wp_X3_removeRider (fun fl_7 ar_8 dr_9 pe_10 ri_11 =>
            wp_X2_make (fun od_12 rd_13 vn_14 pn_15 ao_16 sr_17 sp_18 wt_19 =>
              P r_3 fl_7 ar_8 dr_9 pe_10 ri_11 od_12 rd_13 vn_14 pn_15 ao_16 sr_17 sp_18 wt_19 hs_4 ol_5 sz_6) pln (mkSt now.se now.la now.de now.le now.sa fl_7 ar_8 dr_9 pe_10 ri_11)) now x1) his now) pln now x1) ∧
    ((r_1 = 0) →
      P (-101 : Int32) now.fl now.ar now.dr now.pe now.ri pln.od pln.rd pln.vn pln.pn pln.ao pln.sr pln.sp pln.wt his.hs his.ol his.sz)) now x1
def wp_X5_rebook (P : Int32 → (Nat → Int32) → (Nat → Int32) → (Nat → Int32) → (Nat → Int32) → (Nat → Int32) → (Nat → Int32) → Int32 → Int32 → Int32 → (Nat → StT) → Int32 → Int32 → Prop) (now : StT) (pln : PlT) (his : HiT) (x1 : Int32) (x2 : Int32) : Prop :=
  wp_X5_isRider (fun r_1 =>
    ((r_1 = 0) →
      P (-101 : Int32) now.fl pln.od pln.rd pln.vn pln.pn pln.ao pln.sr pln.sp pln.wt his.hs his.ol his.sz) ∧
    ((¬ r_1 = 0) →
      wp_X5_isFlight (fun r_3 =>
        ((¬ r_3 = 0) →
          vp_in x1 24 ∧
          ((¬ (now.fl x1.toNatClampNeg) = x2) →
            wp_X0_record (fun hs_7 ol_8 sz_9 =>
              vp_in x1 24 ∧
              wp_X2_make (fun od_11 rd_12 vn_13 pn_14 ao_15 sr_16 sp_17 wt_18 =>
                vp_in x1 24 ∧
                P (vn_13 x1.toNatClampNeg) (upd now.fl x1.toNatClampNeg x2) od_11 rd_12 vn_13 pn_14 ao_15 sr_16 sp_17 wt_18 hs_7 ol_8 sz_9) pln (mkSt now.se now.la now.de now.le now.sa (upd now.fl x1.toNatClampNeg x2) now.ar now.dr now.pe now.ri)) his now) ∧
          (((now.fl x1.toNatClampNeg) = x2) →
            P (-105 : Int32) now.fl pln.od pln.rd pln.vn pln.pn pln.ao pln.sr pln.sp pln.wt his.hs his.ol his.sz)) ∧
        ((r_3 = 0) →
          P (-101 : Int32) now.fl pln.od pln.rd pln.vn pln.pn pln.ao pln.sr pln.sp pln.wt his.hs his.ol his.sz)) x2)) now x1
def wp_X2_waitOf (P : Int32 → Prop) (o0 : PlT) (o1 : StT) (x2 : Int32) : Prop :=
  vp_in x2 24 ∧
  wp_X5_isVan (fun r_2 =>
    ((r_2 = 0) →
      P (-106 : Int32)) ∧
    ((¬ r_2 = 0) →
      vp_in (o0.vn x2.toNatClampNeg) 8 ∧
      vp_in x2 24 ∧
      P ((o1.le (o0.vn x2.toNatClampNeg).toNatClampNeg) - (o0.rd x2.toNatClampNeg)))) (o0.vn x2.toNatClampNeg)
def wp_X4_placeFor_2F (P : Int32 → Prop) (o0 : WyT) (x1 : Int32) (r2 : Int32 → Prop) (v2 : Int32) : Prop :=
  ((o0.so ≤ v2) →
    P v2) ∧
  ((¬ o0.so ≤ v2) →
    vp_in v2 24 ∧
    ((x1 ≤ (o0.ky v2.toNatClampNeg)) →
      P v2) ∧
    ((¬ x1 ≤ (o0.ky v2.toNatClampNeg)) →
      r2 (v2 + 1)))
def wp_X4_placeFor_2 (P : Int32 → Prop) (o0 : WyT) (x1 : Int32) : Nat → Int32 → Prop
  | 0 => fun _ => False
  | n + 1 => wp_X4_placeFor_2F P o0 x1 (wp_X4_placeFor_2 P o0 x1 n)
def wp_X4_placeFor (P : Int32 → Prop) (o0 : WyT) (x1 : Int32) : Prop :=
  ∃ n : Nat, wp_X4_placeFor_2 P o0 x1 n (0 : Int32)
def wp_X4_openStop_15F (P : (Nat → Int32) → (Nat → Int32) → Int32 → Prop) (o0 : WyT) (x1 : Int32) (x2 : Int32) (so : Int32) (r15 : Int32 → (Nat → Int32) → (Nat → Int32) → Prop) (v3 : Int32) (ky : Nat → Int32) (wp : Nat → Int32) : Prop :=
  ((v3 ≤ x1) →
    vp_in x1 24 ∧
    vp_in x1 24 ∧
    P (upd ky x1.toNatClampNeg x2) (upd wp x1.toNatClampNeg (0 : Int32)) (so + (1 : Int32))) ∧
  ((¬ v3 ≤ x1) →
    vp_in (v3 - (1 : Int32)) 24 ∧
    vp_in v3 24 ∧
    vp_in (v3 - (1 : Int32)) 24 ∧
    vp_in v3 24 ∧
    r15 (v3 + (-1)) (upd ky v3.toNatClampNeg (ky (v3 - (1 : Int32)).toNatClampNeg)) (upd wp v3.toNatClampNeg (wp (v3 - (1 : Int32)).toNatClampNeg)))
def wp_X4_openStop_15 (P : (Nat → Int32) → (Nat → Int32) → Int32 → Prop) (o0 : WyT) (x1 : Int32) (x2 : Int32) (so : Int32) : Nat → Int32 → (Nat → Int32) → (Nat → Int32) → Prop
  | 0 => fun _ _ _ => False
  | n + 1 => wp_X4_openStop_15F P o0 x1 x2 so (wp_X4_openStop_15 P o0 x1 x2 so n)
def wp_X4_openStop (P : (Nat → Int32) → (Nat → Int32) → Int32 → Prop) (o0 : WyT) (x1 : Int32) (x2 : Int32) : Prop :=
  ((o0.so < (24 : Int32)) →
    ∃ n : Nat, wp_X4_openStop_15 P o0 x1 x2 o0.so n o0.so o0.ky o0.wp) ∧
  ((¬ o0.so < (24 : Int32)) →
    P o0.ky o0.wp o0.so)
def wp_X4_letOut_37 (P : (Nat → Int32) → (Nat → Int32) → Int32 → Prop) (o0 : WyT) (x1 : Int32) (x2 : Int32) (v3 : Int32) (ky : Nat → Int32) (wp : Nat → Int32) (so : Int32) : Prop :=
  vp_in v3 24 ∧
  vp_in v3 24 ∧
  P ky (upd wp v3.toNatClampNeg ((wp v3.toNatClampNeg) + x2)) so
def wp_X4_letOut_31 (P : (Nat → Int32) → (Nat → Int32) → Int32 → Prop) (o0 : WyT) (x1 : Int32) (x2 : Int32) (v3 : Int32) (ky : Nat → Int32) (wp : Nat → Int32) (so : Int32) : Prop :=
  wp_X4_openStop (fun ky_6 wp_7 so_8 =>
    wp_X4_letOut_37 P o0 x1 x2 v3 ky_6 wp_7 so_8) (mkWy ky wp o0.mi so) v3 x1
def wp_X4_letOut (P : (Nat → Int32) → (Nat → Int32) → Int32 → Prop) (o0 : WyT) (x1 : Int32) (x2 : Int32) : Prop :=
  wp_X4_placeFor (fun r_1 =>
    ((r_1 < (24 : Int32)) →
      ((r_1 = o0.so) →
        wp_X4_letOut_31 P o0 x1 x2 r_1 o0.ky o0.wp o0.so) ∧
      ((¬ r_1 = o0.so) →
        vp_in r_1 24 ∧
        (((o0.ky r_1.toNatClampNeg) = x1) →
          wp_X4_letOut_37 P o0 x1 x2 r_1 o0.ky o0.wp o0.so) ∧
        ((¬ (o0.ky r_1.toNatClampNeg) = x1) →
          wp_X4_letOut_31 P o0 x1 x2 r_1 o0.ky o0.wp o0.so))) ∧
    ((¬ r_1 < (24 : Int32)) →
      P o0.ky o0.wp o0.so)) o0 x1
def wp_X3_areaOfStop (P : Int32 → Prop) (x0 : Int32) : Prop :=
  P (x0 / (100 : Int32))
def wp_X4_tellMinutes_82 (P : (Nat → Int32) → Prop) (o0 : WyT) (x1 : Int32) (r2 : Int32 → (Nat → Int32) → Prop) (v2 : Int32) (w0 : Int32) (w1 : Int32) (w2 : Int32) (mi : Nat → Int32) : Prop :=
  vp_in w0 24 ∧
  r2 (v2 + 1) (upd mi w0.toNatClampNeg (w1 + w2))
def wp_X4_tellMinutes_2F (P : (Nat → Int32) → Prop) (o0 : WyT) (x1 : Int32) (r2 : Int32 → (Nat → Int32) → Prop) (v2 : Int32) (mi : Nat → Int32) : Prop :=
  ((o0.so ≤ v2) →
    P mi) ∧
  ((¬ o0.so ≤ v2) →
    vp_in v2 24 ∧
    wp_X3_areaOfStop (fun r_3 =>
      ((¬ v2 = 0) →
        vp_in (v2 - (1 : Int32)) 24 ∧
        wp_X3_areaOfStop (fun r_6 =>
          vp_in (v2 - (1 : Int32)) 24 ∧
          (((r_3 - r_6) ≤ 0) →
            wp_X4_tellMinutes_82 P o0 x1 r2 v2 v2 (mi (v2 - (1 : Int32)).toNatClampNeg) (3 : Int32) mi) ∧
          ((¬ (r_3 - r_6) ≤ 0) →
            wp_X4_tellMinutes_82 P o0 x1 r2 v2 v2 (mi (v2 - (1 : Int32)).toNatClampNeg) ((5 : Int32) * (r_3 - r_6)) mi)) (o0.ky (v2 - (1 : Int32)).toNatClampNeg)) ∧
      ((v2 = 0) →
        vp_in v2 24 ∧
        r2 (v2 + 1) (upd mi v2.toNatClampNeg ((x1 + (10 : Int32)) + ((5 : Int32) * r_3))))) (o0.ky v2.toNatClampNeg))
def wp_X4_tellMinutes_2 (P : (Nat → Int32) → Prop) (o0 : WyT) (x1 : Int32) : Nat → Int32 → (Nat → Int32) → Prop
  | 0 => fun _ _ => False
  | n + 1 => wp_X4_tellMinutes_2F P o0 x1 (wp_X4_tellMinutes_2 P o0 x1 n)
def wp_X4_tellMinutes (P : (Nat → Int32) → Prop) (o0 : WyT) (x1 : Int32) : Prop :=
  ∃ n : Nat, wp_X4_tellMinutes_2 P o0 x1 n (0 : Int32) o0.mi
def wp_X4_follow_8F (P : (Nat → Int32) → (Nat → Int32) → (Nat → Int32) → Int32 → Prop) (o0 : WyT) (o1 : StT) (o2 : PlT) (x3 : Int32) (mi : Nat → Int32) (r8 : Int32 → (Nat → Int32) → (Nat → Int32) → Int32 → Prop) (v4 : Int32) (ky : Nat → Int32) (wp : Nat → Int32) (so : Int32) : Prop :=
  ((o1.ri ≤ v4) →
    vp_in x3 8 ∧
    wp_X4_tellMinutes (fun mi_3 =>
      P ky wp mi_3 so) (mkWy ky wp mi so) (o1.le x3.toNatClampNeg)) ∧
  ((¬ o1.ri ≤ v4) →
    vp_in v4 24 ∧
    ((¬ (o2.vn v4.toNatClampNeg) = x3) →
      r8 (v4 + 1) ky wp so) ∧
    (((o2.vn v4.toNatClampNeg) = x3) →
      wp_X3_stopKey (fun r_6 =>
        vp_in v4 24 ∧
        wp_X4_letOut (fun ky_8 wp_9 so_10 =>
          r8 (v4 + 1) ky_8 wp_9 so_10) (mkWy ky wp mi so) r_6 (o1.pe v4.toNatClampNeg)) o1 v4))
def wp_X4_follow_8 (P : (Nat → Int32) → (Nat → Int32) → (Nat → Int32) → Int32 → Prop) (o0 : WyT) (o1 : StT) (o2 : PlT) (x3 : Int32) (mi : Nat → Int32) : Nat → Int32 → (Nat → Int32) → (Nat → Int32) → Int32 → Prop
  | 0 => fun _ _ _ _ => False
  | n + 1 => wp_X4_follow_8F P o0 o1 o2 x3 mi (wp_X4_follow_8 P o0 o1 o2 x3 mi n)
def wp_X4_follow (P : (Nat → Int32) → (Nat → Int32) → (Nat → Int32) → Int32 → Prop) (o0 : WyT) (o1 : StT) (o2 : PlT) (x3 : Int32) : Prop :=
  ∃ n : Nat, wp_X4_follow_8 P o0 o1 o2 x3 o0.mi n (0 : Int32) o0.ky o0.wp (0 : Int32)
def wp_X4_minuteAt (P : Int32 → Prop) (o0 : WyT) (x1 : Int32) : Prop :=
  wp_X4_placeFor (fun r_1 =>
    ((o0.so ≤ r_1) →
      P (-106 : Int32)) ∧
    ((¬ o0.so ≤ r_1) →
      vp_in r_1 24 ∧
      P (o0.mi r_1.toNatClampNeg))) o0 x1
def wp_X5_minuteAtDoor (P : Int32 → (Nat → Int32) → (Nat → Int32) → (Nat → Int32) → Int32 → Prop) (now : StT) (pln : PlT) (way : WyT) (x1 : Int32) : Prop :=
  vp_in x1 24 ∧
  wp_X5_isVan (fun r_2 =>
    ((¬ r_2 = 0) →
      wp_X4_follow (fun ky_4 wp_5 mi_6 so_7 =>
        wp_X3_stopKey (fun r_8 =>
          wp_X4_minuteAt (fun r_9 =>
            P r_9 ky_4 wp_5 mi_6 so_7) (mkWy ky_4 wp_5 mi_6 so_7) r_8) now x1) way now pln (pln.vn x1.toNatClampNeg)) ∧
    ((r_2 = 0) →
      P (-106 : Int32) way.ky way.wp way.mi way.so)) (pln.vn x1.toNatClampNeg)
def wp_X2_othersAtStop_18F (P : Int32 → Prop) (o0 : PlT) (o1 : StT) (x2 : Int32) (r18 : Int32 → Int32 → Prop) (v3 : Int32) (v4 : Int32) : Prop :=
  ((o1.ri ≤ v4) →
    P v3) ∧
  ((¬ o1.ri ≤ v4) →
    ((v4 = x2) →
      r18 v3 (v4 + 1)) ∧
    ((¬ v4 = x2) →
      wp_X2_shares (fun r_5 =>
        ((r_5 = 0) →
          r18 v3 (v4 + 1)) ∧
        ((¬ r_5 = 0) →
          r18 (v3 + 1) (v4 + 1))) o0 o1 x2 v4 (1 : Int32)))
def wp_X2_othersAtStop_18 (P : Int32 → Prop) (o0 : PlT) (o1 : StT) (x2 : Int32) : Nat → Int32 → Int32 → Prop
  | 0 => fun _ _ => False
  | n + 1 => wp_X2_othersAtStop_18F P o0 o1 x2 (wp_X2_othersAtStop_18 P o0 o1 x2 n)
def wp_X2_othersAtStop (P : Int32 → Prop) (o0 : PlT) (o1 : StT) (x2 : Int32) : Prop :=
  vp_in x2 24 ∧
  ((¬ (o0.vn x2.toNatClampNeg) = (-106 : Int32)) →
    ∃ n : Nat, wp_X2_othersAtStop_18 P o0 o1 x2 n (0 : Int32) (0 : Int32)) ∧
  (((o0.vn x2.toNatClampNeg) = (-106 : Int32)) →
    P (0 : Int32))
def wp_X5_rider (P : Int32 → (Nat → Int32) → (Nat → Int32) → (Nat → Int32) → Int32 → Prop) (now : StT) (pln : PlT) (way : WyT) (x1 : Int32) (x2 : Int32) : Prop :=
  wp_X5_isRider (fun r_1 =>
    ((¬ r_1 = 0) →
      (x2 = 0 →
        vp_in x1 24 ∧
        P (now.fl x1.toNatClampNeg) way.ky way.wp way.mi way.so) ∧
      (x2 = 1 →
        vp_in x1 24 ∧
        P (now.ar x1.toNatClampNeg) way.ky way.wp way.mi way.so) ∧
      (x2 = 2 →
        vp_in x1 24 ∧
        P (now.dr x1.toNatClampNeg) way.ky way.wp way.mi way.so) ∧
      (x2 = 3 →
        vp_in x1 24 ∧
        P (now.pe x1.toNatClampNeg) way.ky way.wp way.mi way.so) ∧
      (x2 = 4 →
        wp_X3_riderReady (fun r_8 =>
          P r_8 way.ky way.wp way.mi way.so) now x1) ∧
      (x2 = 5 →
        vp_in x1 24 ∧
        P (pln.vn x1.toNatClampNeg) way.ky way.wp way.mi way.so) ∧
      (x2 = 6 →
        wp_X2_waitOf (fun r_10 =>
          P r_10 way.ky way.wp way.mi way.so) pln now x1) ∧
      (x2 = 7 →
        wp_X5_minuteAtDoor (fun r_15 ky_11 wp_12 mi_13 so_14 =>
          P r_15 ky_11 wp_12 mi_13 so_14) now pln way x1) ∧
      (x2 = 8 →
        wp_X2_fare (fun r_16 =>
          P r_16 way.ky way.wp way.mi way.so) pln now x1) ∧
      (x2 = 9 →
        wp_X2_othersAtStop (fun r_17 =>
          P r_17 way.ky way.wp way.mi way.so) pln now x1) ∧
      ((¬ x2 = 0 ∧ ¬ x2 = 1 ∧ ¬ x2 = 2 ∧ ¬ x2 = 3 ∧ ¬ x2 = 4 ∧ ¬ x2 = 5 ∧ ¬ x2 = 6 ∧ ¬ x2 = 7 ∧ ¬ x2 = 8 ∧ ¬ x2 = 9) →
        P (-102 : Int32) way.ky way.wp way.mi way.so)) ∧
    ((r_1 = 0) →
      P (-101 : Int32) way.ky way.wp way.mi way.so)) now x1
def wp_X2_ridersIn_5F (P : Int32 → Prop) (o0 : PlT) (o1 : StT) (x2 : Int32) (r5 : Int32 → Int32 → Prop) (v3 : Int32) (v4 : Int32) : Prop :=
  ((o1.ri ≤ v4) →
    P v3) ∧
  ((¬ o1.ri ≤ v4) →
    vp_in v4 24 ∧
    ((¬ (o0.vn v4.toNatClampNeg) = x2) →
      r5 v3 (v4 + 1)) ∧
    (((o0.vn v4.toNatClampNeg) = x2) →
      r5 (v3 ||| ((1 : Int32) <<< (v4 &&& 31))) (v4 + 1)))
def wp_X2_ridersIn_5 (P : Int32 → Prop) (o0 : PlT) (o1 : StT) (x2 : Int32) : Nat → Int32 → Int32 → Prop
  | 0 => fun _ _ => False
  | n + 1 => wp_X2_ridersIn_5F P o0 o1 x2 (wp_X2_ridersIn_5 P o0 o1 x2 n)
def wp_X2_ridersIn (P : Int32 → Prop) (o0 : PlT) (o1 : StT) (x2 : Int32) : Prop :=
  ∃ n : Nat, wp_X2_ridersIn_5 P o0 o1 x2 n (0 : Int32) (0 : Int32)
def wp_X4_lastMinute (P : Int32 → Prop) (o0 : WyT) : Prop :=
  ((o0.so ≤ 0) →
    P (-106 : Int32)) ∧
  ((¬ o0.so ≤ 0) →
    vp_in (o0.so - (1 : Int32)) 24 ∧
    P (o0.mi (o0.so - (1 : Int32)).toNatClampNeg))
def wp_X2_faresOf_5F (P : Int32 → Prop) (o0 : PlT) (o1 : StT) (x2 : Int32) (r5 : Int32 → Int32 → Prop) (v3 : Int32) (v4 : Int32) : Prop :=
  ((o1.ri ≤ v4) →
    P v3) ∧
  ((¬ o1.ri ≤ v4) →
    vp_in v4 24 ∧
    ((¬ (o0.vn v4.toNatClampNeg) = x2) →
      r5 v3 (v4 + 1)) ∧
    (((o0.vn v4.toNatClampNeg) = x2) →
      wp_X2_fare (fun r_4 =>
        r5 (v3 + r_4) (v4 + 1)) o0 o1 v4))
def wp_X2_faresOf_5 (P : Int32 → Prop) (o0 : PlT) (o1 : StT) (x2 : Int32) : Nat → Int32 → Int32 → Prop
  | 0 => fun _ _ => False
  | n + 1 => wp_X2_faresOf_5F P o0 o1 x2 (wp_X2_faresOf_5 P o0 o1 x2 n)
def wp_X2_faresOf (P : Int32 → Prop) (o0 : PlT) (o1 : StT) (x2 : Int32) : Prop :=
  ∃ n : Nat, wp_X2_faresOf_5 P o0 o1 x2 n (0 : Int32) (0 : Int32)
def wp_X5_vanOf (P : Int32 → (Nat → Int32) → (Nat → Int32) → (Nat → Int32) → Int32 → Prop) (now : StT) (pln : PlT) (way : WyT) (x1 : Int32) (x2 : Int32) : Prop :=
  wp_X5_isVan (fun r_1 =>
    ((¬ r_1 = 0) →
      wp_X4_follow (fun ky_3 wp_4 mi_5 so_6 =>
        (x2 = 0 →
          vp_in x1 8 ∧
          P (now.le x1.toNatClampNeg) ky_3 wp_4 mi_5 so_6) ∧
        (x2 = 1 →
          vp_in x1 8 ∧
          P (now.sa x1.toNatClampNeg) ky_3 wp_4 mi_5 so_6) ∧
        (x2 = 2 →
          vp_in x1 8 ∧
          P (pln.pn x1.toNatClampNeg) ky_3 wp_4 mi_5 so_6) ∧
        (x2 = 3 →
          wp_X2_ridersIn (fun r_11 =>
            P r_11 ky_3 wp_4 mi_5 so_6) pln now x1) ∧
        (x2 = 4 →
          vp_in x1 8 ∧
          P (pln.ao x1.toNatClampNeg) ky_3 wp_4 mi_5 so_6) ∧
        (x2 = 5 →
          P so_6 ky_3 wp_4 mi_5 so_6) ∧
        (x2 = 6 →
          wp_X4_lastMinute (fun r_13 =>
            P r_13 ky_3 wp_4 mi_5 so_6) (mkWy ky_3 wp_4 mi_5 so_6)) ∧
        (x2 = 7 →
          wp_X2_faresOf (fun r_14 =>
            P r_14 ky_3 wp_4 mi_5 so_6) pln now x1) ∧
        ((¬ x2 = 0 ∧ ¬ x2 = 1 ∧ ¬ x2 = 2 ∧ ¬ x2 = 3 ∧ ¬ x2 = 4 ∧ ¬ x2 = 5 ∧ ¬ x2 = 6 ∧ ¬ x2 = 7) →
          P (-102 : Int32) ky_3 wp_4 mi_5 so_6)) way now pln x1) ∧
    ((r_1 = 0) →
      P (-101 : Int32) way.ky way.wp way.mi way.so)) x1
def wp_X2_peopleOfFlight_36 (P : Int32 → Prop) (o0 : PlT) (o1 : StT) (x2 : Int32) (x3 : Int32) (r6 : Int32 → Int32 → Prop) (v4 : Int32) (v5 : Int32) (w0 : Int32) : Prop :=
  ((w0 = 0) →
    r6 v4 (v5 + 1)) ∧
  ((¬ w0 = 0) →
    vp_in v5 24 ∧
    ((¬ (o1.fl v5.toNatClampNeg) = x2) →
      r6 v4 (v5 + 1)) ∧
    (((o1.fl v5.toNatClampNeg) = x2) →
      vp_in v5 24 ∧
      r6 (v4 + (o1.pe v5.toNatClampNeg)) (v5 + 1)))
def wp_X2_peopleOfFlight_6F (P : Int32 → Prop) (o0 : PlT) (o1 : StT) (x2 : Int32) (x3 : Int32) (r6 : Int32 → Int32 → Prop) (v4 : Int32) (v5 : Int32) : Prop :=
  ((o1.ri ≤ v5) →
    P v4) ∧
  ((¬ o1.ri ≤ v5) →
    ((x3 = 0) →
      wp_X2_peopleOfFlight_36 P o0 o1 x2 x3 r6 v4 v5 (1 : Int32)) ∧
    ((¬ x3 = 0) →
      vp_in v5 24 ∧
      ((¬ (o0.vn v5.toNatClampNeg) = (-106 : Int32)) →
        wp_X2_peopleOfFlight_36 P o0 o1 x2 x3 r6 v4 v5 (0 : Int32)) ∧
      (((o0.vn v5.toNatClampNeg) = (-106 : Int32)) →
        wp_X2_peopleOfFlight_36 P o0 o1 x2 x3 r6 v4 v5 (1 : Int32))))
def wp_X2_peopleOfFlight_6 (P : Int32 → Prop) (o0 : PlT) (o1 : StT) (x2 : Int32) (x3 : Int32) : Nat → Int32 → Int32 → Prop
  | 0 => fun _ _ => False
  | n + 1 => wp_X2_peopleOfFlight_6F P o0 o1 x2 x3 (wp_X2_peopleOfFlight_6 P o0 o1 x2 x3 n)
def wp_X2_peopleOfFlight (P : Int32 → Prop) (o0 : PlT) (o1 : StT) (x2 : Int32) (x3 : Int32) : Prop :=
  ∃ n : Nat, wp_X2_peopleOfFlight_6 P o0 o1 x2 x3 n (0 : Int32) (0 : Int32)
def wp_X5_flight (P : Int32 → Prop) (now : StT) (pln : PlT) (x1 : Int32) (x2 : Int32) : Prop :=
  wp_X5_isFlight (fun r_1 =>
    ((¬ r_1 = 0) →
      (x2 = 0 →
        vp_in x1 6 ∧
        P (now.la x1.toNatClampNeg)) ∧
      (x2 = 1 →
        vp_in x1 6 ∧
        P (now.de x1.toNatClampNeg)) ∧
      (x2 = 2 →
        wp_X3_flightReady (fun r_6 =>
          P r_6) now x1) ∧
      (x2 = 3 →
        wp_X2_peopleOfFlight (fun r_7 =>
          P r_7) pln now x1 (0 : Int32)) ∧
      (x2 = 4 →
        wp_X2_peopleOfFlight (fun r_8 =>
          P r_8) pln now x1 (1 : Int32)) ∧
      ((¬ x2 = 0 ∧ ¬ x2 = 1 ∧ ¬ x2 = 2 ∧ ¬ x2 = 3 ∧ ¬ x2 = 4) →
        P (-102 : Int32))) ∧
    ((r_1 = 0) →
      P (-101 : Int32))) x1
def wp_X3_doorOfStop (P : Int32 → Prop) (x0 : Int32) : Prop :=
  P (x0 - x0 / (100 : Int32) * (100 : Int32))
def wp_X5_stop (P : Int32 → (Nat → Int32) → (Nat → Int32) → (Nat → Int32) → Int32 → Prop) (now : StT) (pln : PlT) (way : WyT) (x1 : Int32) (x2 : Int32) (x3 : Int32) : Prop :=
  wp_X5_isVan (fun r_1 =>
    ((¬ r_1 = 0) →
      wp_X4_follow (fun ky_3 wp_4 mi_5 so_6 =>
        wp_X5_isIn (fun r_7 =>
          ((¬ r_7 = 0) →
            (x3 = 0 →
              vp_in x2 24 ∧
              wp_X3_areaOfStop (fun r_11 =>
                P r_11 ky_3 wp_4 mi_5 so_6) (ky_3 x2.toNatClampNeg)) ∧
            (x3 = 1 →
              vp_in x2 24 ∧
              wp_X3_doorOfStop (fun r_13 =>
                P r_13 ky_3 wp_4 mi_5 so_6) (ky_3 x2.toNatClampNeg)) ∧
            (x3 = 2 →
              vp_in x2 24 ∧
              P (mi_5 x2.toNatClampNeg) ky_3 wp_4 mi_5 so_6) ∧
            (x3 = 3 →
              vp_in x2 24 ∧
              P (wp_4 x2.toNatClampNeg) ky_3 wp_4 mi_5 so_6) ∧
            ((¬ x3 = 0 ∧ ¬ x3 = 1 ∧ ¬ x3 = 2 ∧ ¬ x3 = 3) →
              P (-102 : Int32) ky_3 wp_4 mi_5 so_6)) ∧
          ((r_7 = 0) →
            P (-101 : Int32) ky_3 wp_4 mi_5 so_6)) x2 (0 : Int32) (so_6 - (1 : Int32))) way now pln x1) ∧
    ((r_1 = 0) →
      P (-101 : Int32) way.ky way.wp way.mi way.so)) x1
def wp_X3_allPeople_4F (P : Int32 → Prop) (o0 : StT) (r4 : Int32 → Int32 → Prop) (v1 : Int32) (v2 : Int32) : Prop :=
  ((o0.ri ≤ v2) →
    P v1) ∧
  ((¬ o0.ri ≤ v2) →
    vp_in v2 24 ∧
    r4 (v1 + (o0.pe v2.toNatClampNeg)) (v2 + 1))
def wp_X3_allPeople_4 (P : Int32 → Prop) (o0 : StT) : Nat → Int32 → Int32 → Prop
  | 0 => fun _ _ => False
  | n + 1 => wp_X3_allPeople_4F P o0 (wp_X3_allPeople_4 P o0 n)
def wp_X3_allPeople (P : Int32 → Prop) (o0 : StT) : Prop :=
  ∃ n : Nat, wp_X3_allPeople_4 P o0 n (0 : Int32) (0 : Int32)
def wp_X5_allFares_4F (P : Int32 → Prop) (now : StT) (pln : PlT) (r4 : Int32 → Int32 → Prop) (v1 : Int32) (v2 : Int32) : Prop :=
  ((now.ri ≤ v2) →
    P v1) ∧
  ((¬ now.ri ≤ v2) →
    wp_X2_fare (fun r_2 =>
      r4 (v1 + r_2) (v2 + 1)) pln now v2)
def wp_X5_allFares_4 (P : Int32 → Prop) (now : StT) (pln : PlT) : Nat → Int32 → Int32 → Prop
  | 0 => fun _ _ => False
  | n + 1 => wp_X5_allFares_4F P now pln (wp_X5_allFares_4 P now pln n)
def wp_X5_allFares (P : Int32 → Prop) (now : StT) (pln : PlT) : Prop :=
  ∃ n : Nat, wp_X5_allFares_4 P now pln n (0 : Int32) (0 : Int32)
def wp_X2_vansWithRiders_4F (P : Int32 → Prop) (o0 : PlT) (r4 : Int32 → Int32 → Prop) (v1 : Int32) (v2 : Int32) : Prop :=
  (((8 : Int32) ≤ v2) →
    P v1) ∧
  ((¬ (8 : Int32) ≤ v2) →
    vp_in v2 8 ∧
    (((o0.pn v2.toNatClampNeg) ≤ 0) →
      r4 v1 (v2 + 1)) ∧
    ((¬ (o0.pn v2.toNatClampNeg) ≤ 0) →
      r4 (v1 + 1) (v2 + 1)))
def wp_X2_vansWithRiders_4 (P : Int32 → Prop) (o0 : PlT) : Nat → Int32 → Int32 → Prop
  | 0 => fun _ _ => False
  | n + 1 => wp_X2_vansWithRiders_4F P o0 (wp_X2_vansWithRiders_4 P o0 n)
def wp_X2_vansWithRiders (P : Int32 → Prop) (o0 : PlT) : Prop :=
  ∃ n : Nat, wp_X2_vansWithRiders_4 P o0 n (0 : Int32) (0 : Int32)
def wp_X5_allStops_4F (P : Int32 → (Nat → Int32) → (Nat → Int32) → (Nat → Int32) → Int32 → Prop) (now : StT) (pln : PlT) (way : WyT) (r4 : Int32 → Int32 → (Nat → Int32) → (Nat → Int32) → (Nat → Int32) → Int32 → Prop) (v1 : Int32) (v2 : Int32) (way_ky : Nat → Int32) (way_wp : Nat → Int32) (way_mi : Nat → Int32) (way_so : Int32) : Prop :=
  (((8 : Int32) ≤ v2) →
    P v1 way_ky way_wp way_mi way_so) ∧
  ((¬ (8 : Int32) ≤ v2) →
    wp_X4_follow (fun ky_2 wp_3 mi_4 so_5 =>
      r4 (v1 + so_5) (v2 + 1) ky_2 wp_3 mi_4 so_5) (mkWy way_ky way_wp way_mi way_so) now pln v2)
def wp_X5_allStops_4 (P : Int32 → (Nat → Int32) → (Nat → Int32) → (Nat → Int32) → Int32 → Prop) (now : StT) (pln : PlT) (way : WyT) : Nat → Int32 → Int32 → (Nat → Int32) → (Nat → Int32) → (Nat → Int32) → Int32 → Prop
  | 0 => fun _ _ _ _ _ _ => False
  | n + 1 => wp_X5_allStops_4F P now pln way (wp_X5_allStops_4 P now pln way n)
def wp_X5_allStops (P : Int32 → (Nat → Int32) → (Nat → Int32) → (Nat → Int32) → Int32 → Prop) (now : StT) (pln : PlT) (way : WyT) : Prop :=
  ∃ n : Nat, wp_X5_allStops_4 P now pln way n (0 : Int32) (0 : Int32) way.ky way.wp way.mi way.so
def wp_X5_lastAtDoor_6F (P : Int32 → (Nat → Int32) → (Nat → Int32) → (Nat → Int32) → Int32 → Prop) (way : WyT) (o1 : StT) (o2 : PlT) (r6 : Int32 → Int32 → (Nat → Int32) → (Nat → Int32) → (Nat → Int32) → Int32 → Prop) (v3 : Int32) (v4 : Int32) (way_ky : Nat → Int32) (way_wp : Nat → Int32) (way_mi : Nat → Int32) (way_so : Int32) : Prop :=
  (((8 : Int32) ≤ v4) →
    P v3 way_ky way_wp way_mi way_so) ∧
  ((¬ (8 : Int32) ≤ v4) →
    wp_X4_follow (fun ky_2 wp_3 mi_4 so_5 =>
      ((so_5 ≤ 0) →
        r6 v3 (v4 + 1) ky_2 wp_3 mi_4 so_5) ∧
      ((¬ so_5 ≤ 0) →
        wp_X4_lastMinute (fun r_7 =>
          r6 (if v3 < r_7 then r_7 else v3) (v4 + 1) ky_2 wp_3 mi_4 so_5) (mkWy ky_2 wp_3 mi_4 so_5))) (mkWy way_ky way_wp way_mi way_so) o1 o2 v4)
def wp_X5_lastAtDoor_6 (P : Int32 → (Nat → Int32) → (Nat → Int32) → (Nat → Int32) → Int32 → Prop) (way : WyT) (o1 : StT) (o2 : PlT) : Nat → Int32 → Int32 → (Nat → Int32) → (Nat → Int32) → (Nat → Int32) → Int32 → Prop
  | 0 => fun _ _ _ _ _ _ => False
  | n + 1 => wp_X5_lastAtDoor_6F P way o1 o2 (wp_X5_lastAtDoor_6 P way o1 o2 n)
def wp_X5_lastAtDoor (P : Int32 → (Nat → Int32) → (Nat → Int32) → (Nat → Int32) → Int32 → Prop) (way : WyT) (o1 : StT) (o2 : PlT) : Prop :=
  ∃ n : Nat, wp_X5_lastAtDoor_6 P way o1 o2 n (-106 : Int32) (0 : Int32) way.ky way.wp way.mi way.so
def wp_X5_count (P : Int32 → (Nat → Int32) → (Nat → Int32) → (Nat → Int32) → Int32 → Prop) (now : StT) (pln : PlT) (way : WyT) (pad : PdT) (his : HiT) (x1 : Int32) : Prop :=
  wp_X5_isIn (fun r_1 =>
    ((r_1 = 0) →
      (x1 = 5 →
        P now.ri way.ky way.wp way.mi way.so) ∧
      (x1 = 6 →
        wp_X3_allPeople (fun r_4 =>
          P r_4 way.ky way.wp way.mi way.so) now) ∧
      (x1 = 7 →
        P pln.sr way.ky way.wp way.mi way.so) ∧
      (x1 = 8 →
        P pln.sp way.ky way.wp way.mi way.so) ∧
      (x1 = 9 →
        P pln.wt way.ky way.wp way.mi way.so) ∧
      (x1 = 10 →
        wp_X5_allFares (fun r_5 =>
          P r_5 way.ky way.wp way.mi way.so) now pln) ∧
      (x1 = 11 →
        wp_X2_vansWithRiders (fun r_6 =>
          P r_6 way.ky way.wp way.mi way.so) pln) ∧
      (x1 = 12 →
        wp_X5_allStops (fun r_11 ky_7 wp_8 mi_9 so_10 =>
          P r_11 ky_7 wp_8 mi_9 so_10) now pln way) ∧
      (x1 = 13 →
        wp_X5_lastAtDoor (fun r_16 ky_12 wp_13 mi_14 so_15 =>
          P r_16 ky_12 wp_13 mi_14 so_15) way now pln) ∧
      (x1 = 14 →
        P pad.ln way.ky way.wp way.mi way.so) ∧
      (x1 = 15 →
        P his.sz way.ky way.wp way.mi way.so) ∧
      ((¬ x1 = 5 ∧ ¬ x1 = 6 ∧ ¬ x1 = 7 ∧ ¬ x1 = 8 ∧ ¬ x1 = 9 ∧ ¬ x1 = 10 ∧ ¬ x1 = 11 ∧ ¬ x1 = 12 ∧ ¬ x1 = 13 ∧ ¬ x1 = 14 ∧ ¬ x1 = 15) →
        P (-102 : Int32) way.ky way.wp way.mi way.so)) ∧
    ((¬ r_1 = 0) →
      vp_in x1 5 ∧
      P (now.se x1.toNatClampNeg) way.ky way.wp way.mi way.so)) x1 (0 : Int32) (4 : Int32)
def wp_X2_isAtKerb (P : Int32 → Prop) (o0 : PlT) (o1 : StT) (x2 : Int32) (x3 : Int32) : Prop :=
  vp_in x2 24 ∧
  (((o0.rd x2.toNatClampNeg) ≤ x3) →
    vp_in x2 24 ∧
    wp_X5_isVan (fun r_4 =>
      ((r_4 = 0) →
        vp_in x2 24 ∧
        (((o1.se (1 : Int32).toNatClampNeg) < (x3 - (o0.rd x2.toNatClampNeg))) →
          P (0 : Int32)) ∧
        ((¬ (o1.se (1 : Int32).toNatClampNeg) < (x3 - (o0.rd x2.toNatClampNeg))) →
          P (1 : Int32))) ∧
      ((¬ r_4 = 0) →
        vp_in (o0.vn x2.toNatClampNeg) 8 ∧
        (((o1.le (o0.vn x2.toNatClampNeg).toNatClampNeg) ≤ x3) →
          P (0 : Int32)) ∧
        ((¬ (o1.le (o0.vn x2.toNatClampNeg).toNatClampNeg) ≤ x3) →
          P (1 : Int32)))) (o0.vn x2.toNatClampNeg)) ∧
  ((¬ (o0.rd x2.toNatClampNeg) ≤ x3) →
    P (0 : Int32))
def wp_X5_kerb_18F (P : Int32 → Prop) (now : StT) (pln : PlT) (x1 : Int32) (r18 : Int32 → Int32 → Prop) (v2 : Int32) (v3 : Int32) : Prop :=
  ((now.ri ≤ v3) →
    P v2) ∧
  ((¬ now.ri ≤ v3) →
    wp_X2_isAtKerb (fun r_4 =>
      ((r_4 = 0) →
        r18 v2 (v3 + 1)) ∧
      ((¬ r_4 = 0) →
        vp_in v3 24 ∧
        r18 (v2 + (now.pe v3.toNatClampNeg)) (v3 + 1))) pln now v3 x1)
def wp_X5_kerb_18 (P : Int32 → Prop) (now : StT) (pln : PlT) (x1 : Int32) : Nat → Int32 → Int32 → Prop
  | 0 => fun _ _ => False
  | n + 1 => wp_X5_kerb_18F P now pln x1 (wp_X5_kerb_18 P now pln x1 n)
def wp_X5_kerb (P : Int32 → Prop) (now : StT) (pln : PlT) (x1 : Int32) : Prop :=
  wp_X5_isIn (fun r_1 =>
    ((¬ r_1 = 0) →
      ∃ n : Nat, wp_X5_kerb_18 P now pln x1 n (0 : Int32) (0 : Int32)) ∧
    ((r_1 = 0) →
      P (-102 : Int32))) x1 (0 : Int32) (3000 : Int32)
def wp_X5_fullest_7F (P : Int32 → Prop) (pln : PlT) (r7 : Int32 → Int32 → Int32 → Prop) (v1 : Int32) (v2 : Int32) (v3 : Int32) : Prop :=
  (((8 : Int32) ≤ v3) →
    P v1) ∧
  ((¬ (8 : Int32) ≤ v3) →
    vp_in v3 8 ∧
    (((pln.pn v3.toNatClampNeg) ≤ v2) →
      r7 v1 v2 (v3 + 1)) ∧
    ((¬ (pln.pn v3.toNatClampNeg) ≤ v2) →
      vp_in v3 8 ∧
      r7 v3 (pln.pn v3.toNatClampNeg) (v3 + 1)))
def wp_X5_fullest_7 (P : Int32 → Prop) (pln : PlT) : Nat → Int32 → Int32 → Int32 → Prop
  | 0 => fun _ _ _ => False
  | n + 1 => wp_X5_fullest_7F P pln (wp_X5_fullest_7 P pln n)
def wp_X5_fullest (P : Int32 → Prop) (pln : PlT) : Prop :=
  ∃ n : Nat, wp_X5_fullest_7 P pln n (-106 : Int32) (0 : Int32) (0 : Int32)
def wp_X0_takeBack (P : Int32 → (Nat → Int32) → (Nat → Int32) → (Nat → Int32) → (Nat → Int32) → (Nat → Int32) → (Nat → Int32) → (Nat → Int32) → (Nat → Int32) → (Nat → Int32) → Int32 → Prop) (o0 : HiT) (o1 : StT) : Prop :=
  ((0 < o0.sz) →
    vp_in ((o0.ol + (o0.sz - (1 : Int32))) - (o0.ol + (o0.sz - (1 : Int32))) / (6 : Int32) * (6 : Int32)) 6 ∧
    ∀ j_4 : Nat, j_4 < 6 → ((o0.ol + (o0.sz - (1 : Int32))) - (o0.ol + (o0.sz - (1 : Int32))) / (6 : Int32) * (6 : Int32)) = nI j_4 →
    wp_X3_copyFrom (fun se_15 la_16 de_17 le_18 sa_19 fl_20 ar_21 dr_22 pe_23 ri_24 =>
      P (o0.sz - (1 : Int32)) se_15 la_16 de_17 le_18 sa_19 fl_20 ar_21 dr_22 pe_23 ri_24) o1 (o0.hs j_4)) ∧
  ((¬ 0 < o0.sz) →
    P o0.sz o1.se o1.la o1.de o1.le o1.sa o1.fl o1.ar o1.dr o1.pe o1.ri)
def wp_X5_undo (P : Int32 → (Nat → Int32) → (Nat → Int32) → (Nat → Int32) → (Nat → Int32) → (Nat → Int32) → (Nat → Int32) → (Nat → Int32) → (Nat → Int32) → (Nat → Int32) → Int32 → (Nat → Int32) → (Nat → Int32) → (Nat → Int32) → (Nat → Int32) → (Nat → Int32) → Int32 → Int32 → Int32 → Int32 → Prop) (now : StT) (pln : PlT) (his : HiT) : Prop :=
  ((¬ his.sz = 0) →
    wp_X0_takeBack (fun sz_2 se_3 la_4 de_5 le_6 sa_7 fl_8 ar_9 dr_10 pe_11 ri_12 =>
      wp_X2_make (fun od_13 rd_14 vn_15 pn_16 ao_17 sr_18 sp_19 wt_20 =>
        P sz_2 se_3 la_4 de_5 le_6 sa_7 fl_8 ar_9 dr_10 pe_11 ri_12 od_13 rd_14 vn_15 pn_16 ao_17 sr_18 sp_19 wt_20 sz_2) pln (mkSt se_3 la_4 de_5 le_6 sa_7 fl_8 ar_9 dr_10 pe_11 ri_12)) his now) ∧
  ((his.sz = 0) →
    P (-105 : Int32) now.se now.la now.de now.le now.sa now.fl now.ar now.dr now.pe now.ri pln.od pln.rd pln.vn pln.pn pln.ao pln.sr pln.sp pln.wt his.sz)
def wp_L_low (P : Int32 → Prop) (x0 : Int32) (x1 : Int32) : Prop :=
  ¬ x1 = 0 ∧
  P ((x0 &&& (2147483647 : Int32)) - (x0 &&& (2147483647 : Int32)) / x1 * x1)
def wp_L_flightOf (P : Int32 → Prop) (x0 : Int32) : Prop :=
  P (x0 &&& (7 : Int32))
def wp_L_areaOf (P : Int32 → Prop) (x0 : Int32) : Prop :=
  P ((x0 >>> ((3 : Int32) &&& 31)) &&& (7 : Int32))
def wp_L_doorOf (P : Int32 → Prop) (x0 : Int32) : Prop :=
  P ((x0 >>> ((6 : Int32) &&& 31)) &&& (127 : Int32))
def wp_L_people (P : Int32 → Prop) (x0 : Int32) : Prop :=
  P (x0 >>> ((13 : Int32) &&& 31))
def wp_L_ready (P : Int32 → Prop) (lq : Nat → Int32) (x0 : Int32) : Prop :=
  wp_L_flightOf (fun r_1 =>
    vp_in ((6 : Int32) + r_1) 34 ∧
    wp_L_flightOf (fun r_3 =>
      vp_in ((12 : Int32) + r_3) 34 ∧
      P (((lq ((6 : Int32) + r_1).toNatClampNeg) + (lq ((12 : Int32) + r_3).toNatClampNeg)) + (lq (0 : Int32).toNatClampNeg))) x0) x0
def wp_L_ones_4F (P : Int32 → Prop) (x0 : Int32) (r4 : Int32 → Int32 → Prop) (v1 : Int32) (v2 : Int32) : Prop :=
  ((v2 = 0) →
    P v1) ∧
  ((¬ v2 = 0) →
    r4 (v1 + 1) (v2 &&& (v2 - (1 : Int32))))
def wp_L_ones_4 (P : Int32 → Prop) (x0 : Int32) : Nat → Int32 → Int32 → Prop
  | 0 => fun _ _ => False
  | n + 1 => wp_L_ones_4F P x0 (wp_L_ones_4 P x0 n)
def wp_L_ones (P : Int32 → Prop) (x0 : Int32) : Prop :=
  ∃ n : Nat, wp_L_ones_4 P x0 n (0 : Int32) x0
def wp_L_gives_59 (P : (Nat → Int32) → (Nat → Int32) → (Nat → Int32) → Prop) (lq : Nat → Int32) (lr : Nat → Int32) (lw : Nat → Int32) (lo : Nat → Int32) (lg : Nat → Int32) (r3 : Int32 → (Nat → Int32) → Prop) (v5 : Int32) (v6 : Int32) (nlw : Nat → Int32) (nlo : Nat → Int32) (nlg : Nat → Int32) : Prop :=
  vp_in v6 24 ∧
  r3 (v5 + 1) (upd nlo v6.toNatClampNeg v5)
def wp_L_gives_15F (P : (Nat → Int32) → (Nat → Int32) → (Nat → Int32) → Prop) (lq : Nat → Int32) (lr : Nat → Int32) (lw : Nat → Int32) (lo : Nat → Int32) (lg : Nat → Int32) (r3 : Int32 → (Nat → Int32) → Prop) (v5 : Int32) (nlw : Nat → Int32) (nlg : Nat → Int32) (r15 : Int32 → (Nat → Int32) → Prop) (v6 : Int32) (nlo : Nat → Int32) : Prop :=
  ((v6 ≤ 0) →
    wp_L_gives_59 P lq lr lw lo lg r3 v5 v6 nlw nlo nlg) ∧
  ((¬ v6 ≤ 0) →
    vp_in (v6 - (1 : Int32)) 24 ∧
    vp_in (nlo (v6 - (1 : Int32)).toNatClampNeg) 24 ∧
    wp_L_ready (fun r_8 =>
      vp_in v5 24 ∧
      wp_L_ready (fun r_10 =>
        ((r_8 ≤ r_10) →
          wp_L_gives_59 P lq lr lw lo lg r3 v5 v6 nlw nlo nlg) ∧
        ((¬ r_8 ≤ r_10) →
          vp_in (v6 - (1 : Int32)) 24 ∧
          vp_in v6 24 ∧
          r15 (v6 + (-1)) (upd nlo v6.toNatClampNeg (nlo (v6 - (1 : Int32)).toNatClampNeg)))) lq (lr v5.toNatClampNeg)) lq (lr (nlo (v6 - (1 : Int32)).toNatClampNeg).toNatClampNeg))
def wp_L_gives_15 (P : (Nat → Int32) → (Nat → Int32) → (Nat → Int32) → Prop) (lq : Nat → Int32) (lr : Nat → Int32) (lw : Nat → Int32) (lo : Nat → Int32) (lg : Nat → Int32) (r3 : Int32 → (Nat → Int32) → Prop) (v5 : Int32) (nlw : Nat → Int32) (nlg : Nat → Int32) : Nat → Int32 → (Nat → Int32) → Prop
  | 0 => fun _ _ => False
  | n + 1 => wp_L_gives_15F P lq lr lw lo lg r3 v5 nlw nlg (wp_L_gives_15 P lq lr lw lo lg r3 v5 nlw nlg n)
def wp_L_gives_204 (P : (Nat → Int32) → (Nat → Int32) → (Nat → Int32) → Prop) (lq : Nat → Int32) (lr : Nat → Int32) (lw : Nat → Int32) (lo : Nat → Int32) (lg : Nat → Int32) (r96 : Int32 → (Nat → Int32) → (Nat → Int32) → Prop) (r119 : Int32 → Int32 → Prop) (v5 : Int32) (v6 : Int32) (v7 : Int32) (v8 : Int32) (w0 : Int32) (nlw : Nat → Int32) (nlo : Nat → Int32) (nlg : Nat → Int32) : Prop :=
  ((w0 = 0) →
    r119 v7 (v8 + (-1))) ∧
  ((¬ w0 = 0) →
    ((v7 < 0) →
      r119 v8 (v8 + (-1))) ∧
    ((¬ v7 < 0) →
      vp_in ((18 : Int32) + v8) 34 ∧
      vp_in ((18 : Int32) + v7) 34 ∧
      (((lq ((18 : Int32) + v7).toNatClampNeg) < (lq ((18 : Int32) + v8).toNatClampNeg)) →
        r119 v7 (v8 + (-1))) ∧
      ((¬ (lq ((18 : Int32) + v7).toNatClampNeg) < (lq ((18 : Int32) + v8).toNatClampNeg)) →
        r119 v8 (v8 + (-1)))))
def wp_L_gives_119F (P : (Nat → Int32) → (Nat → Int32) → (Nat → Int32) → Prop) (lq : Nat → Int32) (lr : Nat → Int32) (lw : Nat → Int32) (lo : Nat → Int32) (lg : Nat → Int32) (r96 : Int32 → (Nat → Int32) → (Nat → Int32) → Prop) (v5 : Int32) (v6 : Int32) (nlw : Nat → Int32) (nlo : Nat → Int32) (nlg : Nat → Int32) (r119 : Int32 → Int32 → Prop) (v7 : Int32) (v8 : Int32) : Prop :=
  ((v8 < 0) →
    vp_in v5 24 ∧
    vp_in (nlo v5.toNatClampNeg) 24 ∧
    ((v7 < 0) →
      r96 (v5 + 1) (upd nlw (nlo v5.toNatClampNeg).toNatClampNeg v7) nlg) ∧
    ((¬ v7 < 0) →
      vp_in v7 16 ∧
      wp_L_people (fun r_24 =>
        vp_in v7 16 ∧
        vp_in ((8 : Int32) + v7) 16 ∧
        wp_L_areaOf (fun r_27 =>
          vp_in ((8 : Int32) + v7) 16 ∧
          r96 (v5 + 1) (upd nlw (nlo v5.toNatClampNeg).toNatClampNeg v7) (upd (upd nlg v7.toNatClampNeg ((nlg v7.toNatClampNeg) + r_24)) ((8 : Int32) + v7).toNatClampNeg (((upd nlg v7.toNatClampNeg ((nlg v7.toNatClampNeg) + r_24)) ((8 : Int32) + v7).toNatClampNeg) ||| ((1 : Int32) <<< (r_27 &&& 31))))) v6) v6)) ∧
  ((¬ v8 < 0) →
    vp_in ((18 : Int32) + v8) 34 ∧
    wp_L_ready (fun r_30 =>
      ((((lq ((18 : Int32) + v8).toNatClampNeg) - r_30) < 0) →
        wp_L_gives_204 P lq lr lw lo lg r96 r119 v5 v6 v7 v8 (0 : Int32) nlw nlo nlg) ∧
      ((¬ ((lq ((18 : Int32) + v8).toNatClampNeg) - r_30) < 0) →
        (((lq (1 : Int32).toNatClampNeg) < ((lq ((18 : Int32) + v8).toNatClampNeg) - r_30)) →
          wp_L_gives_204 P lq lr lw lo lg r96 r119 v5 v6 v7 v8 (0 : Int32) nlw nlo nlg) ∧
        ((¬ (lq (1 : Int32).toNatClampNeg) < ((lq ((18 : Int32) + v8).toNatClampNeg) - r_30)) →
          vp_in v8 16 ∧
          wp_L_people (fun r_35 =>
            vp_in ((26 : Int32) + v8) 34 ∧
            (((lq ((26 : Int32) + v8).toNatClampNeg) < ((nlg v8.toNatClampNeg) + r_35)) →
              wp_L_gives_204 P lq lr lw lo lg r96 r119 v5 v6 v7 v8 (0 : Int32) nlw nlo nlg) ∧
            ((¬ (lq ((26 : Int32) + v8).toNatClampNeg) < ((nlg v8.toNatClampNeg) + r_35)) →
              vp_in ((8 : Int32) + v8) 16 ∧
              wp_L_areaOf (fun r_39 =>
                wp_L_ones (fun r_40 =>
                  (((lq (2 : Int32).toNatClampNeg) < r_40) →
                    wp_L_gives_204 P lq lr lw lo lg r96 r119 v5 v6 v7 v8 (0 : Int32) nlw nlo nlg) ∧
                  ((¬ (lq (2 : Int32).toNatClampNeg) < r_40) →
                    wp_L_gives_204 P lq lr lw lo lg r96 r119 v5 v6 v7 v8 (1 : Int32) nlw nlo nlg)) ((nlg ((8 : Int32) + v8).toNatClampNeg) ||| ((1 : Int32) <<< (r_39 &&& 31)))) v6)) v6))) lq v6)
def wp_L_gives_119 (P : (Nat → Int32) → (Nat → Int32) → (Nat → Int32) → Prop) (lq : Nat → Int32) (lr : Nat → Int32) (lw : Nat → Int32) (lo : Nat → Int32) (lg : Nat → Int32) (r96 : Int32 → (Nat → Int32) → (Nat → Int32) → Prop) (v5 : Int32) (v6 : Int32) (nlw : Nat → Int32) (nlo : Nat → Int32) (nlg : Nat → Int32) : Nat → Int32 → Int32 → Prop
  | 0 => fun _ _ => False
  | n + 1 => wp_L_gives_119F P lq lr lw lo lg r96 v5 v6 nlw nlo nlg (wp_L_gives_119 P lq lr lw lo lg r96 v5 v6 nlw nlo nlg n)
def wp_L_gives_96F (P : (Nat → Int32) → (Nat → Int32) → (Nat → Int32) → Prop) (lq : Nat → Int32) (lr : Nat → Int32) (lw : Nat → Int32) (lo : Nat → Int32) (lg : Nat → Int32) (nlo : Nat → Int32) (r96 : Int32 → (Nat → Int32) → (Nat → Int32) → Prop) (v5 : Int32) (nlw : Nat → Int32) (nlg : Nat → Int32) : Prop :=
  (((lq (5 : Int32).toNatClampNeg) ≤ v5) →
    P nlw nlo nlg) ∧
  ((¬ (lq (5 : Int32).toNatClampNeg) ≤ v5) →
    vp_in v5 24 ∧
    vp_in (nlo v5.toNatClampNeg) 24 ∧
    ∃ n : Nat, wp_L_gives_119 P lq lr lw lo lg r96 v5 (lr (nlo v5.toNatClampNeg).toNatClampNeg) nlw nlo nlg n (-1 : Int32) (7 : Int32))
def wp_L_gives_96 (P : (Nat → Int32) → (Nat → Int32) → (Nat → Int32) → Prop) (lq : Nat → Int32) (lr : Nat → Int32) (lw : Nat → Int32) (lo : Nat → Int32) (lg : Nat → Int32) (nlo : Nat → Int32) : Nat → Int32 → (Nat → Int32) → (Nat → Int32) → Prop
  | 0 => fun _ _ _ => False
  | n + 1 => wp_L_gives_96F P lq lr lw lo lg nlo (wp_L_gives_96 P lq lr lw lo lg nlo n)
def wp_L_gives_74F (P : (Nat → Int32) → (Nat → Int32) → (Nat → Int32) → Prop) (lq : Nat → Int32) (lr : Nat → Int32) (lw : Nat → Int32) (lo : Nat → Int32) (lg : Nat → Int32) (nlw : Nat → Int32) (nlo : Nat → Int32) (r74 : Int32 → (Nat → Int32) → Prop) (v5 : Int32) (nlg : Nat → Int32) : Prop :=
  (((16 : Int32) ≤ v5) →
    ∃ n : Nat, wp_L_gives_96 P lq lr lw lo lg nlo n (0 : Int32) nlw nlg) ∧
  ((¬ (16 : Int32) ≤ v5) →
    vp_in v5 16 ∧
    r74 (v5 + 1) (upd nlg v5.toNatClampNeg (0 : Int32)))
def wp_L_gives_74 (P : (Nat → Int32) → (Nat → Int32) → (Nat → Int32) → Prop) (lq : Nat → Int32) (lr : Nat → Int32) (lw : Nat → Int32) (lo : Nat → Int32) (lg : Nat → Int32) (nlw : Nat → Int32) (nlo : Nat → Int32) : Nat → Int32 → (Nat → Int32) → Prop
  | 0 => fun _ _ => False
  | n + 1 => wp_L_gives_74F P lq lr lw lo lg nlw nlo (wp_L_gives_74 P lq lr lw lo lg nlw nlo n)
def wp_L_gives_3F (P : (Nat → Int32) → (Nat → Int32) → (Nat → Int32) → Prop) (lq : Nat → Int32) (lr : Nat → Int32) (lw : Nat → Int32) (lo : Nat → Int32) (lg : Nat → Int32) (nlw : Nat → Int32) (nlg : Nat → Int32) (r3 : Int32 → (Nat → Int32) → Prop) (v5 : Int32) (nlo : Nat → Int32) : Prop :=
  (((lq (5 : Int32).toNatClampNeg) ≤ v5) →
    ∃ n : Nat, wp_L_gives_74 P lq lr lw lo lg nlw nlo n (0 : Int32) nlg) ∧
  ((¬ (lq (5 : Int32).toNatClampNeg) ≤ v5) →
    ∃ n : Nat, wp_L_gives_15 P lq lr lw lo lg r3 v5 nlw nlg n v5 nlo)
def wp_L_gives_3 (P : (Nat → Int32) → (Nat → Int32) → (Nat → Int32) → Prop) (lq : Nat → Int32) (lr : Nat → Int32) (lw : Nat → Int32) (lo : Nat → Int32) (lg : Nat → Int32) (nlw : Nat → Int32) (nlg : Nat → Int32) : Nat → Int32 → (Nat → Int32) → Prop
  | 0 => fun _ _ => False
  | n + 1 => wp_L_gives_3F P lq lr lw lo lg nlw nlg (wp_L_gives_3 P lq lr lw lo lg nlw nlg n)
def wp_L_gives (P : (Nat → Int32) → (Nat → Int32) → (Nat → Int32) → Prop) (lq : Nat → Int32) (lr : Nat → Int32) (lw : Nat → Int32) (lo : Nat → Int32) (lg : Nat → Int32) : Prop :=
  ∃ n : Nat, wp_L_gives_3 P lq lr lw lo lg lw lg n (0 : Int32) lo
def wp_L_keyOf (P : Int32 → Prop) (x0 : Int32) : Prop :=
  wp_L_areaOf (fun r_1 =>
    wp_L_doorOf (fun r_2 =>
      P (((100 : Int32) * r_1) + r_2)) x0) x0
def wp_L_stopsAhead_56F (P : Int32 → Prop) (lq : Nat → Int32) (lr : Nat → Int32) (lw : Nat → Int32) (x0 : Int32) (x1 : Int32) (r6 : Int32 → Int32 → Prop) (v5 : Int32) (v6 : Int32) (v7 : Int32) (r56 : Int32 → Int32 → Prop) (v8 : Int32) (v9 : Int32) : Prop :=
  ((v6 ≤ v9) →
    ((v8 = 0) →
      r6 (v5 + (0 : Int32)) (v6 + 1)) ∧
    ((¬ v8 = 0) →
      r6 (v5 + (1 : Int32)) (v6 + 1))) ∧
  ((¬ v6 ≤ v9) →
    ((v8 = 0) →
      r56 (0 : Int32) (v9 + 1)) ∧
    ((¬ v8 = 0) →
      vp_in v9 24 ∧
      ((¬ (lw v9.toNatClampNeg) = x0) →
        r56 (1 : Int32) (v9 + 1)) ∧
      (((lw v9.toNatClampNeg) = x0) →
        vp_in v9 24 ∧
        (((((lr v9.toNatClampNeg) >>> ((3 : Int32) &&& 31)) &&& (1023 : Int32)) = v7) →
          r56 (0 : Int32) (v9 + 1)) ∧
        ((¬ (((lr v9.toNatClampNeg) >>> ((3 : Int32) &&& 31)) &&& (1023 : Int32)) = v7) →
          r56 (1 : Int32) (v9 + 1)))))
def wp_L_stopsAhead_56 (P : Int32 → Prop) (lq : Nat → Int32) (lr : Nat → Int32) (lw : Nat → Int32) (x0 : Int32) (x1 : Int32) (r6 : Int32 → Int32 → Prop) (v5 : Int32) (v6 : Int32) (v7 : Int32) : Nat → Int32 → Int32 → Prop
  | 0 => fun _ _ => False
  | n + 1 => wp_L_stopsAhead_56F P lq lr lw x0 x1 r6 v5 v6 v7 (wp_L_stopsAhead_56 P lq lr lw x0 x1 r6 v5 v6 v7 n)
def wp_L_stopsAhead_6F (P : Int32 → Prop) (lq : Nat → Int32) (lr : Nat → Int32) (lw : Nat → Int32) (x0 : Int32) (x1 : Int32) (r6 : Int32 → Int32 → Prop) (v5 : Int32) (v6 : Int32) : Prop :=
  (((lq (5 : Int32).toNatClampNeg) ≤ v6) →
    P v5) ∧
  ((¬ (lq (5 : Int32).toNatClampNeg) ≤ v6) →
    vp_in v6 24 ∧
    ∀ y_4 : Int32, y_4 = (((lr v6.toNatClampNeg) >>> ((3 : Int32) &&& 31)) &&& (1023 : Int32)) →
    vp_in v6 24 ∧
    ((¬ (lw v6.toNatClampNeg) = x0) →
      ∃ n : Nat, wp_L_stopsAhead_56 P lq lr lw x0 x1 r6 v5 v6 y_4 n (0 : Int32) (0 : Int32)) ∧
    (((lw v6.toNatClampNeg) = x0) →
      vp_in v6 24 ∧
      wp_L_keyOf (fun r_8 =>
        ((x1 ≤ r_8) →
          ∃ n : Nat, wp_L_stopsAhead_56 P lq lr lw x0 x1 r6 v5 v6 y_4 n (0 : Int32) (0 : Int32)) ∧
        ((¬ x1 ≤ r_8) →
          ∃ n : Nat, wp_L_stopsAhead_56 P lq lr lw x0 x1 r6 v5 v6 y_4 n (1 : Int32) (0 : Int32))) (lr v6.toNatClampNeg)))
def wp_L_stopsAhead_6 (P : Int32 → Prop) (lq : Nat → Int32) (lr : Nat → Int32) (lw : Nat → Int32) (x0 : Int32) (x1 : Int32) : Nat → Int32 → Int32 → Prop
  | 0 => fun _ _ => False
  | n + 1 => wp_L_stopsAhead_6F P lq lr lw x0 x1 (wp_L_stopsAhead_6 P lq lr lw x0 x1 n)
def wp_L_stopsAhead (P : Int32 → Prop) (lq : Nat → Int32) (lr : Nat → Int32) (lw : Nat → Int32) (x0 : Int32) (x1 : Int32) : Prop :=
  ∃ n : Nat, wp_L_stopsAhead_6 P lq lr lw x0 x1 n (0 : Int32) (0 : Int32)
def wp_L_minuteAt_6F (P : Int32 → Prop) (lq : Nat → Int32) (lr : Nat → Int32) (lw : Nat → Int32) (x0 : Int32) (x1 : Int32) (r6 : Int32 → Int32 → Prop) (v5 : Int32) (v6 : Int32) : Prop :=
  (((lq (5 : Int32).toNatClampNeg) ≤ v6) →
    wp_L_stopsAhead (fun r_3 =>
      vp_in ((18 : Int32) + x0) 34 ∧
      wp_L_ones (fun r_5 =>
        P ((((lq ((18 : Int32) + x0).toNatClampNeg) + (10 : Int32)) + ((5 : Int32) * (x1 / (100 : Int32)))) + ((3 : Int32) * ((r_3 + (1 : Int32)) - r_5)))) v5) lq lr lw x0 x1) ∧
  ((¬ (lq (5 : Int32).toNatClampNeg) ≤ v6) →
    vp_in v6 24 ∧
    ((¬ (lw v6.toNatClampNeg) = x0) →
      r6 (v5 ||| (0 : Int32)) (v6 + 1)) ∧
    (((lw v6.toNatClampNeg) = x0) →
      vp_in v6 24 ∧
      wp_L_keyOf (fun r_9 =>
        ((x1 < r_9) →
          r6 (v5 ||| (0 : Int32)) (v6 + 1)) ∧
        ((¬ x1 < r_9) →
          vp_in v6 24 ∧
          wp_L_areaOf (fun r_12 =>
            r6 (v5 ||| ((1 : Int32) <<< (r_12 &&& 31))) (v6 + 1)) (lr v6.toNatClampNeg))) (lr v6.toNatClampNeg)))
def wp_L_minuteAt_6 (P : Int32 → Prop) (lq : Nat → Int32) (lr : Nat → Int32) (lw : Nat → Int32) (x0 : Int32) (x1 : Int32) : Nat → Int32 → Int32 → Prop
  | 0 => fun _ _ => False
  | n + 1 => wp_L_minuteAt_6F P lq lr lw x0 x1 (wp_L_minuteAt_6 P lq lr lw x0 x1 n)
def wp_L_minuteAt (P : Int32 → Prop) (lq : Nat → Int32) (lr : Nat → Int32) (lw : Nat → Int32) (x0 : Int32) (x1 : Int32) : Prop :=
  ∃ n : Nat, wp_L_minuteAt_6 P lq lr lw x0 x1 n (0 : Int32) (0 : Int32)
def wp_L_part_53 (P : Int32 → Prop) (lq : Nat → Int32) (lr : Nat → Int32) (lw : Nat → Int32) (x0 : Int32) (x1 : Int32) (x2 : Int32) (r6 : Int32 → Int32 → Prop) (v6 : Int32) (v7 : Int32) (w0 : Int32) : Prop :=
  ((w0 = 0) →
    r6 (v6 + (0 : Int32)) (v7 + 1)) ∧
  ((¬ w0 = 0) →
    vp_in v7 24 ∧
    wp_L_people (fun r_29 =>
      r6 (v6 + r_29) (v7 + 1)) (lr v7.toNatClampNeg))
def wp_L_part_165 (P : Int32 → Prop) (lq : Nat → Int32) (lr : Nat → Int32) (lw : Nat → Int32) (x0 : Int32) (x1 : Int32) (x2 : Int32) (r92 : Int32 → Int32 → Int32 → Prop) (v6 : Int32) (v8 : Int32) (v9 : Int32) (v10 : Int32) (w0 : Int32) (w1 : Int32) : Prop :=
  ((v10 = 0) →
    r92 (w0 - w1) (v8 + (0 : Int32)) (v9 + 1)) ∧
  ((¬ v10 = 0) →
    ((x0 ≤ v9) →
      r92 (w0 - w1) (v8 + (0 : Int32)) (v9 + 1)) ∧
    ((¬ x0 ≤ v9) →
      r92 (w0 - w1) (v8 + (1 : Int32)) (v9 + 1)))
def wp_L_part_139 (P : Int32 → Prop) (lq : Nat → Int32) (lr : Nat → Int32) (lw : Nat → Int32) (x0 : Int32) (x1 : Int32) (x2 : Int32) (r92 : Int32 → Int32 → Int32 → Prop) (v6 : Int32) (v7 : Int32) (v8 : Int32) (v9 : Int32) (w0 : Int32) : Prop :=
  ((w0 = 0) →
    wp_L_part_165 P lq lr lw x0 x1 x2 r92 v6 v8 v9 w0 v7 (0 : Int32)) ∧
  ((¬ w0 = 0) →
    vp_in v9 24 ∧
    wp_L_people (fun r_32 =>
      ¬ v6 = 0 ∧
      wp_L_part_165 P lq lr lw x0 x1 x2 r92 v6 v8 v9 w0 v7 ((x1 * r_32) / v6)) (lr v9.toNatClampNeg))
def wp_L_part_92F (P : Int32 → Prop) (lq : Nat → Int32) (lr : Nat → Int32) (lw : Nat → Int32) (x0 : Int32) (x1 : Int32) (x2 : Int32) (v6 : Int32) (r92 : Int32 → Int32 → Int32 → Prop) (v7 : Int32) (v8 : Int32) (v9 : Int32) : Prop :=
  (((lq (5 : Int32).toNatClampNeg) ≤ v9) →
    vp_in x0 24 ∧
    wp_L_people (fun r_15 =>
      ¬ v6 = 0 ∧
      ((v7 ≤ v8) →
        P (((x1 * r_15) / v6) + (0 : Int32))) ∧
      ((¬ v7 ≤ v8) →
        P (((x1 * r_15) / v6) + (1 : Int32)))) (lr x0.toNatClampNeg)) ∧
  ((¬ (lq (5 : Int32).toNatClampNeg) ≤ v9) →
    vp_in v9 24 ∧
    vp_in x0 24 ∧
    ((¬ (lw v9.toNatClampNeg) = (lw x0.toNatClampNeg)) →
      wp_L_part_139 P lq lr lw x0 x1 x2 r92 v6 v7 v8 v9 (0 : Int32)) ∧
    (((lw v9.toNatClampNeg) = (lw x0.toNatClampNeg)) →
      ((x2 = 0) →
        wp_L_part_139 P lq lr lw x0 x1 x2 r92 v6 v7 v8 v9 (1 : Int32)) ∧
      ((¬ x2 = 0) →
        vp_in v9 24 ∧
        wp_L_keyOf (fun r_23 =>
          vp_in x0 24 ∧
          wp_L_keyOf (fun r_25 =>
            ((¬ r_23 = r_25) →
              wp_L_part_139 P lq lr lw x0 x1 x2 r92 v6 v7 v8 v9 (0 : Int32)) ∧
            ((r_23 = r_25) →
              wp_L_part_139 P lq lr lw x0 x1 x2 r92 v6 v7 v8 v9 (1 : Int32))) (lr x0.toNatClampNeg)) (lr v9.toNatClampNeg))))
def wp_L_part_92 (P : Int32 → Prop) (lq : Nat → Int32) (lr : Nat → Int32) (lw : Nat → Int32) (x0 : Int32) (x1 : Int32) (x2 : Int32) (v6 : Int32) : Nat → Int32 → Int32 → Int32 → Prop
  | 0 => fun _ _ _ => False
  | n + 1 => wp_L_part_92F P lq lr lw x0 x1 x2 v6 (wp_L_part_92 P lq lr lw x0 x1 x2 v6 n)
def wp_L_part_6F (P : Int32 → Prop) (lq : Nat → Int32) (lr : Nat → Int32) (lw : Nat → Int32) (x0 : Int32) (x1 : Int32) (x2 : Int32) (r6 : Int32 → Int32 → Prop) (v6 : Int32) (v7 : Int32) : Prop :=
  (((lq (5 : Int32).toNatClampNeg) ≤ v7) →
    ∃ n : Nat, wp_L_part_92 P lq lr lw x0 x1 x2 v6 n x1 (0 : Int32) (0 : Int32)) ∧
  ((¬ (lq (5 : Int32).toNatClampNeg) ≤ v7) →
    vp_in v7 24 ∧
    vp_in x0 24 ∧
    ((¬ (lw v7.toNatClampNeg) = (lw x0.toNatClampNeg)) →
      wp_L_part_53 P lq lr lw x0 x1 x2 r6 v6 v7 (0 : Int32)) ∧
    (((lw v7.toNatClampNeg) = (lw x0.toNatClampNeg)) →
      ((x2 = 0) →
        wp_L_part_53 P lq lr lw x0 x1 x2 r6 v6 v7 (1 : Int32)) ∧
      ((¬ x2 = 0) →
        vp_in v7 24 ∧
        wp_L_keyOf (fun r_8 =>
          vp_in x0 24 ∧
          wp_L_keyOf (fun r_10 =>
            ((¬ r_8 = r_10) →
              wp_L_part_53 P lq lr lw x0 x1 x2 r6 v6 v7 (0 : Int32)) ∧
            ((r_8 = r_10) →
              wp_L_part_53 P lq lr lw x0 x1 x2 r6 v6 v7 (1 : Int32))) (lr x0.toNatClampNeg)) (lr v7.toNatClampNeg))))
def wp_L_part_6 (P : Int32 → Prop) (lq : Nat → Int32) (lr : Nat → Int32) (lw : Nat → Int32) (x0 : Int32) (x1 : Int32) (x2 : Int32) : Nat → Int32 → Int32 → Prop
  | 0 => fun _ _ => False
  | n + 1 => wp_L_part_6F P lq lr lw x0 x1 x2 (wp_L_part_6 P lq lr lw x0 x1 x2 n)
def wp_L_part (P : Int32 → Prop) (lq : Nat → Int32) (lr : Nat → Int32) (lw : Nat → Int32) (x0 : Int32) (x1 : Int32) (x2 : Int32) : Prop :=
  ∃ n : Nat, wp_L_part_6 P lq lr lw x0 x1 x2 n (0 : Int32) (0 : Int32)
def wp_L_isRider_176F (P : Int32 → (Nat → Int32) → (Nat → Int32) → (Nat → Int32) → Int32 → Prop) (now : StT) (pln : PlT) (way : WyT) (lq : Nat → Int32) (lr : Nat → Int32) (lw : Nat → Int32) (x1 : Int32) (v5 : Int32) (v6 : Int32) (v7 : Int32) (way_ky : Nat → Int32) (way_wp : Nat → Int32) (way_mi : Nat → Int32) (way_so : Int32) (r176 : Int32 → Int32 → Prop) (v8 : Int32) (v9 : Int32) : Prop :=
  (((lq (5 : Int32).toNatClampNeg) ≤ v9) →
    ((v7 = 0) →
      P (0 : Int32) way_ky way_wp way_mi way_so) ∧
    ((¬ v7 = 0) →
      wp_X5_rider (fun r_78 ky_74 wp_75 mi_76 so_77 =>
        vp_in ((18 : Int32) + v6) 34 ∧
        wp_L_ready (fun r_80 =>
          ((¬ r_78 = ((lq ((18 : Int32) + v6).toNatClampNeg) - r_80)) →
            P (0 : Int32) ky_74 wp_75 mi_76 so_77) ∧
          ((r_78 = ((lq ((18 : Int32) + v6).toNatClampNeg) - r_80)) →
            wp_X5_rider (fun r_86 ky_82 wp_83 mi_84 so_85 =>
              wp_L_keyOf (fun r_87 =>
                wp_L_minuteAt (fun r_88 =>
                  ((¬ r_86 = r_88) →
                    P (0 : Int32) ky_82 wp_83 mi_84 so_85) ∧
                  ((r_86 = r_88) →
                    wp_X5_rider (fun r_94 ky_90 wp_91 mi_92 so_93 =>
                      wp_L_part (fun r_96 =>
                        wp_L_part (fun r_98 =>
                          ((¬ r_94 = (r_96 + r_98)) →
                            P (0 : Int32) ky_90 wp_91 mi_92 so_93) ∧
                          ((r_94 = (r_96 + r_98)) →
                            wp_X5_rider (fun r_104 ky_100 wp_101 mi_102 so_103 =>
                              ((¬ r_104 = v8) →
                                P (0 : Int32) ky_100 wp_101 mi_102 so_103) ∧
                              ((r_104 = v8) →
                                P (1 : Int32) ky_100 wp_101 mi_102 so_103)) now pln (mkWy ky_90 wp_91 mi_92 so_93) x1 (9 : Int32))) lq lr lw x1 (lq (4 : Int32).toNatClampNeg) (1 : Int32)) lq lr lw x1 (lq (3 : Int32).toNatClampNeg) (0 : Int32)) now pln (mkWy ky_82 wp_83 mi_84 so_85) x1 (8 : Int32))) lq lr lw v6 r_87) v5) now pln (mkWy ky_74 wp_75 mi_76 so_77) x1 (7 : Int32))) lq v5) now pln (mkWy way_ky way_wp way_mi way_so) x1 (6 : Int32))) ∧
  ((¬ (lq (5 : Int32).toNatClampNeg) ≤ v9) →
    vp_in v9 24 ∧
    ((¬ (lw v9.toNatClampNeg) = v6) →
      r176 (v8 + (0 : Int32)) (v9 + 1)) ∧
    (((lw v9.toNatClampNeg) = v6) →
      vp_in v9 24 ∧
      wp_L_keyOf (fun r_109 =>
        wp_L_keyOf (fun r_110 =>
          ((¬ r_109 = r_110) →
            r176 (v8 + (0 : Int32)) (v9 + 1)) ∧
          ((r_109 = r_110) →
            r176 (v8 + (1 : Int32)) (v9 + 1))) v5) (lr v9.toNatClampNeg)))
def wp_L_isRider_176 (P : Int32 → (Nat → Int32) → (Nat → Int32) → (Nat → Int32) → Int32 → Prop) (now : StT) (pln : PlT) (way : WyT) (lq : Nat → Int32) (lr : Nat → Int32) (lw : Nat → Int32) (x1 : Int32) (v5 : Int32) (v6 : Int32) (v7 : Int32) (way_ky : Nat → Int32) (way_wp : Nat → Int32) (way_mi : Nat → Int32) (way_so : Int32) : Nat → Int32 → Int32 → Prop
  | 0 => fun _ _ => False
  | n + 1 => wp_L_isRider_176F P now pln way lq lr lw x1 v5 v6 v7 way_ky way_wp way_mi way_so (wp_L_isRider_176 P now pln way lq lr lw x1 v5 v6 v7 way_ky way_wp way_mi way_so n)
def wp_L_isRider_108 (P : Int32 → (Nat → Int32) → (Nat → Int32) → (Nat → Int32) → Int32 → Prop) (now : StT) (pln : PlT) (way : WyT) (lq : Nat → Int32) (lr : Nat → Int32) (lw : Nat → Int32) (x1 : Int32) (v5 : Int32) (v6 : Int32) (w0 : Int32) (way_ky : Nat → Int32) (way_wp : Nat → Int32) (way_mi : Nat → Int32) (way_so : Int32) : Prop :=
  ((0 ≤ v6) →
    ∃ n : Nat, wp_L_isRider_176 P now pln way lq lr lw x1 v5 v6 w0 way_ky way_wp way_mi way_so n (-1 : Int32) (0 : Int32)) ∧
  ((¬ 0 ≤ v6) →
    ((w0 = 0) →
      P (0 : Int32) way_ky way_wp way_mi way_so) ∧
    ((¬ w0 = 0) →
      wp_X5_rider (fun r_50 ky_46 wp_47 mi_48 so_49 =>
        ((¬ r_50 = (-106 : Int32)) →
          P (0 : Int32) ky_46 wp_47 mi_48 so_49) ∧
        ((r_50 = (-106 : Int32)) →
          wp_X5_rider (fun r_56 ky_52 wp_53 mi_54 so_55 =>
            ((¬ r_56 = (-106 : Int32)) →
              P (0 : Int32) ky_52 wp_53 mi_54 so_55) ∧
            ((r_56 = (-106 : Int32)) →
              wp_X5_rider (fun r_62 ky_58 wp_59 mi_60 so_61 =>
                ((¬ r_62 = 0) →
                  P (0 : Int32) ky_58 wp_59 mi_60 so_61) ∧
                ((r_62 = 0) →
                  wp_X5_rider (fun r_68 ky_64 wp_65 mi_66 so_67 =>
                    ((¬ r_68 = 0) →
                      P (0 : Int32) ky_64 wp_65 mi_66 so_67) ∧
                    ((r_68 = 0) →
                      P (1 : Int32) ky_64 wp_65 mi_66 so_67)) now pln (mkWy ky_58 wp_59 mi_60 so_61) x1 (9 : Int32))) now pln (mkWy ky_52 wp_53 mi_54 so_55) x1 (8 : Int32))) now pln (mkWy ky_46 wp_47 mi_48 so_49) x1 (7 : Int32))) now pln (mkWy way_ky way_wp way_mi way_so) x1 (6 : Int32)))
def wp_L_isRider_100 (P : Int32 → (Nat → Int32) → (Nat → Int32) → (Nat → Int32) → Int32 → Prop) (now : StT) (pln : PlT) (way : WyT) (lq : Nat → Int32) (lr : Nat → Int32) (lw : Nat → Int32) (x1 : Int32) (v5 : Int32) (v6 : Int32) (w0 : Int32) (w1 : Int32) (way_ky : Nat → Int32) (way_wp : Nat → Int32) (way_mi : Nat → Int32) (way_so : Int32) : Prop :=
  ((¬ w0 = w1) →
    wp_L_isRider_108 P now pln way lq lr lw x1 v5 v6 (0 : Int32) way_ky way_wp way_mi way_so) ∧
  ((w0 = w1) →
    wp_L_isRider_108 P now pln way lq lr lw x1 v5 v6 (1 : Int32) way_ky way_wp way_mi way_so)
def wp_L_isRider (P : Int32 → (Nat → Int32) → (Nat → Int32) → (Nat → Int32) → Int32 → Prop) (now : StT) (pln : PlT) (way : WyT) (lq : Nat → Int32) (lr : Nat → Int32) (lw : Nat → Int32) (x1 : Int32) : Prop :=
  vp_in x1 24 ∧
  vp_in x1 24 ∧
  wp_X5_rider (fun r_7 ky_3 wp_4 mi_5 so_6 =>
    wp_L_flightOf (fun r_8 =>
      ((¬ r_7 = r_8) →
        wp_L_isRider_108 P now pln way lq lr lw x1 (lr x1.toNatClampNeg) (lw x1.toNatClampNeg) (0 : Int32) ky_3 wp_4 mi_5 so_6) ∧
      ((r_7 = r_8) →
        wp_X5_rider (fun r_14 ky_10 wp_11 mi_12 so_13 =>
          wp_L_areaOf (fun r_15 =>
            ((¬ r_14 = r_15) →
              wp_L_isRider_108 P now pln way lq lr lw x1 (lr x1.toNatClampNeg) (lw x1.toNatClampNeg) (0 : Int32) ky_10 wp_11 mi_12 so_13) ∧
            ((r_14 = r_15) →
              wp_X5_rider (fun r_21 ky_17 wp_18 mi_19 so_20 =>
                wp_L_doorOf (fun r_22 =>
                  ((¬ r_21 = r_22) →
                    wp_L_isRider_108 P now pln way lq lr lw x1 (lr x1.toNatClampNeg) (lw x1.toNatClampNeg) (0 : Int32) ky_17 wp_18 mi_19 so_20) ∧
                  ((r_21 = r_22) →
                    wp_X5_rider (fun r_28 ky_24 wp_25 mi_26 so_27 =>
                      wp_L_people (fun r_29 =>
                        ((¬ r_28 = r_29) →
                          wp_L_isRider_108 P now pln way lq lr lw x1 (lr x1.toNatClampNeg) (lw x1.toNatClampNeg) (0 : Int32) ky_24 wp_25 mi_26 so_27) ∧
                        ((r_28 = r_29) →
                          wp_X5_rider (fun r_35 ky_31 wp_32 mi_33 so_34 =>
                            wp_L_ready (fun r_36 =>
                              ((¬ r_35 = r_36) →
                                wp_L_isRider_108 P now pln way lq lr lw x1 (lr x1.toNatClampNeg) (lw x1.toNatClampNeg) (0 : Int32) ky_31 wp_32 mi_33 so_34) ∧
                              ((r_35 = r_36) →
                                wp_X5_rider (fun r_42 ky_38 wp_39 mi_40 so_41 =>
                                  ((0 ≤ (lw x1.toNatClampNeg)) →
                                    wp_L_isRider_100 P now pln way lq lr lw x1 (lr x1.toNatClampNeg) (lw x1.toNatClampNeg) r_42 (lw x1.toNatClampNeg) ky_38 wp_39 mi_40 so_41) ∧
                                  ((¬ 0 ≤ (lw x1.toNatClampNeg)) →
                                    wp_L_isRider_100 P now pln way lq lr lw x1 (lr x1.toNatClampNeg) (lw x1.toNatClampNeg) r_42 (-106 : Int32) ky_38 wp_39 mi_40 so_41)) now pln (mkWy ky_31 wp_32 mi_33 so_34) x1 (5 : Int32))) lq (lr x1.toNatClampNeg)) now pln (mkWy ky_24 wp_25 mi_26 so_27) x1 (4 : Int32))) (lr x1.toNatClampNeg)) now pln (mkWy ky_17 wp_18 mi_19 so_20) x1 (3 : Int32))) (lr x1.toNatClampNeg)) now pln (mkWy ky_10 wp_11 mi_12 so_13) x1 (2 : Int32))) (lr x1.toNatClampNeg)) now pln (mkWy ky_3 wp_4 mi_5 so_6) x1 (1 : Int32))) (lr x1.toNatClampNeg)) now pln way x1 (0 : Int32)
def wp_L_isVan_94 (P : Int32 → (Nat → Int32) → (Nat → Int32) → (Nat → Int32) → Int32 → Prop) (now : StT) (pln : PlT) (way : WyT) (lq : Nat → Int32) (lr : Nat → Int32) (lw : Nat → Int32) (lg : Nat → Int32) (x1 : Int32) (x2 : Int32) (r29 : Int32 → Int32 → Int32 → Int32 → Prop) (v7 : Int32) (v9 : Int32) (v10 : Int32) (v11 : Int32) (v12 : Int32) (w0 : Int32) (way_ky : Nat → Int32) (way_wp : Nat → Int32) (way_mi : Nat → Int32) (way_so : Int32) : Prop :=
  vp_in v12 24 ∧
  ((¬ (lw v12.toNatClampNeg) = x1) →
    r29 v7 w0 v9 (v12 + 1)) ∧
  (((lw v12.toNatClampNeg) = x1) →
    vp_in v12 24 ∧
    wp_L_keyOf (fun r_121 =>
      wp_L_stopsAhead (fun r_122 =>
        ((¬ r_122 = x2) →
          r29 v7 w0 v9 (v12 + 1)) ∧
        ((r_122 = x2) →
          vp_in v12 24 ∧
          wp_L_keyOf (fun r_125 =>
            r29 v7 w0 r_125 (v12 + 1)) (lr v12.toNatClampNeg))) lq lr lw x1 r_121) (lr v12.toNatClampNeg))
def wp_L_isVan_56 (P : Int32 → (Nat → Int32) → (Nat → Int32) → (Nat → Int32) → Int32 → Prop) (now : StT) (pln : PlT) (way : WyT) (lq : Nat → Int32) (lr : Nat → Int32) (lw : Nat → Int32) (lg : Nat → Int32) (x1 : Int32) (x2 : Int32) (r29 : Int32 → Int32 → Int32 → Int32 → Prop) (v8 : Int32) (v9 : Int32) (v10 : Int32) (v11 : Int32) (v12 : Int32) (w0 : Int32) (w1 : Int32) (way_ky : Nat → Int32) (way_wp : Nat → Int32) (way_mi : Nat → Int32) (way_so : Int32) : Prop :=
  vp_in v12 24 ∧
  ((¬ (lw v12.toNatClampNeg) = x1) →
    wp_L_isVan_94 P now pln way lq lr lw lg x1 x2 r29 (w0 ||| w1) v9 v10 v11 v12 v8 way_ky way_wp way_mi way_so) ∧
  (((lw v12.toNatClampNeg) = x1) →
    vp_in v12 24 ∧
    wp_L_keyOf (fun r_65 =>
      ((r_65 ≤ v8) →
        wp_L_isVan_94 P now pln way lq lr lw lg x1 x2 r29 (w0 ||| w1) v9 v10 v11 v12 v8 way_ky way_wp way_mi way_so) ∧
      ((¬ r_65 ≤ v8) →
        vp_in v12 24 ∧
        wp_L_keyOf (fun r_68 =>
          wp_L_isVan_94 P now pln way lq lr lw lg x1 x2 r29 (w0 ||| w1) v9 v10 v11 v12 r_68 way_ky way_wp way_mi way_so) (lr v12.toNatClampNeg))) (lr v12.toNatClampNeg))
def wp_L_isVan_349 (P : Int32 → (Nat → Int32) → (Nat → Int32) → (Nat → Int32) → Int32 → Prop) (now : StT) (pln : PlT) (way : WyT) (lq : Nat → Int32) (lr : Nat → Int32) (lw : Nat → Int32) (lg : Nat → Int32) (x1 : Int32) (x2 : Int32) (v9 : Int32) (v10 : Int32) (v11 : Int32) (w0 : Int32) (way_ky : Nat → Int32) (way_wp : Nat → Int32) (way_mi : Nat → Int32) (way_so : Int32) : Prop :=
  ((x2 < v10) →
    ((w0 = 0) →
      P (0 : Int32) way_ky way_wp way_mi way_so) ∧
    ((¬ w0 = 0) →
      wp_X5_stop (fun r_75 ky_71 wp_72 mi_73 so_74 =>
        ((¬ r_75 = (v9 / (100 : Int32))) →
          P (0 : Int32) ky_71 wp_72 mi_73 so_74) ∧
        ((r_75 = (v9 / (100 : Int32))) →
          wp_X5_stop (fun r_81 ky_77 wp_78 mi_79 so_80 =>
            ((¬ r_81 = (v9 - v9 / (100 : Int32) * (100 : Int32))) →
              P (0 : Int32) ky_77 wp_78 mi_79 so_80) ∧
            ((r_81 = (v9 - v9 / (100 : Int32) * (100 : Int32))) →
              wp_X5_stop (fun r_87 ky_83 wp_84 mi_85 so_86 =>
                wp_L_minuteAt (fun r_88 =>
                  ((¬ r_87 = r_88) →
                    P (0 : Int32) ky_83 wp_84 mi_85 so_86) ∧
                  ((r_87 = r_88) →
                    wp_X5_stop (fun r_94 ky_90 wp_91 mi_92 so_93 =>
                      ((¬ r_94 = v11) →
                        P (0 : Int32) ky_90 wp_91 mi_92 so_93) ∧
                      ((r_94 = v11) →
                        wp_X5_stop (fun r_100 ky_96 wp_97 mi_98 so_99 =>
                          ((¬ r_100 = (-102 : Int32)) →
                            P (0 : Int32) ky_96 wp_97 mi_98 so_99) ∧
                          ((r_100 = (-102 : Int32)) →
                            P (1 : Int32) ky_96 wp_97 mi_98 so_99)) now pln (mkWy ky_90 wp_91 mi_92 so_93) x1 x2 (4 : Int32))) now pln (mkWy ky_83 wp_84 mi_85 so_86) x1 x2 (3 : Int32))) lq lr lw x1 v9) now pln (mkWy ky_77 wp_78 mi_79 so_80) x1 x2 (2 : Int32))) now pln (mkWy ky_71 wp_72 mi_73 so_74) x1 x2 (1 : Int32))) now pln (mkWy way_ky way_wp way_mi way_so) x1 x2 (0 : Int32))) ∧
  ((¬ x2 < v10) →
    ((w0 = 0) →
      P (0 : Int32) way_ky way_wp way_mi way_so) ∧
    ((¬ w0 = 0) →
      wp_X5_stop (fun r_107 ky_103 wp_104 mi_105 so_106 =>
        ((¬ r_107 = (-101 : Int32)) →
          P (0 : Int32) ky_103 wp_104 mi_105 so_106) ∧
        ((r_107 = (-101 : Int32)) →
          P (1 : Int32) ky_103 wp_104 mi_105 so_106)) now pln (mkWy way_ky way_wp way_mi way_so) x1 x2 (0 : Int32)))
def wp_L_isVan_341 (P : Int32 → (Nat → Int32) → (Nat → Int32) → (Nat → Int32) → Int32 → Prop) (now : StT) (pln : PlT) (way : WyT) (lq : Nat → Int32) (lr : Nat → Int32) (lw : Nat → Int32) (lg : Nat → Int32) (x1 : Int32) (x2 : Int32) (v9 : Int32) (v10 : Int32) (v11 : Int32) (w0 : Int32) (w1 : Int32) (way_ky : Nat → Int32) (way_wp : Nat → Int32) (way_mi : Nat → Int32) (way_so : Int32) : Prop :=
  ((¬ w0 = w1) →
    wp_L_isVan_349 P now pln way lq lr lw lg x1 x2 v9 v10 v11 (0 : Int32) way_ky way_wp way_mi way_so) ∧
  ((w0 = w1) →
    wp_L_isVan_349 P now pln way lq lr lw lg x1 x2 v9 v10 v11 (1 : Int32) way_ky way_wp way_mi way_so)
def wp_L_isVan_312 (P : Int32 → (Nat → Int32) → (Nat → Int32) → (Nat → Int32) → Int32 → Prop) (now : StT) (pln : PlT) (way : WyT) (lq : Nat → Int32) (lr : Nat → Int32) (lw : Nat → Int32) (lg : Nat → Int32) (x1 : Int32) (x2 : Int32) (v9 : Int32) (v10 : Int32) (v11 : Int32) (w0 : Int32) (w1 : Int32) (way_ky : Nat → Int32) (way_wp : Nat → Int32) (way_mi : Nat → Int32) (way_so : Int32) : Prop :=
  ((¬ w0 = w1) →
    wp_L_isVan_349 P now pln way lq lr lw lg x1 x2 v9 v10 v11 (0 : Int32) way_ky way_wp way_mi way_so) ∧
  ((w0 = w1) →
    wp_X5_vanOf (fun r_114 ky_110 wp_111 mi_112 so_113 =>
      ((¬ v10 = 0) →
        wp_L_isVan_341 P now pln way lq lr lw lg x1 x2 v9 v10 v11 r_114 ((lq (3 : Int32).toNatClampNeg) + ((lq (4 : Int32).toNatClampNeg) * v10)) ky_110 wp_111 mi_112 so_113) ∧
      ((v10 = 0) →
        wp_L_isVan_341 P now pln way lq lr lw lg x1 x2 v9 v10 v11 r_114 (0 : Int32) ky_110 wp_111 mi_112 so_113)) now pln (mkWy way_ky way_wp way_mi way_so) x1 (7 : Int32))
def wp_L_isVan_150F (P : Int32 → (Nat → Int32) → (Nat → Int32) → (Nat → Int32) → Int32 → Prop) (now : StT) (pln : PlT) (way : WyT) (lq : Nat → Int32) (lr : Nat → Int32) (lw : Nat → Int32) (lg : Nat → Int32) (x1 : Int32) (x2 : Int32) (v7 : Int32) (v8 : Int32) (v9 : Int32) (v10 : Int32) (way_ky : Nat → Int32) (way_wp : Nat → Int32) (way_mi : Nat → Int32) (way_so : Int32) (r150 : Int32 → Int32 → Prop) (v11 : Int32) (v12 : Int32) : Prop :=
  (((lq (5 : Int32).toNatClampNeg) ≤ v12) →
    wp_X5_vanOf (fun r_12 ky_8 wp_9 mi_10 so_11 =>
      vp_in ((18 : Int32) + x1) 34 ∧
      ((¬ r_12 = (lq ((18 : Int32) + x1).toNatClampNeg)) →
        wp_L_isVan_349 P now pln way lq lr lw lg x1 x2 v9 v10 v11 (0 : Int32) ky_8 wp_9 mi_10 so_11) ∧
      ((r_12 = (lq ((18 : Int32) + x1).toNatClampNeg)) →
        wp_X5_vanOf (fun r_19 ky_15 wp_16 mi_17 so_18 =>
          vp_in ((26 : Int32) + x1) 34 ∧
          ((¬ r_19 = (lq ((26 : Int32) + x1).toNatClampNeg)) →
            wp_L_isVan_349 P now pln way lq lr lw lg x1 x2 v9 v10 v11 (0 : Int32) ky_15 wp_16 mi_17 so_18) ∧
          ((r_19 = (lq ((26 : Int32) + x1).toNatClampNeg)) →
            wp_X5_vanOf (fun r_26 ky_22 wp_23 mi_24 so_25 =>
              vp_in x1 16 ∧
              ((¬ r_26 = (lg x1.toNatClampNeg)) →
                wp_L_isVan_349 P now pln way lq lr lw lg x1 x2 v9 v10 v11 (0 : Int32) ky_22 wp_23 mi_24 so_25) ∧
              ((r_26 = (lg x1.toNatClampNeg)) →
                wp_X5_vanOf (fun r_33 ky_29 wp_30 mi_31 so_32 =>
                  ((¬ r_33 = v7) →
                    wp_L_isVan_349 P now pln way lq lr lw lg x1 x2 v9 v10 v11 (0 : Int32) ky_29 wp_30 mi_31 so_32) ∧
                  ((r_33 = v7) →
                    wp_X5_vanOf (fun r_39 ky_35 wp_36 mi_37 so_38 =>
                      vp_in ((8 : Int32) + x1) 16 ∧
                      ((¬ r_39 = (lg ((8 : Int32) + x1).toNatClampNeg)) →
                        wp_L_isVan_349 P now pln way lq lr lw lg x1 x2 v9 v10 v11 (0 : Int32) ky_35 wp_36 mi_37 so_38) ∧
                      ((r_39 = (lg ((8 : Int32) + x1).toNatClampNeg)) →
                        wp_X5_vanOf (fun r_46 ky_42 wp_43 mi_44 so_45 =>
                          ((¬ r_46 = v10) →
                            wp_L_isVan_349 P now pln way lq lr lw lg x1 x2 v9 v10 v11 (0 : Int32) ky_42 wp_43 mi_44 so_45) ∧
                          ((r_46 = v10) →
                            wp_X5_vanOf (fun r_52 ky_48 wp_49 mi_50 so_51 =>
                              ((¬ v10 = 0) →
                                wp_L_minuteAt (fun r_54 =>
                                  wp_L_isVan_312 P now pln way lq lr lw lg x1 x2 v9 v10 v11 r_52 r_54 ky_48 wp_49 mi_50 so_51) lq lr lw x1 v8) ∧
                              ((v10 = 0) →
                                wp_L_isVan_312 P now pln way lq lr lw lg x1 x2 v9 v10 v11 r_52 (-106 : Int32) ky_48 wp_49 mi_50 so_51)) now pln (mkWy ky_42 wp_43 mi_44 so_45) x1 (6 : Int32))) now pln (mkWy ky_35 wp_36 mi_37 so_38) x1 (5 : Int32))) now pln (mkWy ky_29 wp_30 mi_31 so_32) x1 (4 : Int32))) now pln (mkWy ky_22 wp_23 mi_24 so_25) x1 (3 : Int32))) now pln (mkWy ky_15 wp_16 mi_17 so_18) x1 (2 : Int32))) now pln (mkWy ky_8 wp_9 mi_10 so_11) x1 (1 : Int32))) now pln (mkWy way_ky way_wp way_mi way_so) x1 (0 : Int32)) ∧
  ((¬ (lq (5 : Int32).toNatClampNeg) ≤ v12) →
    vp_in v12 24 ∧
    ((¬ (lw v12.toNatClampNeg) = x1) →
      r150 (v11 + (0 : Int32)) (v12 + 1)) ∧
    (((lw v12.toNatClampNeg) = x1) →
      vp_in v12 24 ∧
      wp_L_keyOf (fun r_58 =>
        ((¬ r_58 = v9) →
          r150 (v11 + (0 : Int32)) (v12 + 1)) ∧
        ((r_58 = v9) →
          vp_in v12 24 ∧
          wp_L_people (fun r_61 =>
            r150 (v11 + r_61) (v12 + 1)) (lr v12.toNatClampNeg))) (lr v12.toNatClampNeg)))
def wp_L_isVan_150 (P : Int32 → (Nat → Int32) → (Nat → Int32) → (Nat → Int32) → Int32 → Prop) (now : StT) (pln : PlT) (way : WyT) (lq : Nat → Int32) (lr : Nat → Int32) (lw : Nat → Int32) (lg : Nat → Int32) (x1 : Int32) (x2 : Int32) (v7 : Int32) (v8 : Int32) (v9 : Int32) (v10 : Int32) (way_ky : Nat → Int32) (way_wp : Nat → Int32) (way_mi : Nat → Int32) (way_so : Int32) : Nat → Int32 → Int32 → Prop
  | 0 => fun _ _ => False
  | n + 1 => wp_L_isVan_150F P now pln way lq lr lw lg x1 x2 v7 v8 v9 v10 way_ky way_wp way_mi way_so (wp_L_isVan_150 P now pln way lq lr lw lg x1 x2 v7 v8 v9 v10 way_ky way_wp way_mi way_so n)
def wp_L_isVan_29F (P : Int32 → (Nat → Int32) → (Nat → Int32) → (Nat → Int32) → Int32 → Prop) (now : StT) (pln : PlT) (way : WyT) (lq : Nat → Int32) (lr : Nat → Int32) (lw : Nat → Int32) (lg : Nat → Int32) (x1 : Int32) (x2 : Int32) (v10 : Int32) (v11 : Int32) (way_ky : Nat → Int32) (way_wp : Nat → Int32) (way_mi : Nat → Int32) (way_so : Int32) (r29 : Int32 → Int32 → Int32 → Int32 → Prop) (v7 : Int32) (v8 : Int32) (v9 : Int32) (v12 : Int32) : Prop :=
  (((lq (5 : Int32).toNatClampNeg) ≤ v12) →
    ∃ n : Nat, wp_L_isVan_150 P now pln way lq lr lw lg x1 x2 v7 v8 v9 v10 way_ky way_wp way_mi way_so n v11 (0 : Int32)) ∧
  ((¬ (lq (5 : Int32).toNatClampNeg) ≤ v12) →
    vp_in v12 24 ∧
    ((¬ (lw v12.toNatClampNeg) = x1) →
      wp_L_isVan_56 P now pln way lq lr lw lg x1 x2 r29 v8 v9 v10 v11 v12 v7 (0 : Int32) way_ky way_wp way_mi way_so) ∧
    (((lw v12.toNatClampNeg) = x1) →
      wp_L_isVan_56 P now pln way lq lr lw lg x1 x2 r29 v8 v9 v10 v11 v12 v7 ((1 : Int32) <<< (v12 &&& 31)) way_ky way_wp way_mi way_so))
def wp_L_isVan_29 (P : Int32 → (Nat → Int32) → (Nat → Int32) → (Nat → Int32) → Int32 → Prop) (now : StT) (pln : PlT) (way : WyT) (lq : Nat → Int32) (lr : Nat → Int32) (lw : Nat → Int32) (lg : Nat → Int32) (x1 : Int32) (x2 : Int32) (v10 : Int32) (v11 : Int32) (way_ky : Nat → Int32) (way_wp : Nat → Int32) (way_mi : Nat → Int32) (way_so : Int32) : Nat → Int32 → Int32 → Int32 → Int32 → Prop
  | 0 => fun _ _ _ _ => False
  | n + 1 => wp_L_isVan_29F P now pln way lq lr lw lg x1 x2 v10 v11 way_ky way_wp way_mi way_so (wp_L_isVan_29 P now pln way lq lr lw lg x1 x2 v10 v11 way_ky way_wp way_mi way_so n)
def wp_L_isVan (P : Int32 → (Nat → Int32) → (Nat → Int32) → (Nat → Int32) → Int32 → Prop) (now : StT) (pln : PlT) (way : WyT) (lq : Nat → Int32) (lr : Nat → Int32) (lw : Nat → Int32) (lg : Nat → Int32) (x1 : Int32) (x2 : Int32) : Prop :=
  wp_L_stopsAhead (fun r_1 =>
    ∃ n : Nat, wp_L_isVan_29 P now pln way lq lr lw lg x1 x2 r_1 (0 : Int32) way.ky way.wp way.mi way.so n (0 : Int32) (-1 : Int32) (-1 : Int32) (0 : Int32)) lq lr lw x1 (1000 : Int32)
def wp_L_areCounts_350 (P : Int32 → (Nat → Int32) → (Nat → Int32) → (Nat → Int32) → Int32 → Prop) (now : StT) (pln : PlT) (way : WyT) (pad : PdT) (his : HiT) (lq : Nat → Int32) (lr : Nat → Int32) (lw : Nat → Int32) (lg : Nat → Int32) (x1 : Int32) (r57 : Int32 → Int32 → Int32 → Int32 → Int32 → Int32 → Int32 → Int32 → Int32 → Int32 → Prop) (v6 : Int32) (v7 : Int32) (v8 : Int32) (v9 : Int32) (v10 : Int32) (v11 : Int32) (v12 : Int32) (v13 : Int32) (v14 : Int32) (v15 : Int32) (v16 : Int32) (v17 : Int32) (v18 : Int32) (v19 : Int32) (w0 : Int32) (way_ky : Nat → Int32) (way_wp : Nat → Int32) (way_mi : Nat → Int32) (way_so : Int32) : Prop :=
  ((w0 ≤ v13) →
    r57 v6 v7 v8 v9 v10 v13 v15 v17 v18 (v19 + 1)) ∧
  ((¬ w0 ≤ v13) →
    r57 v6 v7 v8 v9 v10 w0 v15 v17 v18 (v19 + 1))
def wp_L_areCounts_315 (P : Int32 → (Nat → Int32) → (Nat → Int32) → (Nat → Int32) → Int32 → Prop) (now : StT) (pln : PlT) (way : WyT) (pad : PdT) (his : HiT) (lq : Nat → Int32) (lr : Nat → Int32) (lw : Nat → Int32) (lg : Nat → Int32) (x1 : Int32) (r57 : Int32 → Int32 → Int32 → Int32 → Int32 → Int32 → Int32 → Int32 → Int32 → Int32 → Prop) (v6 : Int32) (v7 : Int32) (v8 : Int32) (v9 : Int32) (v10 : Int32) (v11 : Int32) (v12 : Int32) (v13 : Int32) (v14 : Int32) (v15 : Int32) (v16 : Int32) (v17 : Int32) (v19 : Int32) (w0 : Int32) (w1 : Int32) (way_ky : Nat → Int32) (way_wp : Nat → Int32) (way_mi : Nat → Int32) (way_so : Int32) : Prop :=
  vp_in v19 24 ∧
  ((0 ≤ (lw v19.toNatClampNeg)) →
    vp_in v19 24 ∧
    vp_in v19 24 ∧
    wp_L_keyOf (fun r_134 =>
      wp_L_minuteAt (fun r_135 =>
        wp_L_areCounts_350 P now pln way pad his lq lr lw lg x1 r57 v6 v7 v8 v9 v10 v11 v12 v13 v14 v15 v16 v17 (w0 + w1) v19 r_135 way_ky way_wp way_mi way_so) lq lr lw (lw v19.toNatClampNeg) r_134) (lr v19.toNatClampNeg)) ∧
  ((¬ 0 ≤ (lw v19.toNatClampNeg)) →
    wp_L_areCounts_350 P now pln way pad his lq lr lw lg x1 r57 v6 v7 v8 v9 v10 v11 v12 v13 v14 v15 v16 v17 (w0 + w1) v19 (-106 : Int32) way_ky way_wp way_mi way_so)
def wp_L_areCounts_284 (P : Int32 → (Nat → Int32) → (Nat → Int32) → (Nat → Int32) → Int32 → Prop) (now : StT) (pln : PlT) (way : WyT) (pad : PdT) (his : HiT) (lq : Nat → Int32) (lr : Nat → Int32) (lw : Nat → Int32) (lg : Nat → Int32) (x1 : Int32) (r57 : Int32 → Int32 → Int32 → Int32 → Int32 → Int32 → Int32 → Int32 → Int32 → Int32 → Prop) (v6 : Int32) (v7 : Int32) (v8 : Int32) (v9 : Int32) (v10 : Int32) (v11 : Int32) (v12 : Int32) (v13 : Int32) (v14 : Int32) (v15 : Int32) (v16 : Int32) (v18 : Int32) (v19 : Int32) (v20 : Int32) (w0 : Int32) (w1 : Int32) (way_ky : Nat → Int32) (way_wp : Nat → Int32) (way_mi : Nat → Int32) (way_so : Int32) : Prop :=
  vp_in v19 24 ∧
  wp_L_flightOf (fun r_126 =>
    ((¬ r_126 = v16) →
      wp_L_areCounts_315 P now pln way pad his lq lr lw lg x1 r57 v6 v7 v8 v9 v10 v11 v12 v13 v14 v15 v16 (w0 + w1) v19 v18 (0 : Int32) way_ky way_wp way_mi way_so) ∧
    ((r_126 = v16) →
      vp_in v19 24 ∧
      ((0 ≤ (lw v19.toNatClampNeg)) →
        wp_L_areCounts_315 P now pln way pad his lq lr lw lg x1 r57 v6 v7 v8 v9 v10 v11 v12 v13 v14 v15 v16 (w0 + w1) v19 v18 (0 : Int32) way_ky way_wp way_mi way_so) ∧
      ((¬ 0 ≤ (lw v19.toNatClampNeg)) →
        wp_L_areCounts_315 P now pln way pad his lq lr lw lg x1 r57 v6 v7 v8 v9 v10 v11 v12 v13 v14 v15 v16 (w0 + w1) v19 v18 v20 way_ky way_wp way_mi way_so))) (lr v19.toNatClampNeg)
def wp_L_areCounts_261 (P : Int32 → (Nat → Int32) → (Nat → Int32) → (Nat → Int32) → Int32 → Prop) (now : StT) (pln : PlT) (way : WyT) (pad : PdT) (his : HiT) (lq : Nat → Int32) (lr : Nat → Int32) (lw : Nat → Int32) (lg : Nat → Int32) (x1 : Int32) (r57 : Int32 → Int32 → Int32 → Int32 → Int32 → Int32 → Int32 → Int32 → Int32 → Int32 → Prop) (v6 : Int32) (v7 : Int32) (v8 : Int32) (v9 : Int32) (v10 : Int32) (v11 : Int32) (v12 : Int32) (v13 : Int32) (v14 : Int32) (v16 : Int32) (v17 : Int32) (v18 : Int32) (v19 : Int32) (v20 : Int32) (w0 : Int32) (w1 : Int32) (way_ky : Nat → Int32) (way_wp : Nat → Int32) (way_mi : Nat → Int32) (way_so : Int32) : Prop :=
  vp_in v19 24 ∧
  wp_L_flightOf (fun r_123 =>
    ((¬ r_123 = v16) →
      wp_L_areCounts_284 P now pln way pad his lq lr lw lg x1 r57 v6 v7 v8 v9 v10 v11 v12 v13 v14 (w0 + w1) v16 v18 v19 v20 v17 (0 : Int32) way_ky way_wp way_mi way_so) ∧
    ((r_123 = v16) →
      wp_L_areCounts_284 P now pln way pad his lq lr lw lg x1 r57 v6 v7 v8 v9 v10 v11 v12 v13 v14 (w0 + w1) v16 v18 v19 v20 v17 v20 way_ky way_wp way_mi way_so)) (lr v19.toNatClampNeg)
def wp_L_areCounts_211 (P : Int32 → (Nat → Int32) → (Nat → Int32) → (Nat → Int32) → Int32 → Prop) (now : StT) (pln : PlT) (way : WyT) (pad : PdT) (his : HiT) (lq : Nat → Int32) (lr : Nat → Int32) (lw : Nat → Int32) (lg : Nat → Int32) (x1 : Int32) (r57 : Int32 → Int32 → Int32 → Int32 → Int32 → Int32 → Int32 → Int32 → Int32 → Int32 → Prop) (v6 : Int32) (v7 : Int32) (v8 : Int32) (v9 : Int32) (v11 : Int32) (v12 : Int32) (v13 : Int32) (v14 : Int32) (v15 : Int32) (v16 : Int32) (v17 : Int32) (v18 : Int32) (v19 : Int32) (v20 : Int32) (v21 : Int32) (w0 : Int32) (w1 : Int32) (way_ky : Nat → Int32) (way_wp : Nat → Int32) (way_mi : Nat → Int32) (way_so : Int32) : Prop :=
  ((v21 < 0) →
    wp_L_areCounts_261 P now pln way pad his lq lr lw lg x1 r57 v6 v7 v8 v9 (w0 + w1) v11 v12 v13 v14 v16 v17 v18 v19 v20 v15 (0 : Int32) way_ky way_wp way_mi way_so) ∧
  ((¬ v21 < 0) →
    vp_in v19 24 ∧
    ((0 ≤ (lw v19.toNatClampNeg)) →
      vp_in v19 24 ∧
      vp_in ((18 : Int32) + (lw v19.toNatClampNeg)) 34 ∧
      (((lq ((18 : Int32) + (lw v19.toNatClampNeg)).toNatClampNeg) ≤ v14) →
        wp_L_areCounts_261 P now pln way pad his lq lr lw lg x1 r57 v6 v7 v8 v9 (w0 + w1) v11 v12 v13 v14 v16 v17 v18 v19 v20 v15 (0 : Int32) way_ky way_wp way_mi way_so) ∧
      ((¬ (lq ((18 : Int32) + (lw v19.toNatClampNeg)).toNatClampNeg) ≤ v14) →
        wp_L_areCounts_261 P now pln way pad his lq lr lw lg x1 r57 v6 v7 v8 v9 (w0 + w1) v11 v12 v13 v14 v16 v17 v18 v19 v20 v15 v20 way_ky way_wp way_mi way_so)) ∧
    ((¬ 0 ≤ (lw v19.toNatClampNeg)) →
      (((lq (1 : Int32).toNatClampNeg) < v21) →
        wp_L_areCounts_261 P now pln way pad his lq lr lw lg x1 r57 v6 v7 v8 v9 (w0 + w1) v11 v12 v13 v14 v16 v17 v18 v19 v20 v15 (0 : Int32) way_ky way_wp way_mi way_so) ∧
      ((¬ (lq (1 : Int32).toNatClampNeg) < v21) →
        wp_L_areCounts_261 P now pln way pad his lq lr lw lg x1 r57 v6 v7 v8 v9 (w0 + w1) v11 v12 v13 v14 v16 v17 v18 v19 v20 v15 v20 way_ky way_wp way_mi way_so)))
def wp_L_areCounts_167 (P : Int32 → (Nat → Int32) → (Nat → Int32) → (Nat → Int32) → Int32 → Prop) (now : StT) (pln : PlT) (way : WyT) (pad : PdT) (his : HiT) (lq : Nat → Int32) (lr : Nat → Int32) (lw : Nat → Int32) (lg : Nat → Int32) (x1 : Int32) (r57 : Int32 → Int32 → Int32 → Int32 → Int32 → Int32 → Int32 → Int32 → Int32 → Int32 → Prop) (v6 : Int32) (v7 : Int32) (v8 : Int32) (v10 : Int32) (v11 : Int32) (v12 : Int32) (v13 : Int32) (v14 : Int32) (v15 : Int32) (v16 : Int32) (v17 : Int32) (v18 : Int32) (v19 : Int32) (v20 : Int32) (v21 : Int32) (w0 : Int32) (w1 : Int32) (way_ky : Nat → Int32) (way_wp : Nat → Int32) (way_mi : Nat → Int32) (way_so : Int32) : Prop :=
  vp_in v19 24 ∧
  ((0 ≤ (lw v19.toNatClampNeg)) →
    wp_L_part (fun r_111 =>
      wp_L_part (fun r_113 =>
        wp_L_areCounts_211 P now pln way pad his lq lr lw lg x1 r57 v6 v7 v8 (w0 + w1) v11 v12 v13 v14 v15 v16 v17 v18 v19 v20 v21 v10 (r_111 + r_113) way_ky way_wp way_mi way_so) lq lr lw v19 (lq (4 : Int32).toNatClampNeg) (1 : Int32)) lq lr lw v19 (lq (3 : Int32).toNatClampNeg) (0 : Int32)) ∧
  ((¬ 0 ≤ (lw v19.toNatClampNeg)) →
    wp_L_areCounts_211 P now pln way pad his lq lr lw lg x1 r57 v6 v7 v8 (w0 + w1) v11 v12 v13 v14 v15 v16 v17 v18 v19 v20 v21 v10 (0 : Int32) way_ky way_wp way_mi way_so)
def wp_L_areCounts_128 (P : Int32 → (Nat → Int32) → (Nat → Int32) → (Nat → Int32) → Int32 → Prop) (now : StT) (pln : PlT) (way : WyT) (pad : PdT) (his : HiT) (lq : Nat → Int32) (lr : Nat → Int32) (lw : Nat → Int32) (lg : Nat → Int32) (x1 : Int32) (r57 : Int32 → Int32 → Int32 → Int32 → Int32 → Int32 → Int32 → Int32 → Int32 → Int32 → Prop) (v6 : Int32) (v7 : Int32) (v9 : Int32) (v10 : Int32) (v11 : Int32) (v12 : Int32) (v13 : Int32) (v14 : Int32) (v15 : Int32) (v16 : Int32) (v17 : Int32) (v18 : Int32) (v19 : Int32) (v20 : Int32) (v21 : Int32) (w0 : Int32) (w1 : Int32) (way_ky : Nat → Int32) (way_wp : Nat → Int32) (way_mi : Nat → Int32) (way_so : Int32) : Prop :=
  vp_in v19 24 ∧
  ((0 ≤ (lw v19.toNatClampNeg)) →
    vp_in v19 24 ∧
    vp_in ((18 : Int32) + (lw v19.toNatClampNeg)) 34 ∧
    vp_in v19 24 ∧
    wp_L_ready (fun r_91 =>
      wp_L_areCounts_167 P now pln way pad his lq lr lw lg x1 r57 v6 v7 (w0 + w1) v10 v11 v12 v13 v14 v15 v16 v17 v18 v19 v20 v21 v9 (v20 * ((lq ((18 : Int32) + (lw v19.toNatClampNeg)).toNatClampNeg) - r_91)) way_ky way_wp way_mi way_so) lq (lr v19.toNatClampNeg)) ∧
  ((¬ 0 ≤ (lw v19.toNatClampNeg)) →
    wp_L_areCounts_167 P now pln way pad his lq lr lw lg x1 r57 v6 v7 (w0 + w1) v10 v11 v12 v13 v14 v15 v16 v17 v18 v19 v20 v21 v9 (0 : Int32) way_ky way_wp way_mi way_so)
def wp_L_areCounts_109 (P : Int32 → (Nat → Int32) → (Nat → Int32) → (Nat → Int32) → Int32 → Prop) (now : StT) (pln : PlT) (way : WyT) (pad : PdT) (his : HiT) (lq : Nat → Int32) (lr : Nat → Int32) (lw : Nat → Int32) (lg : Nat → Int32) (x1 : Int32) (r57 : Int32 → Int32 → Int32 → Int32 → Int32 → Int32 → Int32 → Int32 → Int32 → Int32 → Prop) (v6 : Int32) (v8 : Int32) (v9 : Int32) (v10 : Int32) (v11 : Int32) (v12 : Int32) (v13 : Int32) (v14 : Int32) (v15 : Int32) (v16 : Int32) (v17 : Int32) (v18 : Int32) (v19 : Int32) (v20 : Int32) (v21 : Int32) (w0 : Int32) (w1 : Int32) (way_ky : Nat → Int32) (way_wp : Nat → Int32) (way_mi : Nat → Int32) (way_so : Int32) : Prop :=
  vp_in v19 24 ∧
  ((0 ≤ (lw v19.toNatClampNeg)) →
    wp_L_areCounts_128 P now pln way pad his lq lr lw lg x1 r57 v6 (w0 + w1) v9 v10 v11 v12 v13 v14 v15 v16 v17 v18 v19 v20 v21 v8 (0 : Int32) way_ky way_wp way_mi way_so) ∧
  ((¬ 0 ≤ (lw v19.toNatClampNeg)) →
    wp_L_areCounts_128 P now pln way pad his lq lr lw lg x1 r57 v6 (w0 + w1) v9 v10 v11 v12 v13 v14 v15 v16 v17 v18 v19 v20 v21 v8 v20 way_ky way_wp way_mi way_so)
def wp_L_areCounts_403 (P : Int32 → (Nat → Int32) → (Nat → Int32) → (Nat → Int32) → Int32 → Prop) (now : StT) (pln : PlT) (way : WyT) (pad : PdT) (his : HiT) (lq : Nat → Int32) (lr : Nat → Int32) (lw : Nat → Int32) (lg : Nat → Int32) (x1 : Int32) (r381 : Int32 → Int32 → Int32 → Int32 → Prop) (v6 : Int32) (v7 : Int32) (v8 : Int32) (v9 : Int32) (v10 : Int32) (v12 : Int32) (v13 : Int32) (v14 : Int32) (v15 : Int32) (v16 : Int32) (v17 : Int32) (v18 : Int32) (v19 : Int32) (v20 : Int32) (w0 : Int32) (w1 : Int32) (way_ky : Nat → Int32) (way_wp : Nat → Int32) (way_mi : Nat → Int32) (way_so : Int32) : Prop :=
  wp_L_stopsAhead (fun r_79 =>
    vp_in v20 16 ∧
    (((lg v20.toNatClampNeg) ≤ 0) →
      r381 (w0 + w1) (v12 + r_79) v19 (v20 + 1)) ∧
    ((¬ (lg v20.toNatClampNeg) ≤ 0) →
      ((v19 < 0) →
        r381 (w0 + w1) (v12 + r_79) v20 (v20 + 1)) ∧
      ((¬ v19 < 0) →
        vp_in v20 16 ∧
        vp_in v19 16 ∧
        (((lg v20.toNatClampNeg) ≤ (lg v19.toNatClampNeg)) →
          r381 (w0 + w1) (v12 + r_79) v19 (v20 + 1)) ∧
        ((¬ (lg v20.toNatClampNeg) ≤ (lg v19.toNatClampNeg)) →
          r381 (w0 + w1) (v12 + r_79) v20 (v20 + 1))))) lq lr lw v20 (1000 : Int32)
def wp_L_areCounts_626 (P : Int32 → (Nat → Int32) → (Nat → Int32) → (Nat → Int32) → Int32 → Prop) (now : StT) (pln : PlT) (way : WyT) (pad : PdT) (his : HiT) (lq : Nat → Int32) (lr : Nat → Int32) (lw : Nat → Int32) (lg : Nat → Int32) (x1 : Int32) (v16 : Int32) (v17 : Int32) (v18 : Int32) (w0 : Int32) (way_ky : Nat → Int32) (way_wp : Nat → Int32) (way_mi : Nat → Int32) (way_so : Int32) : Prop :=
  ((w0 = 0) →
    P (0 : Int32) way_ky way_wp way_mi way_so) ∧
  ((¬ w0 = 0) →
    wp_X5_flight (fun r_93 =>
      vp_in ((6 : Int32) + v16) 34 ∧
      ((¬ r_93 = (lq ((6 : Int32) + v16).toNatClampNeg)) →
        P (0 : Int32) way_ky way_wp way_mi way_so) ∧
      ((r_93 = (lq ((6 : Int32) + v16).toNatClampNeg)) →
        wp_X5_flight (fun r_96 =>
          vp_in ((12 : Int32) + v16) 34 ∧
          ((¬ r_96 = (lq ((12 : Int32) + v16).toNatClampNeg)) →
            P (0 : Int32) way_ky way_wp way_mi way_so) ∧
          ((r_96 = (lq ((12 : Int32) + v16).toNatClampNeg)) →
            wp_X5_flight (fun r_99 =>
              vp_in ((6 : Int32) + v16) 34 ∧
              vp_in ((12 : Int32) + v16) 34 ∧
              ((¬ r_99 = (((lq ((6 : Int32) + v16).toNatClampNeg) + (lq ((12 : Int32) + v16).toNatClampNeg)) + (lq (0 : Int32).toNatClampNeg))) →
                P (0 : Int32) way_ky way_wp way_mi way_so) ∧
              ((r_99 = (((lq ((6 : Int32) + v16).toNatClampNeg) + (lq ((12 : Int32) + v16).toNatClampNeg)) + (lq (0 : Int32).toNatClampNeg))) →
                wp_X5_flight (fun r_104 =>
                  ((¬ r_104 = v17) →
                    P (0 : Int32) way_ky way_wp way_mi way_so) ∧
                  ((r_104 = v17) →
                    wp_X5_flight (fun r_106 =>
                      ((¬ r_106 = v18) →
                        P (0 : Int32) way_ky way_wp way_mi way_so) ∧
                      ((r_106 = v18) →
                        P (1 : Int32) way_ky way_wp way_mi way_so)) now pln v16 (4 : Int32))) now pln v16 (3 : Int32))) now pln v16 (2 : Int32))) now pln v16 (1 : Int32))) now pln v16 (0 : Int32))
def wp_L_areCounts_467F (P : Int32 → (Nat → Int32) → (Nat → Int32) → (Nat → Int32) → Int32 → Prop) (now : StT) (pln : PlT) (way : WyT) (pad : PdT) (his : HiT) (lq : Nat → Int32) (lr : Nat → Int32) (lw : Nat → Int32) (lg : Nat → Int32) (x1 : Int32) (v6 : Int32) (v7 : Int32) (v8 : Int32) (v9 : Int32) (v10 : Int32) (v11 : Int32) (v12 : Int32) (v13 : Int32) (v14 : Int32) (v15 : Int32) (v16 : Int32) (v17 : Int32) (v18 : Int32) (v19 : Int32) (r467 : Int32 → (Nat → Int32) → (Nat → Int32) → (Nat → Int32) → Int32 → Prop) (v20 : Int32) (way_ky : Nat → Int32) (way_wp : Nat → Int32) (way_mi : Nat → Int32) (way_so : Int32) : Prop :=
  (((6 : Int32) ≤ v20) →
    wp_X5_count (fun r_21 ky_17 wp_18 mi_19 so_20 =>
      ((¬ r_21 = v6) →
        wp_L_areCounts_626 P now pln way pad his lq lr lw lg x1 v16 v17 v18 (0 : Int32) ky_17 wp_18 mi_19 so_20) ∧
      ((r_21 = v6) →
        wp_X5_count (fun r_27 ky_23 wp_24 mi_25 so_26 =>
          ((¬ r_27 = v7) →
            wp_L_areCounts_626 P now pln way pad his lq lr lw lg x1 v16 v17 v18 (0 : Int32) ky_23 wp_24 mi_25 so_26) ∧
          ((r_27 = v7) →
            wp_X5_count (fun r_33 ky_29 wp_30 mi_31 so_32 =>
              ((¬ r_33 = v8) →
                wp_L_areCounts_626 P now pln way pad his lq lr lw lg x1 v16 v17 v18 (0 : Int32) ky_29 wp_30 mi_31 so_32) ∧
              ((r_33 = v8) →
                wp_X5_count (fun r_39 ky_35 wp_36 mi_37 so_38 =>
                  ((¬ r_39 = v9) →
                    wp_L_areCounts_626 P now pln way pad his lq lr lw lg x1 v16 v17 v18 (0 : Int32) ky_35 wp_36 mi_37 so_38) ∧
                  ((r_39 = v9) →
                    wp_X5_count (fun r_45 ky_41 wp_42 mi_43 so_44 =>
                      ((¬ r_45 = v10) →
                        wp_L_areCounts_626 P now pln way pad his lq lr lw lg x1 v16 v17 v18 (0 : Int32) ky_41 wp_42 mi_43 so_44) ∧
                      ((r_45 = v10) →
                        wp_X5_count (fun r_51 ky_47 wp_48 mi_49 so_50 =>
                          ((¬ r_51 = v11) →
                            wp_L_areCounts_626 P now pln way pad his lq lr lw lg x1 v16 v17 v18 (0 : Int32) ky_47 wp_48 mi_49 so_50) ∧
                          ((r_51 = v11) →
                            wp_X5_count (fun r_57 ky_53 wp_54 mi_55 so_56 =>
                              ((¬ r_57 = v12) →
                                wp_L_areCounts_626 P now pln way pad his lq lr lw lg x1 v16 v17 v18 (0 : Int32) ky_53 wp_54 mi_55 so_56) ∧
                              ((r_57 = v12) →
                                wp_X5_count (fun r_63 ky_59 wp_60 mi_61 so_62 =>
                                  ((¬ r_63 = v13) →
                                    wp_L_areCounts_626 P now pln way pad his lq lr lw lg x1 v16 v17 v18 (0 : Int32) ky_59 wp_60 mi_61 so_62) ∧
                                  ((r_63 = v13) →
                                    wp_X5_kerb (fun r_65 =>
                                      ((¬ r_65 = v15) →
                                        wp_L_areCounts_626 P now pln way pad his lq lr lw lg x1 v16 v17 v18 (0 : Int32) ky_59 wp_60 mi_61 so_62) ∧
                                      ((r_65 = v15) →
                                        wp_X5_fullest (fun r_67 =>
                                          ((¬ r_67 = v19) →
                                            wp_L_areCounts_626 P now pln way pad his lq lr lw lg x1 v16 v17 v18 (0 : Int32) ky_59 wp_60 mi_61 so_62) ∧
                                          ((r_67 = v19) →
                                            ((¬ v10 = ((v11 * (lq (3 : Int32).toNatClampNeg)) + (v12 * (lq (4 : Int32).toNatClampNeg)))) →
                                              wp_L_areCounts_626 P now pln way pad his lq lr lw lg x1 v16 v17 v18 (0 : Int32) ky_59 wp_60 mi_61 so_62) ∧
                                            ((v10 = ((v11 * (lq (3 : Int32).toNatClampNeg)) + (v12 * (lq (4 : Int32).toNatClampNeg)))) →
                                              wp_L_areCounts_626 P now pln way pad his lq lr lw lg x1 v16 v17 v18 (1 : Int32) ky_59 wp_60 mi_61 so_62))) pln)) now pln v14)) now pln (mkWy ky_53 wp_54 mi_55 so_56) pad his (13 : Int32))) now pln (mkWy ky_47 wp_48 mi_49 so_50) pad his (12 : Int32))) now pln (mkWy ky_41 wp_42 mi_43 so_44) pad his (11 : Int32))) now pln (mkWy ky_35 wp_36 mi_37 so_38) pad his (10 : Int32))) now pln (mkWy ky_29 wp_30 mi_31 so_32) pad his (9 : Int32))) now pln (mkWy ky_23 wp_24 mi_25 so_26) pad his (8 : Int32))) now pln (mkWy ky_17 wp_18 mi_19 so_20) pad his (7 : Int32))) now pln (mkWy way_ky way_wp way_mi way_so) pad his (6 : Int32)) ∧
  ((¬ (6 : Int32) ≤ v20) →
    wp_X5_count (fun r_76 ky_72 wp_73 mi_74 so_75 =>
      vp_in v20 34 ∧
      ((r_76 = (lq v20.toNatClampNeg)) →
        r467 (v20 + 1) ky_72 wp_73 mi_74 so_75) ∧
      ((¬ r_76 = (lq v20.toNatClampNeg)) →
        P (0 : Int32) ky_72 wp_73 mi_74 so_75)) now pln (mkWy way_ky way_wp way_mi way_so) pad his v20)
def wp_L_areCounts_467 (P : Int32 → (Nat → Int32) → (Nat → Int32) → (Nat → Int32) → Int32 → Prop) (now : StT) (pln : PlT) (way : WyT) (pad : PdT) (his : HiT) (lq : Nat → Int32) (lr : Nat → Int32) (lw : Nat → Int32) (lg : Nat → Int32) (x1 : Int32) (v6 : Int32) (v7 : Int32) (v8 : Int32) (v9 : Int32) (v10 : Int32) (v11 : Int32) (v12 : Int32) (v13 : Int32) (v14 : Int32) (v15 : Int32) (v16 : Int32) (v17 : Int32) (v18 : Int32) (v19 : Int32) : Nat → Int32 → (Nat → Int32) → (Nat → Int32) → (Nat → Int32) → Int32 → Prop
  | 0 => fun _ _ _ _ _ => False
  | n + 1 => wp_L_areCounts_467F P now pln way pad his lq lr lw lg x1 v6 v7 v8 v9 v10 v11 v12 v13 v14 v15 v16 v17 v18 v19 (wp_L_areCounts_467 P now pln way pad his lq lr lw lg x1 v6 v7 v8 v9 v10 v11 v12 v13 v14 v15 v16 v17 v18 v19 n)
def wp_L_areCounts_381F (P : Int32 → (Nat → Int32) → (Nat → Int32) → (Nat → Int32) → Int32 → Prop) (now : StT) (pln : PlT) (way : WyT) (pad : PdT) (his : HiT) (lq : Nat → Int32) (lr : Nat → Int32) (lw : Nat → Int32) (lg : Nat → Int32) (x1 : Int32) (v6 : Int32) (v7 : Int32) (v8 : Int32) (v9 : Int32) (v10 : Int32) (v13 : Int32) (v14 : Int32) (v15 : Int32) (v16 : Int32) (v17 : Int32) (v18 : Int32) (way_ky : Nat → Int32) (way_wp : Nat → Int32) (way_mi : Nat → Int32) (way_so : Int32) (r381 : Int32 → Int32 → Int32 → Int32 → Prop) (v11 : Int32) (v12 : Int32) (v19 : Int32) (v20 : Int32) : Prop :=
  (((8 : Int32) ≤ v20) →
    ∃ n : Nat, wp_L_areCounts_467 P now pln way pad his lq lr lw lg x1 v6 v7 v8 v9 v10 v11 v12 v13 v14 v15 v16 v17 v18 v19 n (0 : Int32) way_ky way_wp way_mi way_so) ∧
  ((¬ (8 : Int32) ≤ v20) →
    vp_in v20 16 ∧
    (((lg v20.toNatClampNeg) ≤ 0) →
      wp_L_areCounts_403 P now pln way pad his lq lr lw lg x1 r381 v6 v7 v8 v9 v10 v12 v13 v14 v15 v16 v17 v18 v19 v20 v11 (0 : Int32) way_ky way_wp way_mi way_so) ∧
    ((¬ (lg v20.toNatClampNeg) ≤ 0) →
      wp_L_areCounts_403 P now pln way pad his lq lr lw lg x1 r381 v6 v7 v8 v9 v10 v12 v13 v14 v15 v16 v17 v18 v19 v20 v11 (1 : Int32) way_ky way_wp way_mi way_so))
def wp_L_areCounts_381 (P : Int32 → (Nat → Int32) → (Nat → Int32) → (Nat → Int32) → Int32 → Prop) (now : StT) (pln : PlT) (way : WyT) (pad : PdT) (his : HiT) (lq : Nat → Int32) (lr : Nat → Int32) (lw : Nat → Int32) (lg : Nat → Int32) (x1 : Int32) (v6 : Int32) (v7 : Int32) (v8 : Int32) (v9 : Int32) (v10 : Int32) (v13 : Int32) (v14 : Int32) (v15 : Int32) (v16 : Int32) (v17 : Int32) (v18 : Int32) (way_ky : Nat → Int32) (way_wp : Nat → Int32) (way_mi : Nat → Int32) (way_so : Int32) : Nat → Int32 → Int32 → Int32 → Int32 → Prop
  | 0 => fun _ _ _ _ => False
  | n + 1 => wp_L_areCounts_381F P now pln way pad his lq lr lw lg x1 v6 v7 v8 v9 v10 v13 v14 v15 v16 v17 v18 way_ky way_wp way_mi way_so (wp_L_areCounts_381 P now pln way pad his lq lr lw lg x1 v6 v7 v8 v9 v10 v13 v14 v15 v16 v17 v18 way_ky way_wp way_mi way_so n)
def wp_L_areCounts_57F (P : Int32 → (Nat → Int32) → (Nat → Int32) → (Nat → Int32) → Int32 → Prop) (now : StT) (pln : PlT) (way : WyT) (pad : PdT) (his : HiT) (lq : Nat → Int32) (lr : Nat → Int32) (lw : Nat → Int32) (lg : Nat → Int32) (x1 : Int32) (v11 : Int32) (v12 : Int32) (v14 : Int32) (v16 : Int32) (way_ky : Nat → Int32) (way_wp : Nat → Int32) (way_mi : Nat → Int32) (way_so : Int32) (r57 : Int32 → Int32 → Int32 → Int32 → Int32 → Int32 → Int32 → Int32 → Int32 → Int32 → Prop) (v6 : Int32) (v7 : Int32) (v8 : Int32) (v9 : Int32) (v10 : Int32) (v13 : Int32) (v15 : Int32) (v17 : Int32) (v18 : Int32) (v19 : Int32) : Prop :=
  (((lq (5 : Int32).toNatClampNeg) ≤ v19) →
    ∃ n : Nat, wp_L_areCounts_381 P now pln way pad his lq lr lw lg x1 v6 v7 v8 v9 v10 v13 v14 v15 v16 v17 v18 way_ky way_wp way_mi way_so n v11 v12 (-106 : Int32) (0 : Int32)) ∧
  ((¬ (lq (5 : Int32).toNatClampNeg) ≤ v19) →
    vp_in v19 24 ∧
    wp_L_people (fun r_6 =>
      vp_in v19 24 ∧
      wp_L_ready (fun r_8 =>
        vp_in v19 24 ∧
        ((0 ≤ (lw v19.toNatClampNeg)) →
          wp_L_areCounts_109 P now pln way pad his lq lr lw lg x1 r57 (v6 + r_6) v8 v9 v10 v11 v12 v13 v14 v15 v16 v17 v18 v19 r_6 (v14 - r_8) v7 (0 : Int32) way_ky way_wp way_mi way_so) ∧
        ((¬ 0 ≤ (lw v19.toNatClampNeg)) →
          wp_L_areCounts_109 P now pln way pad his lq lr lw lg x1 r57 (v6 + r_6) v8 v9 v10 v11 v12 v13 v14 v15 v16 v17 v18 v19 r_6 (v14 - r_8) v7 (1 : Int32) way_ky way_wp way_mi way_so)) lq (lr v19.toNatClampNeg)) (lr v19.toNatClampNeg))
def wp_L_areCounts_57 (P : Int32 → (Nat → Int32) → (Nat → Int32) → (Nat → Int32) → Int32 → Prop) (now : StT) (pln : PlT) (way : WyT) (pad : PdT) (his : HiT) (lq : Nat → Int32) (lr : Nat → Int32) (lw : Nat → Int32) (lg : Nat → Int32) (x1 : Int32) (v11 : Int32) (v12 : Int32) (v14 : Int32) (v16 : Int32) (way_ky : Nat → Int32) (way_wp : Nat → Int32) (way_mi : Nat → Int32) (way_so : Int32) : Nat → Int32 → Int32 → Int32 → Int32 → Int32 → Int32 → Int32 → Int32 → Int32 → Int32 → Prop
  | 0 => fun _ _ _ _ _ _ _ _ _ _ => False
  | n + 1 => wp_L_areCounts_57F P now pln way pad his lq lr lw lg x1 v11 v12 v14 v16 way_ky way_wp way_mi way_so (wp_L_areCounts_57 P now pln way pad his lq lr lw lg x1 v11 v12 v14 v16 way_ky way_wp way_mi way_so n)
def wp_L_areCounts (P : Int32 → (Nat → Int32) → (Nat → Int32) → (Nat → Int32) → Int32 → Prop) (now : StT) (pln : PlT) (way : WyT) (pad : PdT) (his : HiT) (lq : Nat → Int32) (lr : Nat → Int32) (lw : Nat → Int32) (lg : Nat → Int32) (x1 : Int32) : Prop :=
  wp_L_low (fun r_1 =>
    wp_L_low (fun r_2 =>
      ∃ n : Nat, wp_L_areCounts_57 P now pln way pad his lq lr lw lg x1 (0 : Int32) (0 : Int32) r_1 r_2 way.ky way.wp way.mi way.so n (0 : Int32) (0 : Int32) (0 : Int32) (0 : Int32) (0 : Int32) (-106 : Int32) (0 : Int32) (0 : Int32) (0 : Int32) (0 : Int32)) (x1 >>> ((11 : Int32) &&& 31)) (6 : Int32)) x1 (1800 : Int32)
def wp_L_told_151F (P : Int64 → (Nat → Int32) → (Nat → Int32) → (Nat → Int32) → Int32 → Prop) (now : StT) (pln : PlT) (way : WyT) (pad : PdT) (his : HiT) (way_ky : Nat → Int32) (way_wp : Nat → Int32) (way_mi : Nat → Int32) (way_so : Int32) (r151 : Int64 → Int32 → Prop) (v1 : Int64) (v3 : Int32) : Prop :=
  (((6 : Int32) ≤ v3) →
    P v1 way_ky way_wp way_mi way_so) ∧
  ((¬ (6 : Int32) ≤ v3) →
    wp_X5_flight (fun r_48 =>
      wp_X5_flight (fun r_49 =>
        ∀ y_50 : Int64, y_50 = ((((31 : Int64) * v1) + ((1000 : Int64) * (r_48).toInt64)) + (r_49).toInt64) →
        r151 y_50 (v3 + 1)) now pln v3 (1 : Int32)) now pln v3 (0 : Int32))
def wp_L_told_151 (P : Int64 → (Nat → Int32) → (Nat → Int32) → (Nat → Int32) → Int32 → Prop) (now : StT) (pln : PlT) (way : WyT) (pad : PdT) (his : HiT) (way_ky : Nat → Int32) (way_wp : Nat → Int32) (way_mi : Nat → Int32) (way_so : Int32) : Nat → Int64 → Int32 → Prop
  | 0 => fun _ _ => False
  | n + 1 => wp_L_told_151F P now pln way pad his way_ky way_wp way_mi way_so (wp_L_told_151 P now pln way pad his way_ky way_wp way_mi way_so n)
def wp_L_told_111F (P : Int64 → (Nat → Int32) → (Nat → Int32) → (Nat → Int32) → Int32 → Prop) (now : StT) (pln : PlT) (way : WyT) (pad : PdT) (his : HiT) (r111 : Int64 → Int32 → (Nat → Int32) → (Nat → Int32) → (Nat → Int32) → Int32 → Prop) (v1 : Int64) (v3 : Int32) (way_ky : Nat → Int32) (way_wp : Nat → Int32) (way_mi : Nat → Int32) (way_so : Int32) : Prop :=
  (((8 : Int32) ≤ v3) →
    ∃ n : Nat, wp_L_told_151 P now pln way pad his way_ky way_wp way_mi way_so n v1 (0 : Int32)) ∧
  ((¬ (8 : Int32) ≤ v3) →
    wp_X5_vanOf (fun r_40 ky_36 wp_37 mi_38 so_39 =>
      wp_X5_vanOf (fun r_45 ky_41 wp_42 mi_43 so_44 =>
        ∀ y_46 : Int64, y_46 = ((((31 : Int64) * v1) + ((1000 : Int64) * (r_40).toInt64)) + (r_45).toInt64) →
        r111 y_46 (v3 + 1) ky_41 wp_42 mi_43 so_44) now pln (mkWy ky_36 wp_37 mi_38 so_39) v3 (1 : Int32)) now pln (mkWy way_ky way_wp way_mi way_so) v3 (0 : Int32))
def wp_L_told_111 (P : Int64 → (Nat → Int32) → (Nat → Int32) → (Nat → Int32) → Int32 → Prop) (now : StT) (pln : PlT) (way : WyT) (pad : PdT) (his : HiT) : Nat → Int64 → Int32 → (Nat → Int32) → (Nat → Int32) → (Nat → Int32) → Int32 → Prop
  | 0 => fun _ _ _ _ _ _ => False
  | n + 1 => wp_L_told_111F P now pln way pad his (wp_L_told_111 P now pln way pad his n)
def wp_L_told_33F (P : Int64 → (Nat → Int32) → (Nat → Int32) → (Nat → Int32) → Int32 → Prop) (now : StT) (pln : PlT) (way : WyT) (pad : PdT) (his : HiT) (r33 : Int64 → Int32 → (Nat → Int32) → (Nat → Int32) → (Nat → Int32) → Int32 → Prop) (v1 : Int64) (v3 : Int32) (way_ky : Nat → Int32) (way_wp : Nat → Int32) (way_mi : Nat → Int32) (way_so : Int32) : Prop :=
  (((24 : Int32) ≤ v3) →
    ∃ n : Nat, wp_L_told_111 P now pln way pad his n v1 (0 : Int32) way_ky way_wp way_mi way_so) ∧
  ((¬ (24 : Int32) ≤ v3) →
    wp_X5_rider (fun r_12 ky_8 wp_9 mi_10 so_11 =>
      wp_X5_rider (fun r_17 ky_13 wp_14 mi_15 so_16 =>
        wp_X5_rider (fun r_22 ky_18 wp_19 mi_20 so_21 =>
          ∀ y_23 : Int64, y_23 = (((((31 : Int64) * v1) + ((100 : Int64) * (r_12).toInt64)) + ((10 : Int64) * (r_17).toInt64)) + (r_22).toInt64) →
          wp_X5_rider (fun r_28 ky_24 wp_25 mi_26 so_27 =>
            wp_X5_rider (fun r_33 ky_29 wp_30 mi_31 so_32 =>
              ∀ y_34 : Int64, y_34 = ((((31 : Int64) * y_23) + ((10 : Int64) * (r_28).toInt64)) + (r_33).toInt64) →
              r33 y_34 (v3 + 1) ky_29 wp_30 mi_31 so_32) now pln (mkWy ky_24 wp_25 mi_26 so_27) v3 (5 : Int32)) now pln (mkWy ky_18 wp_19 mi_20 so_21) v3 (3 : Int32)) now pln (mkWy ky_13 wp_14 mi_15 so_16) v3 (2 : Int32)) now pln (mkWy ky_8 wp_9 mi_10 so_11) v3 (1 : Int32)) now pln (mkWy way_ky way_wp way_mi way_so) v3 (0 : Int32))
def wp_L_told_33 (P : Int64 → (Nat → Int32) → (Nat → Int32) → (Nat → Int32) → Int32 → Prop) (now : StT) (pln : PlT) (way : WyT) (pad : PdT) (his : HiT) : Nat → Int64 → Int32 → (Nat → Int32) → (Nat → Int32) → (Nat → Int32) → Int32 → Prop
  | 0 => fun _ _ _ _ _ _ => False
  | n + 1 => wp_L_told_33F P now pln way pad his (wp_L_told_33 P now pln way pad his n)
def wp_L_told_6F (P : Int64 → (Nat → Int32) → (Nat → Int32) → (Nat → Int32) → Int32 → Prop) (now : StT) (pln : PlT) (way : WyT) (pad : PdT) (his : HiT) (r6 : Int64 → Int32 → (Nat → Int32) → (Nat → Int32) → (Nat → Int32) → Int32 → Prop) (v1 : Int64) (v3 : Int32) (way_ky : Nat → Int32) (way_wp : Nat → Int32) (way_mi : Nat → Int32) (way_so : Int32) : Prop :=
  (((14 : Int32) ≤ v3) →
    ∃ n : Nat, wp_L_told_33 P now pln way pad his n v1 (0 : Int32) way_ky way_wp way_mi way_so) ∧
  ((¬ (14 : Int32) ≤ v3) →
    wp_X5_count (fun r_6 ky_2 wp_3 mi_4 so_5 =>
      r6 (((31 : Int64) * v1) + (r_6).toInt64) (v3 + 1) ky_2 wp_3 mi_4 so_5) now pln (mkWy way_ky way_wp way_mi way_so) pad his v3)
def wp_L_told_6 (P : Int64 → (Nat → Int32) → (Nat → Int32) → (Nat → Int32) → Int32 → Prop) (now : StT) (pln : PlT) (way : WyT) (pad : PdT) (his : HiT) : Nat → Int64 → Int32 → (Nat → Int32) → (Nat → Int32) → (Nat → Int32) → Int32 → Prop
  | 0 => fun _ _ _ _ _ _ => False
  | n + 1 => wp_L_told_6F P now pln way pad his (wp_L_told_6 P now pln way pad his n)
def wp_L_told (P : Int64 → (Nat → Int32) → (Nat → Int32) → (Nat → Int32) → Int32 → Prop) (now : StT) (pln : PlT) (way : WyT) (pad : PdT) (his : HiT) : Prop :=
  ∃ n : Nat, wp_L_told_6 P now pln way pad his n (89 : Int64) (0 : Int32) way.ky way.wp way.mi way.so
def wp_L_call (P : Int32 → (Nat → Int32) → (Nat → Int32) → (Nat → Int32) → (Nat → Int32) → (Nat → Int32) → (Nat → Int32) → (Nat → Int32) → (Nat → Int32) → (Nat → Int32) → Int32 → (Nat → Int32) → (Nat → Int32) → (Nat → Int32) → (Nat → Int32) → (Nat → Int32) → Int32 → Int32 → Int32 → (Nat → StT) → Int32 → Int32 → Prop) (now : StT) (pln : PlT) (his : HiT) (x1 : Int32) (x2 : Int32) (x3 : Int32) (x4 : Int32) (x5 : Int32) : Prop :=
  (x1 = 0 →
    wp_X5_set (fun r_14 se_2 od_3 rd_4 vn_5 pn_6 ao_7 sr_8 sp_9 wt_10 hs_11 ol_12 sz_13 =>
      P r_14 se_2 now.la now.de now.le now.sa now.fl now.ar now.dr now.pe now.ri od_3 rd_4 vn_5 pn_6 ao_7 sr_8 sp_9 wt_10 hs_11 ol_12 sz_13) now pln his x2 x3) ∧
  (x1 = 1 →
    wp_X5_land (fun r_27 la_15 od_16 rd_17 vn_18 pn_19 ao_20 sr_21 sp_22 wt_23 hs_24 ol_25 sz_26 =>
      P r_27 now.se la_15 now.de now.le now.sa now.fl now.ar now.dr now.pe now.ri od_16 rd_17 vn_18 pn_19 ao_20 sr_21 sp_22 wt_23 hs_24 ol_25 sz_26) now pln his x2 x3) ∧
  (x1 = 2 →
    wp_X5_delay (fun r_40 de_28 od_29 rd_30 vn_31 pn_32 ao_33 sr_34 sp_35 wt_36 hs_37 ol_38 sz_39 =>
      P r_40 now.se now.la de_28 now.le now.sa now.fl now.ar now.dr now.pe now.ri od_29 rd_30 vn_31 pn_32 ao_33 sr_34 sp_35 wt_36 hs_37 ol_38 sz_39) now pln his x2 x3) ∧
  (x1 = 3 →
    wp_X5_van (fun r_54 le_41 sa_42 od_43 rd_44 vn_45 pn_46 ao_47 sr_48 sp_49 wt_50 hs_51 ol_52 sz_53 =>
      P r_54 now.se now.la now.de le_41 sa_42 now.fl now.ar now.dr now.pe now.ri od_43 rd_44 vn_45 pn_46 ao_47 sr_48 sp_49 wt_50 hs_51 ol_52 sz_53) now pln his x2 x3 x4) ∧
  (x1 = 4 →
    wp_X5_ride (fun r_71 fl_55 ar_56 dr_57 pe_58 ri_59 od_60 rd_61 vn_62 pn_63 ao_64 sr_65 sp_66 wt_67 hs_68 ol_69 sz_70 =>
      P r_71 now.se now.la now.de now.le now.sa fl_55 ar_56 dr_57 pe_58 ri_59 od_60 rd_61 vn_62 pn_63 ao_64 sr_65 sp_66 wt_67 hs_68 ol_69 sz_70) now pln his x2 x3 x4 x5) ∧
  (x1 = 5 →
    wp_X5_cancel (fun r_88 fl_72 ar_73 dr_74 pe_75 ri_76 od_77 rd_78 vn_79 pn_80 ao_81 sr_82 sp_83 wt_84 hs_85 ol_86 sz_87 =>
      P r_88 now.se now.la now.de now.le now.sa fl_72 ar_73 dr_74 pe_75 ri_76 od_77 rd_78 vn_79 pn_80 ao_81 sr_82 sp_83 wt_84 hs_85 ol_86 sz_87) now pln his x2) ∧
  ((¬ x1 = 0 ∧ ¬ x1 = 1 ∧ ¬ x1 = 2 ∧ ¬ x1 = 3 ∧ ¬ x1 = 4 ∧ ¬ x1 = 5) →
    wp_X5_rebook (fun r_101 fl_89 od_90 rd_91 vn_92 pn_93 ao_94 sr_95 sp_96 wt_97 hs_98 ol_99 sz_100 =>
      P r_101 now.se now.la now.de now.le now.sa fl_89 now.ar now.dr now.pe now.ri od_90 rd_91 vn_92 pn_93 ao_94 sr_95 sp_96 wt_97 hs_98 ol_99 sz_100) now pln his x2 x3)
def wp_L_due_145F (P : Int32 → (Nat → Int32) → (Nat → Int32) → (Nat → Int32) → (Nat → Int32) → (Nat → Int32) → Prop) (lq : Nat → Int32) (lr : Nat → Int32) (lw : Nat → Int32) (lo : Nat → Int32) (lg : Nat → Int32) (x0 : Int32) (x1 : Int32) (x2 : Int32) (x3 : Int32) (x4 : Int32) (nlq : Nat → Int32) (nlr : Nat → Int32) (nlw : Nat → Int32) (nlo : Nat → Int32) (nlg : Nat → Int32) (r145 : Int32 → Int32 → Prop) (v11 : Int32) (v12 : Int32) : Prop :=
  (((nlq (5 : Int32).toNatClampNeg) ≤ v12) →
    P v11 nlq nlr nlw nlo nlg) ∧
  ((¬ (nlq (5 : Int32).toNatClampNeg) ≤ v12) →
    vp_in v12 24 ∧
    ((0 ≤ (nlw v12.toNatClampNeg)) →
      r145 (v11 + (0 : Int32)) (v12 + 1)) ∧
    ((¬ 0 ≤ (nlw v12.toNatClampNeg)) →
      vp_in v12 24 ∧
      wp_L_people (fun r_51 =>
        r145 (v11 + r_51) (v12 + 1)) (nlr v12.toNatClampNeg)))
def wp_L_due_145 (P : Int32 → (Nat → Int32) → (Nat → Int32) → (Nat → Int32) → (Nat → Int32) → (Nat → Int32) → Prop) (lq : Nat → Int32) (lr : Nat → Int32) (lw : Nat → Int32) (lo : Nat → Int32) (lg : Nat → Int32) (x0 : Int32) (x1 : Int32) (x2 : Int32) (x3 : Int32) (x4 : Int32) (nlq : Nat → Int32) (nlr : Nat → Int32) (nlw : Nat → Int32) (nlo : Nat → Int32) (nlg : Nat → Int32) : Nat → Int32 → Int32 → Prop
  | 0 => fun _ _ => False
  | n + 1 => wp_L_due_145F P lq lr lw lo lg x0 x1 x2 x3 x4 nlq nlr nlw nlo nlg (wp_L_due_145 P lq lr lw lo lg x0 x1 x2 x3 x4 nlq nlr nlw nlo nlg n)
def wp_L_due_298F (P : Int32 → (Nat → Int32) → (Nat → Int32) → (Nat → Int32) → (Nat → Int32) → (Nat → Int32) → Prop) (lq : Nat → Int32) (lr : Nat → Int32) (lw : Nat → Int32) (lo : Nat → Int32) (lg : Nat → Int32) (x0 : Int32) (x1 : Int32) (x2 : Int32) (x3 : Int32) (x4 : Int32) (v12 : Int32) (nlq : Nat → Int32) (nlw : Nat → Int32) (nlo : Nat → Int32) (nlg : Nat → Int32) (r298 : Int32 → (Nat → Int32) → Prop) (v13 : Int32) (nlr : Nat → Int32) : Prop :=
  ((((nlq (5 : Int32).toNatClampNeg) - (1 : Int32)) ≤ v13) →
    P v12 (upd nlq (5 : Int32).toNatClampNeg ((nlq (5 : Int32).toNatClampNeg) - (1 : Int32))) nlr nlw nlo nlg) ∧
  ((¬ ((nlq (5 : Int32).toNatClampNeg) - (1 : Int32)) ≤ v13) →
    vp_in (v13 + (1 : Int32)) 24 ∧
    vp_in v13 24 ∧
    r298 (v13 + 1) (upd nlr v13.toNatClampNeg (nlr (v13 + (1 : Int32)).toNatClampNeg)))
def wp_L_due_298 (P : Int32 → (Nat → Int32) → (Nat → Int32) → (Nat → Int32) → (Nat → Int32) → (Nat → Int32) → Prop) (lq : Nat → Int32) (lr : Nat → Int32) (lw : Nat → Int32) (lo : Nat → Int32) (lg : Nat → Int32) (x0 : Int32) (x1 : Int32) (x2 : Int32) (x3 : Int32) (x4 : Int32) (v12 : Int32) (nlq : Nat → Int32) (nlw : Nat → Int32) (nlo : Nat → Int32) (nlg : Nat → Int32) : Nat → Int32 → (Nat → Int32) → Prop
  | 0 => fun _ _ => False
  | n + 1 => wp_L_due_298F P lq lr lw lo lg x0 x1 x2 x3 x4 v12 nlq nlw nlo nlg (wp_L_due_298 P lq lr lw lo lg x0 x1 x2 x3 x4 v12 nlq nlw nlo nlg n)
def wp_L_due_357 (P : Int32 → (Nat → Int32) → (Nat → Int32) → (Nat → Int32) → (Nat → Int32) → (Nat → Int32) → Prop) (lq : Nat → Int32) (lr : Nat → Int32) (lw : Nat → Int32) (lo : Nat → Int32) (lg : Nat → Int32) (x0 : Int32) (x1 : Int32) (x2 : Int32) (x3 : Int32) (x4 : Int32) (nlq : Nat → Int32) (nlr : Nat → Int32) (nlw : Nat → Int32) (nlo : Nat → Int32) (nlg : Nat → Int32) : Prop :=
  ((x1 < (nlq (5 : Int32).toNatClampNeg)) →
    P (-105 : Int32) nlq nlr nlw nlo nlg) ∧
  ((¬ x1 < (nlq (5 : Int32).toNatClampNeg)) →
    P (-101 : Int32) nlq nlr nlw nlo nlg)
def wp_L_due_27 (P : Int32 → (Nat → Int32) → (Nat → Int32) → (Nat → Int32) → (Nat → Int32) → (Nat → Int32) → Prop) (lq : Nat → Int32) (lr : Nat → Int32) (lw : Nat → Int32) (lo : Nat → Int32) (lg : Nat → Int32) (x0 : Int32) (x1 : Int32) (x2 : Int32) (x3 : Int32) (x4 : Int32) (w0 : Int32) (nlq : Nat → Int32) (nlr : Nat → Int32) (nlw : Nat → Int32) (nlo : Nat → Int32) (nlg : Nat → Int32) : Prop :=
  (x0 = 0 →
    vp_in x1 34 ∧
    P w0 (upd nlq x1.toNatClampNeg x2) nlr nlw nlo nlg) ∧
  (x0 = 1 →
    vp_in ((6 : Int32) + x1) 34 ∧
    P w0 (upd nlq ((6 : Int32) + x1).toNatClampNeg x2) nlr nlw nlo nlg) ∧
  (x0 = 2 →
    vp_in ((12 : Int32) + x1) 34 ∧
    vp_in ((6 : Int32) + x1) 34 ∧
    P ((((upd nlq ((12 : Int32) + x1).toNatClampNeg x2) ((6 : Int32) + x1).toNatClampNeg) + x2) + ((upd nlq ((12 : Int32) + x1).toNatClampNeg x2) (0 : Int32).toNatClampNeg)) (upd nlq ((12 : Int32) + x1).toNatClampNeg x2) nlr nlw nlo nlg) ∧
  (x0 = 3 →
    vp_in ((18 : Int32) + x1) 34 ∧
    vp_in ((26 : Int32) + x1) 34 ∧
    wp_L_gives (fun lw_13 lo_14 lg_15 =>
      ∃ n : Nat, wp_L_due_145 P lq lr lw lo lg x0 x1 x2 x3 x4 (upd (upd nlq ((18 : Int32) + x1).toNatClampNeg x2) ((26 : Int32) + x1).toNatClampNeg x3) nlr lw_13 lo_14 lg_15 n (0 : Int32) (0 : Int32)) (upd (upd nlq ((18 : Int32) + x1).toNatClampNeg x2) ((26 : Int32) + x1).toNatClampNeg x3) nlr nlw nlo nlg) ∧
  (x0 = 4 →
    ((¬ (nlq (5 : Int32).toNatClampNeg) = (24 : Int32)) →
      vp_in (nlq (5 : Int32).toNatClampNeg) 24 ∧
      P (((upd nlq (5 : Int32).toNatClampNeg ((nlq (5 : Int32).toNatClampNeg) + (1 : Int32))) (5 : Int32).toNatClampNeg) - (1 : Int32)) (upd nlq (5 : Int32).toNatClampNeg ((nlq (5 : Int32).toNatClampNeg) + (1 : Int32))) (upd nlr (nlq (5 : Int32).toNatClampNeg).toNatClampNeg (((x1 + ((8 : Int32) * x2)) + ((64 : Int32) * x3)) + ((8192 : Int32) * x4))) nlw nlo nlg) ∧
    (((nlq (5 : Int32).toNatClampNeg) = (24 : Int32)) →
      P (-104 : Int32) nlq nlr nlw nlo nlg)) ∧
  (x0 = 5 →
    ((x1 < (nlq (5 : Int32).toNatClampNeg)) →
      vp_in x1 24 ∧
      ((0 ≤ (nlw x1.toNatClampNeg)) →
        wp_L_part (fun r_28 =>
          wp_L_part (fun r_30 =>
            ∃ n : Nat, wp_L_due_298 P lq lr lw lo lg x0 x1 x2 x3 x4 (r_28 + r_30) nlq nlw nlo nlg n x1 nlr) nlq nlr nlw x1 (nlq (4 : Int32).toNatClampNeg) (1 : Int32)) nlq nlr nlw x1 (nlq (3 : Int32).toNatClampNeg) (0 : Int32)) ∧
      ((¬ 0 ≤ (nlw x1.toNatClampNeg)) →
        ∃ n : Nat, wp_L_due_298 P lq lr lw lo lg x0 x1 x2 x3 x4 (0 : Int32) nlq nlw nlo nlg n x1 nlr)) ∧
    ((¬ x1 < (nlq (5 : Int32).toNatClampNeg)) →
      P (-101 : Int32) nlq nlr nlw nlo nlg)) ∧
  ((¬ x0 = 0 ∧ ¬ x0 = 1 ∧ ¬ x0 = 2 ∧ ¬ x0 = 3 ∧ ¬ x0 = 4 ∧ ¬ x0 = 5) →
    (((nlq (5 : Int32).toNatClampNeg) ≤ x1) →
      wp_L_due_357 P lq lr lw lo lg x0 x1 x2 x3 x4 nlq nlr nlw nlo nlg) ∧
    ((¬ (nlq (5 : Int32).toNatClampNeg) ≤ x1) →
      vp_in x1 24 ∧
      wp_L_flightOf (fun r_34 =>
        ((¬ r_34 = x2) →
          vp_in x1 24 ∧
          vp_in x1 24 ∧
          wp_L_flightOf (fun r_38 =>
            vp_in x1 24 ∧
            wp_L_gives (fun lw_40 lo_41 lg_42 =>
              vp_in x1 24 ∧
              ((0 ≤ (lw_40 x1.toNatClampNeg)) →
                vp_in x1 24 ∧
                P (lw_40 x1.toNatClampNeg) nlq (upd nlr x1.toNatClampNeg ((nlr x1.toNatClampNeg) + (x2 - r_38))) lw_40 lo_41 lg_42) ∧
              ((¬ 0 ≤ (lw_40 x1.toNatClampNeg)) →
                P (-106 : Int32) nlq (upd nlr x1.toNatClampNeg ((nlr x1.toNatClampNeg) + (x2 - r_38))) lw_40 lo_41 lg_42)) nlq (upd nlr x1.toNatClampNeg ((nlr x1.toNatClampNeg) + (x2 - r_38))) nlw nlo nlg) (nlr x1.toNatClampNeg)) ∧
        ((r_34 = x2) →
          wp_L_due_357 P lq lr lw lo lg x0 x1 x2 x3 x4 nlq nlr nlw nlo nlg)) (nlr x1.toNatClampNeg)))
def wp_L_due (P : Int32 → (Nat → Int32) → (Nat → Int32) → (Nat → Int32) → (Nat → Int32) → (Nat → Int32) → Prop) (lq : Nat → Int32) (lr : Nat → Int32) (lw : Nat → Int32) (lo : Nat → Int32) (lg : Nat → Int32) (x0 : Int32) (x1 : Int32) (x2 : Int32) (x3 : Int32) (x4 : Int32) : Prop :=
  ((¬ x0 = 0) →
    ((¬ x0 = (1 : Int32)) →
      wp_L_due_27 P lq lr lw lo lg x0 x1 x2 x3 x4 (0 : Int32) lq lr lw lo lg) ∧
    ((x0 = (1 : Int32)) →
      vp_in ((6 : Int32) + x1) 34 ∧
      wp_L_due_27 P lq lr lw lo lg x0 x1 x2 x3 x4 (lq ((6 : Int32) + x1).toNatClampNeg) lq lr lw lo lg)) ∧
  ((x0 = 0) →
    vp_in x1 34 ∧
    wp_L_due_27 P lq lr lw lo lg x0 x1 x2 x3 x4 (lq x1.toNatClampNeg) lq lr lw lo lg)
end
