section
-- ===== PART A: goes FIRST, ahead of the names: the tables' words, and 'selects' of the private methods out of them =====
/-- a private method of a class that the tables say can be made, by its rows of tables_1 -/
def lw_okq (q : MethodName × Nat) : Prop := (q.1.cls ≠ "java/lang/invoke/MethodHandle" ∧ q.1.cls ≠ "java/lang/invoke/VarHandle") ∧ Cond.instantiable q.1.cls q.2 ∈ tables_1 ∧ Cond.privateMethod q.1 ∈ tables_1 ∧ Cond.instanceMethod q.1 ∈ tables_1
theorem lw_p0 : lw_okq (⟨"ShuttleDoors$Plan", "boardOne", "(LShuttleDoors$State;I)V"⟩, 8) := ⟨⟨by decide +kernel, by decide +kernel⟩, List.mem_of_getElem? (i := 80) (by decide +kernel), List.mem_of_getElem? (i := 242) (by decide +kernel), List.mem_of_getElem? (i := 243) (by decide +kernel)⟩
theorem lw_p1 : lw_okq (⟨"ShuttleDoors$Plan", "firstVanFor", "(LShuttleDoors$State;I)I"⟩, 8) := ⟨⟨by decide +kernel, by decide +kernel⟩, List.mem_of_getElem? (i := 80) (by decide +kernel), List.mem_of_getElem? (i := 246) (by decide +kernel), List.mem_of_getElem? (i := 247) (by decide +kernel)⟩
theorem lw_p2 : lw_okq (⟨"ShuttleDoors$Plan", "takes", "(LShuttleDoors$State;II)Z"⟩, 8) := ⟨⟨by decide +kernel, by decide +kernel⟩, List.mem_of_getElem? (i := 80) (by decide +kernel), List.mem_of_getElem? (i := 250) (by decide +kernel), List.mem_of_getElem? (i := 251) (by decide +kernel)⟩
theorem lw_p3 : lw_okq (⟨"ShuttleDoors$Pad", "addRiderTo", "(LShuttleDoors$State;I)I"⟩, 2) := ⟨⟨by decide +kernel, by decide +kernel⟩, List.mem_of_getElem? (i := 141) (by decide +kernel), List.mem_of_getElem? (i := 325) (by decide +kernel), List.mem_of_getElem? (i := 326) (by decide +kernel)⟩
theorem lw_p4 : lw_okq (⟨"ShuttleDoors$Pad", "codeAt", "(I)I"⟩, 2) := ⟨⟨by decide +kernel, by decide +kernel⟩, List.mem_of_getElem? (i := 141) (by decide +kernel), List.mem_of_getElem? (i := 329) (by decide +kernel), List.mem_of_getElem? (i := 330) (by decide +kernel)⟩
theorem lw_p5 : lw_okq (⟨"ShuttleDoors", "isRider", "(I)Z"⟩, 8) := ⟨⟨by decide +kernel, by decide +kernel⟩, List.mem_of_getElem? (i := 12) (by decide +kernel), List.mem_of_getElem? (i := 338) (by decide +kernel), List.mem_of_getElem? (i := 339) (by decide +kernel)⟩
theorem lw_p6 : lw_okq (⟨"ShuttleDoors$Plan", "share", "(LShuttleDoors$State;IIZ)I"⟩, 8) := ⟨⟨by decide +kernel, by decide +kernel⟩, List.mem_of_getElem? (i := 80) (by decide +kernel), List.mem_of_getElem? (i := 346) (by decide +kernel), List.mem_of_getElem? (i := 347) (by decide +kernel)⟩
theorem lw_p7 : lw_okq (⟨"ShuttleDoors$Plan", "shares", "(LShuttleDoors$State;IIZ)Z"⟩, 8) := ⟨⟨by decide +kernel, by decide +kernel⟩, List.mem_of_getElem? (i := 80) (by decide +kernel), List.mem_of_getElem? (i := 350) (by decide +kernel), List.mem_of_getElem? (i := 351) (by decide +kernel)⟩
theorem lw_p8 : lw_okq (⟨"ShuttleDoors", "minuteAtDoor", "(I)I"⟩, 8) := ⟨⟨by decide +kernel, by decide +kernel⟩, List.mem_of_getElem? (i := 12) (by decide +kernel), List.mem_of_getElem? (i := 375) (by decide +kernel), List.mem_of_getElem? (i := 376) (by decide +kernel)⟩
theorem lw_p9 : lw_okq (⟨"ShuttleDoors$Way", "letOut", "(II)V"⟩, 4) := ⟨⟨by decide +kernel, by decide +kernel⟩, List.mem_of_getElem? (i := 118) (by decide +kernel), List.mem_of_getElem? (i := 384) (by decide +kernel), List.mem_of_getElem? (i := 385) (by decide +kernel)⟩
theorem lw_p10 : lw_okq (⟨"ShuttleDoors$Way", "placeFor", "(I)I"⟩, 4) := ⟨⟨by decide +kernel, by decide +kernel⟩, List.mem_of_getElem? (i := 118) (by decide +kernel), List.mem_of_getElem? (i := 388) (by decide +kernel), List.mem_of_getElem? (i := 389) (by decide +kernel)⟩
theorem lw_p11 : lw_okq (⟨"ShuttleDoors$Way", "openStop", "(II)V"⟩, 4) := ⟨⟨by decide +kernel, by decide +kernel⟩, List.mem_of_getElem? (i := 118) (by decide +kernel), List.mem_of_getElem? (i := 392) (by decide +kernel), List.mem_of_getElem? (i := 393) (by decide +kernel)⟩
theorem lw_p12 : lw_okq (⟨"ShuttleDoors$Way", "tellMinutes", "(I)V"⟩, 4) := ⟨⟨by decide +kernel, by decide +kernel⟩, List.mem_of_getElem? (i := 118) (by decide +kernel), List.mem_of_getElem? (i := 396) (by decide +kernel), List.mem_of_getElem? (i := 397) (by decide +kernel)⟩
theorem lw_p13 : lw_okq (⟨"ShuttleDoors", "allFares", "()I"⟩, 8) := ⟨⟨by decide +kernel, by decide +kernel⟩, List.mem_of_getElem? (i := 12) (by decide +kernel), List.mem_of_getElem? (i := 453) (by decide +kernel), List.mem_of_getElem? (i := 454) (by decide +kernel)⟩
theorem lw_p14 : lw_okq (⟨"ShuttleDoors", "allStops", "()I"⟩, 8) := ⟨⟨by decide +kernel, by decide +kernel⟩, List.mem_of_getElem? (i := 12) (by decide +kernel), List.mem_of_getElem? (i := 461) (by decide +kernel), List.mem_of_getElem? (i := 462) (by decide +kernel)⟩
theorem lw_p15 : lw_okq (⟨"ShuttleDoors", "lastAtDoor", "(LShuttleDoors$State;LShuttleDoors$Plan;)I"⟩, 8) := ⟨⟨by decide +kernel, by decide +kernel⟩, List.mem_of_getElem? (i := 12) (by decide +kernel), List.mem_of_getElem? (i := 465) (by decide +kernel), List.mem_of_getElem? (i := 466) (by decide +kernel)⟩
def lw_privs_1 : List (MethodName × Nat) := [(⟨"ShuttleDoors$Plan", "boardOne", "(LShuttleDoors$State;I)V"⟩, 8), (⟨"ShuttleDoors$Plan", "firstVanFor", "(LShuttleDoors$State;I)I"⟩, 8), (⟨"ShuttleDoors$Plan", "takes", "(LShuttleDoors$State;II)Z"⟩, 8), (⟨"ShuttleDoors$Pad", "addRiderTo", "(LShuttleDoors$State;I)I"⟩, 2), (⟨"ShuttleDoors$Pad", "codeAt", "(I)I"⟩, 2), (⟨"ShuttleDoors", "isRider", "(I)Z"⟩, 8), (⟨"ShuttleDoors$Plan", "share", "(LShuttleDoors$State;IIZ)I"⟩, 8), (⟨"ShuttleDoors$Plan", "shares", "(LShuttleDoors$State;IIZ)Z"⟩, 8), (⟨"ShuttleDoors", "minuteAtDoor", "(I)I"⟩, 8), (⟨"ShuttleDoors$Way", "letOut", "(II)V"⟩, 4), (⟨"ShuttleDoors$Way", "placeFor", "(I)I"⟩, 4), (⟨"ShuttleDoors$Way", "openStop", "(II)V"⟩, 4), (⟨"ShuttleDoors$Way", "tellMinutes", "(I)V"⟩, 4), (⟨"ShuttleDoors", "allFares", "()I"⟩, 8), (⟨"ShuttleDoors", "allStops", "()I"⟩, 8), (⟨"ShuttleDoors", "lastAtDoor", "(LShuttleDoors$State;LShuttleDoors$Plan;)I"⟩, 8)]
theorem lw_r1 : ∀ q ∈ lw_privs_1, lw_okq q := List.forall_mem_cons.mpr ⟨lw_p0, List.forall_mem_cons.mpr ⟨lw_p1, List.forall_mem_cons.mpr ⟨lw_p2, List.forall_mem_cons.mpr ⟨lw_p3, List.forall_mem_cons.mpr ⟨lw_p4, List.forall_mem_cons.mpr ⟨lw_p5, List.forall_mem_cons.mpr ⟨lw_p6, List.forall_mem_cons.mpr ⟨lw_p7, List.forall_mem_cons.mpr ⟨lw_p8, List.forall_mem_cons.mpr ⟨lw_p9, List.forall_mem_cons.mpr ⟨lw_p10, List.forall_mem_cons.mpr ⟨lw_p11, List.forall_mem_cons.mpr ⟨lw_p12, List.forall_mem_cons.mpr ⟨lw_p13, List.forall_mem_cons.mpr ⟨lw_p14, List.forall_mem_cons.mpr ⟨lw_p15, fun _ h => absurd h List.not_mem_nil⟩⟩⟩⟩⟩⟩⟩⟩⟩⟩⟩⟩⟩⟩⟩⟩
theorem lw_p16 : lw_okq (⟨"ShuttleDoorsModel", "record", "()V"⟩, 16) := ⟨⟨by decide +kernel, by decide +kernel⟩, List.mem_of_getElem? (i := 538) (by decide +kernel), List.mem_of_getElem? (i := 608) (by decide +kernel), List.mem_of_getElem? (i := 609) (by decide +kernel)⟩
theorem lw_p17 : lw_okq (⟨"ShuttleDoorsModel", "readyOf", "(I)I"⟩, 16) := ⟨⟨by decide +kernel, by decide +kernel⟩, List.mem_of_getElem? (i := 538) (by decide +kernel), List.mem_of_getElem? (i := 633) (by decide +kernel), List.mem_of_getElem? (i := 634) (by decide +kernel)⟩
theorem lw_p18 : lw_okq (⟨"ShuttleDoorsModel", "lay", "()V"⟩, 16) := ⟨⟨by decide +kernel, by decide +kernel⟩, List.mem_of_getElem? (i := 538) (by decide +kernel), List.mem_of_getElem? (i := 644) (by decide +kernel), List.mem_of_getElem? (i := 645) (by decide +kernel)⟩
theorem lw_p19 : lw_okq (⟨"ShuttleDoorsModel", "nextRider", "()I"⟩, 16) := ⟨⟨by decide +kernel, by decide +kernel⟩, List.mem_of_getElem? (i := 538) (by decide +kernel), List.mem_of_getElem? (i := 648) (by decide +kernel), List.mem_of_getElem? (i := 649) (by decide +kernel)⟩
theorem lw_p20 : lw_okq (⟨"ShuttleDoorsModel", "ready", "(I)I"⟩, 16) := ⟨⟨by decide +kernel, by decide +kernel⟩, List.mem_of_getElem? (i := 538) (by decide +kernel), List.mem_of_getElem? (i := 652) (by decide +kernel), List.mem_of_getElem? (i := 653) (by decide +kernel)⟩
theorem lw_p21 : lw_okq (⟨"ShuttleDoorsModel", "of", "(II)I"⟩, 16) := ⟨⟨by decide +kernel, by decide +kernel⟩, List.mem_of_getElem? (i := 538) (by decide +kernel), List.mem_of_getElem? (i := 656) (by decide +kernel), List.mem_of_getElem? (i := 657) (by decide +kernel)⟩
theorem lw_p22 : lw_okq (⟨"ShuttleDoorsModel", "firstVan", "(I)I"⟩, 16) := ⟨⟨by decide +kernel, by decide +kernel⟩, List.mem_of_getElem? (i := 538) (by decide +kernel), List.mem_of_getElem? (i := 660) (by decide +kernel), List.mem_of_getElem? (i := 661) (by decide +kernel)⟩
theorem lw_p23 : lw_okq (⟨"ShuttleDoorsModel", "canTake", "(II)Z"⟩, 16) := ⟨⟨by decide +kernel, by decide +kernel⟩, List.mem_of_getElem? (i := 538) (by decide +kernel), List.mem_of_getElem? (i := 664) (by decide +kernel), List.mem_of_getElem? (i := 665) (by decide +kernel)⟩
theorem lw_p24 : lw_okq (⟨"ShuttleDoorsModel", "strandedPeople", "()I"⟩, 16) := ⟨⟨by decide +kernel, by decide +kernel⟩, List.mem_of_getElem? (i := 538) (by decide +kernel), List.mem_of_getElem? (i := 671) (by decide +kernel), List.mem_of_getElem? (i := 672) (by decide +kernel)⟩
theorem lw_p25 : lw_okq (⟨"ShuttleDoorsModel", "add", "(IIII)V"⟩, 16) := ⟨⟨by decide +kernel, by decide +kernel⟩, List.mem_of_getElem? (i := 538) (by decide +kernel), List.mem_of_getElem? (i := 679) (by decide +kernel), List.mem_of_getElem? (i := 680) (by decide +kernel)⟩
theorem lw_p26 : lw_okq (⟨"ShuttleDoorsModel", "isRider", "(I)Z"⟩, 16) := ⟨⟨by decide +kernel, by decide +kernel⟩, List.mem_of_getElem? (i := 538) (by decide +kernel), List.mem_of_getElem? (i := 687) (by decide +kernel), List.mem_of_getElem? (i := 688) (by decide +kernel)⟩
theorem lw_p27 : lw_okq (⟨"ShuttleDoorsModel", "fare", "(I)I"⟩, 16) := ⟨⟨by decide +kernel, by decide +kernel⟩, List.mem_of_getElem? (i := 538) (by decide +kernel), List.mem_of_getElem? (i := 691) (by decide +kernel), List.mem_of_getElem? (i := 692) (by decide +kernel)⟩
theorem lw_p28 : lw_okq (⟨"ShuttleDoorsModel", "part", "(IIZ)I"⟩, 16) := ⟨⟨by decide +kernel, by decide +kernel⟩, List.mem_of_getElem? (i := 538) (by decide +kernel), List.mem_of_getElem? (i := 695) (by decide +kernel), List.mem_of_getElem? (i := 696) (by decide +kernel)⟩
theorem lw_p29 : lw_okq (⟨"ShuttleDoorsModel", "isWith", "(IIZ)Z"⟩, 16) := ⟨⟨by decide +kernel, by decide +kernel⟩, List.mem_of_getElem? (i := 538) (by decide +kernel), List.mem_of_getElem? (i := 699) (by decide +kernel), List.mem_of_getElem? (i := 700) (by decide +kernel)⟩
theorem lw_p30 : lw_okq (⟨"ShuttleDoorsModel", "keyOf", "(I)I"⟩, 16) := ⟨⟨by decide +kernel, by decide +kernel⟩, List.mem_of_getElem? (i := 538) (by decide +kernel), List.mem_of_getElem? (i := 703) (by decide +kernel), List.mem_of_getElem? (i := 704) (by decide +kernel)⟩
theorem lw_p31 : lw_okq (⟨"ShuttleDoorsModel", "tellsDriven", "(II)I"⟩, 16) := ⟨⟨by decide +kernel, by decide +kernel⟩, List.mem_of_getElem? (i := 538) (by decide +kernel), List.mem_of_getElem? (i := 715) (by decide +kernel), List.mem_of_getElem? (i := 716) (by decide +kernel)⟩
def lw_privs_2 : List (MethodName × Nat) := [(⟨"ShuttleDoorsModel", "record", "()V"⟩, 16), (⟨"ShuttleDoorsModel", "readyOf", "(I)I"⟩, 16), (⟨"ShuttleDoorsModel", "lay", "()V"⟩, 16), (⟨"ShuttleDoorsModel", "nextRider", "()I"⟩, 16), (⟨"ShuttleDoorsModel", "ready", "(I)I"⟩, 16), (⟨"ShuttleDoorsModel", "of", "(II)I"⟩, 16), (⟨"ShuttleDoorsModel", "firstVan", "(I)I"⟩, 16), (⟨"ShuttleDoorsModel", "canTake", "(II)Z"⟩, 16), (⟨"ShuttleDoorsModel", "strandedPeople", "()I"⟩, 16), (⟨"ShuttleDoorsModel", "add", "(IIII)V"⟩, 16), (⟨"ShuttleDoorsModel", "isRider", "(I)Z"⟩, 16), (⟨"ShuttleDoorsModel", "fare", "(I)I"⟩, 16), (⟨"ShuttleDoorsModel", "part", "(IIZ)I"⟩, 16), (⟨"ShuttleDoorsModel", "isWith", "(IIZ)Z"⟩, 16), (⟨"ShuttleDoorsModel", "keyOf", "(I)I"⟩, 16), (⟨"ShuttleDoorsModel", "tellsDriven", "(II)I"⟩, 16)]
theorem lw_r2 : ∀ q ∈ lw_privs_2, lw_okq q := List.forall_mem_cons.mpr ⟨lw_p16, List.forall_mem_cons.mpr ⟨lw_p17, List.forall_mem_cons.mpr ⟨lw_p18, List.forall_mem_cons.mpr ⟨lw_p19, List.forall_mem_cons.mpr ⟨lw_p20, List.forall_mem_cons.mpr ⟨lw_p21, List.forall_mem_cons.mpr ⟨lw_p22, List.forall_mem_cons.mpr ⟨lw_p23, List.forall_mem_cons.mpr ⟨lw_p24, List.forall_mem_cons.mpr ⟨lw_p25, List.forall_mem_cons.mpr ⟨lw_p26, List.forall_mem_cons.mpr ⟨lw_p27, List.forall_mem_cons.mpr ⟨lw_p28, List.forall_mem_cons.mpr ⟨lw_p29, List.forall_mem_cons.mpr ⟨lw_p30, List.forall_mem_cons.mpr ⟨lw_p31, fun _ h => absurd h List.not_mem_nil⟩⟩⟩⟩⟩⟩⟩⟩⟩⟩⟩⟩⟩⟩⟩⟩
theorem lw_p32 : lw_okq (⟨"ShuttleDoorsModel", "minuteAt", "(II)I"⟩, 16) := ⟨⟨by decide +kernel, by decide +kernel⟩, List.mem_of_getElem? (i := 538) (by decide +kernel), List.mem_of_getElem? (i := 719) (by decide +kernel), List.mem_of_getElem? (i := 720) (by decide +kernel)⟩
theorem lw_p33 : lw_okq (⟨"ShuttleDoorsModel", "layStops", "(I)V"⟩, 16) := ⟨⟨by decide +kernel, by decide +kernel⟩, List.mem_of_getElem? (i := 538) (by decide +kernel), List.mem_of_getElem? (i := 723) (by decide +kernel), List.mem_of_getElem? (i := 724) (by decide +kernel)⟩
theorem lw_p34 : lw_okq (⟨"ShuttleDoorsModel", "sharing", "(I)I"⟩, 16) := ⟨⟨by decide +kernel, by decide +kernel⟩, List.mem_of_getElem? (i := 538) (by decide +kernel), List.mem_of_getElem? (i := 727) (by decide +kernel), List.mem_of_getElem? (i := 728) (by decide +kernel)⟩
theorem lw_p35 : lw_okq (⟨"ShuttleDoorsModel", "peopleIn", "(I)I"⟩, 16) := ⟨⟨by decide +kernel, by decide +kernel⟩, List.mem_of_getElem? (i := 538) (by decide +kernel), List.mem_of_getElem? (i := 735) (by decide +kernel), List.mem_of_getElem? (i := 736) (by decide +kernel)⟩
theorem lw_p36 : lw_okq (⟨"ShuttleDoorsModel", "ridersIn", "(I)I"⟩, 16) := ⟨⟨by decide +kernel, by decide +kernel⟩, List.mem_of_getElem? (i := 538) (by decide +kernel), List.mem_of_getElem? (i := 739) (by decide +kernel), List.mem_of_getElem? (i := 740) (by decide +kernel)⟩
theorem lw_p37 : lw_okq (⟨"ShuttleDoorsModel", "faresIn", "(I)I"⟩, 16) := ⟨⟨by decide +kernel, by decide +kernel⟩, List.mem_of_getElem? (i := 538) (by decide +kernel), List.mem_of_getElem? (i := 743) (by decide +kernel), List.mem_of_getElem? (i := 744) (by decide +kernel)⟩
theorem lw_p38 : lw_okq (⟨"ShuttleDoorsModel", "peopleOf", "(IZ)I"⟩, 16) := ⟨⟨by decide +kernel, by decide +kernel⟩, List.mem_of_getElem? (i := 538) (by decide +kernel), List.mem_of_getElem? (i := 751) (by decide +kernel), List.mem_of_getElem? (i := 752) (by decide +kernel)⟩
theorem lw_p39 : lw_okq (⟨"ShuttleDoorsModel", "gettingOut", "(II)I"⟩, 16) := ⟨⟨by decide +kernel, by decide +kernel⟩, List.mem_of_getElem? (i := 538) (by decide +kernel), List.mem_of_getElem? (i := 759) (by decide +kernel), List.mem_of_getElem? (i := 760) (by decide +kernel)⟩
theorem lw_p40 : lw_okq (⟨"ShuttleDoorsModel", "allPeople", "()I"⟩, 16) := ⟨⟨by decide +kernel, by decide +kernel⟩, List.mem_of_getElem? (i := 538) (by decide +kernel), List.mem_of_getElem? (i := 767) (by decide +kernel), List.mem_of_getElem? (i := 768) (by decide +kernel)⟩
theorem lw_p41 : lw_okq (⟨"ShuttleDoorsModel", "strandedRiders", "()I"⟩, 16) := ⟨⟨by decide +kernel, by decide +kernel⟩, List.mem_of_getElem? (i := 538) (by decide +kernel), List.mem_of_getElem? (i := 771) (by decide +kernel), List.mem_of_getElem? (i := 772) (by decide +kernel)⟩
theorem lw_p42 : lw_okq (⟨"ShuttleDoorsModel", "waiting", "()I"⟩, 16) := ⟨⟨by decide +kernel, by decide +kernel⟩, List.mem_of_getElem? (i := 538) (by decide +kernel), List.mem_of_getElem? (i := 775) (by decide +kernel), List.mem_of_getElem? (i := 776) (by decide +kernel)⟩
theorem lw_p43 : lw_okq (⟨"ShuttleDoorsModel", "allFares", "()I"⟩, 16) := ⟨⟨by decide +kernel, by decide +kernel⟩, List.mem_of_getElem? (i := 538) (by decide +kernel), List.mem_of_getElem? (i := 779) (by decide +kernel), List.mem_of_getElem? (i := 780) (by decide +kernel)⟩
theorem lw_p44 : lw_okq (⟨"ShuttleDoorsModel", "usedVans", "()I"⟩, 16) := ⟨⟨by decide +kernel, by decide +kernel⟩, List.mem_of_getElem? (i := 538) (by decide +kernel), List.mem_of_getElem? (i := 783) (by decide +kernel), List.mem_of_getElem? (i := 784) (by decide +kernel)⟩
theorem lw_p45 : lw_okq (⟨"ShuttleDoorsModel", "allStops", "()I"⟩, 16) := ⟨⟨by decide +kernel, by decide +kernel⟩, List.mem_of_getElem? (i := 538) (by decide +kernel), List.mem_of_getElem? (i := 787) (by decide +kernel), List.mem_of_getElem? (i := 788) (by decide +kernel)⟩
theorem lw_p46 : lw_okq (⟨"ShuttleDoorsModel", "lastMinute", "()I"⟩, 16) := ⟨⟨by decide +kernel, by decide +kernel⟩, List.mem_of_getElem? (i := 538) (by decide +kernel), List.mem_of_getElem? (i := 791) (by decide +kernel), List.mem_of_getElem? (i := 792) (by decide +kernel)⟩
theorem lw_p47 : lw_okq (⟨"ShuttleDoorsModel", "findFault", "()I"⟩, 16) := ⟨⟨by decide +kernel, by decide +kernel⟩, List.mem_of_getElem? (i := 538) (by decide +kernel), List.mem_of_getElem? (i := 834) (by decide +kernel), List.mem_of_getElem? (i := 835) (by decide +kernel)⟩
def lw_privs_3 : List (MethodName × Nat) := [(⟨"ShuttleDoorsModel", "minuteAt", "(II)I"⟩, 16), (⟨"ShuttleDoorsModel", "layStops", "(I)V"⟩, 16), (⟨"ShuttleDoorsModel", "sharing", "(I)I"⟩, 16), (⟨"ShuttleDoorsModel", "peopleIn", "(I)I"⟩, 16), (⟨"ShuttleDoorsModel", "ridersIn", "(I)I"⟩, 16), (⟨"ShuttleDoorsModel", "faresIn", "(I)I"⟩, 16), (⟨"ShuttleDoorsModel", "peopleOf", "(IZ)I"⟩, 16), (⟨"ShuttleDoorsModel", "gettingOut", "(II)I"⟩, 16), (⟨"ShuttleDoorsModel", "allPeople", "()I"⟩, 16), (⟨"ShuttleDoorsModel", "strandedRiders", "()I"⟩, 16), (⟨"ShuttleDoorsModel", "waiting", "()I"⟩, 16), (⟨"ShuttleDoorsModel", "allFares", "()I"⟩, 16), (⟨"ShuttleDoorsModel", "usedVans", "()I"⟩, 16), (⟨"ShuttleDoorsModel", "allStops", "()I"⟩, 16), (⟨"ShuttleDoorsModel", "lastMinute", "()I"⟩, 16), (⟨"ShuttleDoorsModel", "findFault", "()I"⟩, 16)]
theorem lw_r3 : ∀ q ∈ lw_privs_3, lw_okq q := List.forall_mem_cons.mpr ⟨lw_p32, List.forall_mem_cons.mpr ⟨lw_p33, List.forall_mem_cons.mpr ⟨lw_p34, List.forall_mem_cons.mpr ⟨lw_p35, List.forall_mem_cons.mpr ⟨lw_p36, List.forall_mem_cons.mpr ⟨lw_p37, List.forall_mem_cons.mpr ⟨lw_p38, List.forall_mem_cons.mpr ⟨lw_p39, List.forall_mem_cons.mpr ⟨lw_p40, List.forall_mem_cons.mpr ⟨lw_p41, List.forall_mem_cons.mpr ⟨lw_p42, List.forall_mem_cons.mpr ⟨lw_p43, List.forall_mem_cons.mpr ⟨lw_p44, List.forall_mem_cons.mpr ⟨lw_p45, List.forall_mem_cons.mpr ⟨lw_p46, List.forall_mem_cons.mpr ⟨lw_p47, fun _ h => absurd h List.not_mem_nil⟩⟩⟩⟩⟩⟩⟩⟩⟩⟩⟩⟩⟩⟩⟩⟩
theorem lw_p48 : lw_okq (⟨"ShuttleDoorsModel", "readsRider", "()Z"⟩, 16) := ⟨⟨by decide +kernel, by decide +kernel⟩, List.mem_of_getElem? (i := 538) (by decide +kernel), List.mem_of_getElem? (i := 838) (by decide +kernel), List.mem_of_getElem? (i := 839) (by decide +kernel)⟩
theorem lw_p49 : lw_okq (⟨"ShuttleDoorsModel", "readsSign", "(III)Z"⟩, 16) := ⟨⟨by decide +kernel, by decide +kernel⟩, List.mem_of_getElem? (i := 538) (by decide +kernel), List.mem_of_getElem? (i := 842) (by decide +kernel), List.mem_of_getElem? (i := 843) (by decide +kernel)⟩
theorem lw_p50 : lw_okq (⟨"ShuttleDoorsModel", "next", "()I"⟩, 16) := ⟨⟨by decide +kernel, by decide +kernel⟩, List.mem_of_getElem? (i := 538) (by decide +kernel), List.mem_of_getElem? (i := 846) (by decide +kernel), List.mem_of_getElem? (i := 847) (by decide +kernel)⟩
theorem lw_p51 : lw_okq (⟨"ShuttleDoorsModel", "ridersOfPad", "()I"⟩, 16) := ⟨⟨by decide +kernel, by decide +kernel⟩, List.mem_of_getElem? (i := 538) (by decide +kernel), List.mem_of_getElem? (i := 850) (by decide +kernel), List.mem_of_getElem? (i := 851) (by decide +kernel)⟩
def lw_privs_4 : List (MethodName × Nat) := [(⟨"ShuttleDoorsModel", "readsRider", "()Z"⟩, 16), (⟨"ShuttleDoorsModel", "readsSign", "(III)Z"⟩, 16), (⟨"ShuttleDoorsModel", "next", "()I"⟩, 16), (⟨"ShuttleDoorsModel", "ridersOfPad", "()I"⟩, 16)]
theorem lw_r4 : ∀ q ∈ lw_privs_4, lw_okq q := List.forall_mem_cons.mpr ⟨lw_p48, List.forall_mem_cons.mpr ⟨lw_p49, List.forall_mem_cons.mpr ⟨lw_p50, List.forall_mem_cons.mpr ⟨lw_p51, fun _ h => absurd h List.not_mem_nil⟩⟩⟩⟩
def lw_privs : List (MethodName × Nat) := lw_privs_1 ++ (lw_privs_2 ++ (lw_privs_3 ++ (lw_privs_4)))
def lw_tbl : List Cond := k2_sels lw_privs ++ tables_1
theorem lw_privs_ok : ∀ q ∈ lw_privs, lw_okq q := by
  show ∀ q ∈ lw_privs_1 ++ (lw_privs_2 ++ (lw_privs_3 ++ (lw_privs_4))), lw_okq q
  exact List.forall_mem_append.mpr ⟨lw_r1, List.forall_mem_append.mpr ⟨lw_r2, List.forall_mem_append.mpr ⟨lw_r3, lw_r4⟩⟩⟩
end
section
def RX0 : String := "ShuttleDoors$History"
def TX0 : u_T := fun k => match k with
  | 0 => ("ShuttleDoors$History", "states", "[LShuttleDoors$State;", true)
  | 1 => ("ShuttleDoors$History", "oldest", "I", false)
  | _ => ("ShuttleDoors$History", "size", "I", false)
def tyX0 : Nat → FieldType := fun k => match k with
  | 0 => .array (.object "ShuttleDoors$State")
  | 1 => .int
  | _ => .int
abbrev wsX00 : List Cond := u_ws RX0 TX0 3
theorem nmX0 : ∀ a, a < 3 → ∀ b, b < 3 → a ≠ b → (TX0 a).2.1 ≠ (TX0 b).2.1 := by decide +kernel
theorem tyX0_ok : ∀ k, k < 3 → parseFieldDescriptor (TX0 k).2.2.1 = some (tyX0 k) := by decide +kernel
abbrev cX0_init : ByteArray := prog_2_method_1_code
def yX0_init : MethodName := ⟨RX0, "<init>", "()V"⟩
abbrev cX0_record : ByteArray := prog_2_method_2_code
def yX0_record : MethodName := ⟨RX0, "record", "(LShuttleDoors$State;)V"⟩
abbrev cX0_takeBack : ByteArray := prog_2_method_3_code
def yX0_takeBack : MethodName := ⟨RX0, "takeBack", "(LShuttleDoors$State;)V"⟩
def RX1 : String := "ShuttleDoors$Pad"
def TX1 : u_T := fun k => match k with
  | 0 => ("ShuttleDoors$Pad", "codes", "[I", true)
  | _ => ("ShuttleDoors$Pad", "length", "I", false)
def tyX1 : Nat → FieldType := fun k => match k with
  | 0 => .array .int
  | _ => .int
abbrev wsX10 : List Cond := u_ws RX1 TX1 2
theorem nmX1 : ∀ a, a < 2 → ∀ b, b < 2 → a ≠ b → (TX1 a).2.1 ≠ (TX1 b).2.1 := by decide +kernel
theorem tyX1_ok : ∀ k, k < 2 → parseFieldDescriptor (TX1 k).2.2.1 = some (tyX1 k) := by decide +kernel
abbrev cX1_init : ByteArray := prog_3_method_1_code
def yX1_init : MethodName := ⟨RX1, "<init>", "()V"⟩
abbrev cX1_charactersIn : ByteArray := prog_3_method_2_code
def yX1_charactersIn : MethodName := ⟨RX1, "charactersIn", "(J)I"⟩
abbrev cX1_append : ByteArray := prog_3_method_3_code
def yX1_append : MethodName := ⟨RX1, "append", "(JI)V"⟩
abbrev cX1_firstFault : ByteArray := prog_3_method_4_code
def yX1_firstFault : MethodName := ⟨RX1, "firstFault", "()I"⟩
abbrev cX1_mayEnd : ByteArray := prog_3_method_5_code
def yX1_mayEnd : MethodName := ⟨RX1, "mayEnd", "(I)Z"⟩
abbrev cX1_after : ByteArray := prog_3_method_6_code
def yX1_after : MethodName := ⟨RX1, "after", "(II)I"⟩
abbrev cX1_afterFirstDigit : ByteArray := prog_3_method_7_code
def yX1_afterFirstDigit : MethodName := ⟨RX1, "afterFirstDigit", "(I)I"⟩
abbrev cX1_afterDoor : ByteArray := prog_3_method_8_code
def yX1_afterDoor : MethodName := ⟨RX1, "afterDoor", "(I)I"⟩
abbrev cX1_isDigit : ByteArray := prog_3_method_9_code
def yX1_isDigit : MethodName := ⟨RX1, "isDigit", "(I)Z"⟩
abbrev cX1_riderCount : ByteArray := prog_3_method_10_code
def yX1_riderCount : MethodName := ⟨RX1, "riderCount", "()I"⟩
abbrev cX1_addRidersTo : ByteArray := prog_3_method_11_code
def yX1_addRidersTo : MethodName := ⟨RX1, "addRidersTo", "(LShuttleDoors$State;)V"⟩
abbrev cX1_addRiderTo : ByteArray := prog_3_method_12_code
def yX1_addRiderTo : MethodName := ⟨RX1, "addRiderTo", "(LShuttleDoors$State;I)I"⟩
abbrev cX1_codeAt : ByteArray := prog_3_method_13_code
def yX1_codeAt : MethodName := ⟨RX1, "codeAt", "(I)I"⟩
def RX2 : String := "ShuttleDoors$Plan"
def TX2 : u_T := fun k => match k with
  | 0 => ("ShuttleDoors$Plan", "order", "[I", true)
  | 1 => ("ShuttleDoors$Plan", "ready", "[I", true)
  | 2 => ("ShuttleDoors$Plan", "vans", "[I", true)
  | 3 => ("ShuttleDoors$Plan", "peopleIn", "[I", true)
  | 4 => ("ShuttleDoors$Plan", "areasOf", "[I", true)
  | 5 => ("ShuttleDoors$Plan", "strandedRiders", "I", false)
  | 6 => ("ShuttleDoors$Plan", "strandedPeople", "I", false)
  | _ => ("ShuttleDoors$Plan", "waiting", "I", false)
def tyX2 : Nat → FieldType := fun k => match k with
  | 0 => .array .int
  | 1 => .array .int
  | 2 => .array .int
  | 3 => .array .int
  | 4 => .array .int
  | 5 => .int
  | 6 => .int
  | _ => .int
abbrev wsX20 : List Cond := u_ws RX2 TX2 8
theorem nmX2 : ∀ a, a < 8 → ∀ b, b < 8 → a ≠ b → (TX2 a).2.1 ≠ (TX2 b).2.1 := by decide +kernel
theorem tyX2_ok : ∀ k, k < 8 → parseFieldDescriptor (TX2 k).2.2.1 = some (tyX2 k) := by decide +kernel
abbrev cX2_init : ByteArray := prog_4_method_1_code
def yX2_init : MethodName := ⟨RX2, "<init>", "()V"⟩
abbrev cX2_make : ByteArray := prog_4_method_2_code
def yX2_make : MethodName := ⟨RX2, "make", "(LShuttleDoors$State;)V"⟩
abbrev cX2_lineUp : ByteArray := prog_4_method_3_code
def yX2_lineUp : MethodName := ⟨RX2, "lineUp", "(LShuttleDoors$State;)V"⟩
abbrev cX2_board : ByteArray := prog_4_method_4_code
def yX2_board : MethodName := ⟨RX2, "board", "(LShuttleDoors$State;)V"⟩
abbrev cX2_boardOne : ByteArray := prog_4_method_5_code
def yX2_boardOne : MethodName := ⟨RX2, "boardOne", "(LShuttleDoors$State;I)V"⟩
abbrev cX2_firstVanFor : ByteArray := prog_4_method_6_code
def yX2_firstVanFor : MethodName := ⟨RX2, "firstVanFor", "(LShuttleDoors$State;I)I"⟩
abbrev cX2_takes : ByteArray := prog_4_method_7_code
def yX2_takes : MethodName := ⟨RX2, "takes", "(LShuttleDoors$State;II)Z"⟩
abbrev cX2_waitOf : ByteArray := prog_4_method_8_code
def yX2_waitOf : MethodName := ⟨RX2, "waitOf", "(LShuttleDoors$State;I)I"⟩
abbrev cX2_isAtKerb : ByteArray := prog_4_method_9_code
def yX2_isAtKerb : MethodName := ⟨RX2, "isAtKerb", "(LShuttleDoors$State;II)Z"⟩
abbrev cX2_ridersIn : ByteArray := prog_4_method_10_code
def yX2_ridersIn : MethodName := ⟨RX2, "ridersIn", "(LShuttleDoors$State;I)I"⟩
abbrev cX2_vansWithRiders : ByteArray := prog_4_method_11_code
def yX2_vansWithRiders : MethodName := ⟨RX2, "vansWithRiders", "()I"⟩
abbrev cX2_peopleOfFlight : ByteArray := prog_4_method_12_code
def yX2_peopleOfFlight : MethodName := ⟨RX2, "peopleOfFlight", "(LShuttleDoors$State;IZ)I"⟩
abbrev cX2_othersAtStop : ByteArray := prog_4_method_13_code
def yX2_othersAtStop : MethodName := ⟨RX2, "othersAtStop", "(LShuttleDoors$State;I)I"⟩
abbrev cX2_faresOf : ByteArray := prog_4_method_14_code
def yX2_faresOf : MethodName := ⟨RX2, "faresOf", "(LShuttleDoors$State;I)I"⟩
abbrev cX2_fare : ByteArray := prog_4_method_15_code
def yX2_fare : MethodName := ⟨RX2, "fare", "(LShuttleDoors$State;I)I"⟩
abbrev cX2_share : ByteArray := prog_4_method_16_code
def yX2_share : MethodName := ⟨RX2, "share", "(LShuttleDoors$State;IIZ)I"⟩
abbrev cX2_shares : ByteArray := prog_4_method_17_code
def yX2_shares : MethodName := ⟨RX2, "shares", "(LShuttleDoors$State;IIZ)Z"⟩
def RX3 : String := "ShuttleDoors$State"
def TX3 : u_T := fun k => match k with
  | 0 => ("ShuttleDoors$State", "settings", "[I", true)
  | 1 => ("ShuttleDoors$State", "lands", "[I", true)
  | 2 => ("ShuttleDoors$State", "delays", "[I", true)
  | 3 => ("ShuttleDoors$State", "leaves", "[I", true)
  | 4 => ("ShuttleDoors$State", "seats", "[I", true)
  | 5 => ("ShuttleDoors$State", "flights", "[I", true)
  | 6 => ("ShuttleDoors$State", "areas", "[I", true)
  | 7 => ("ShuttleDoors$State", "doors", "[I", true)
  | 8 => ("ShuttleDoors$State", "people", "[I", true)
  | _ => ("ShuttleDoors$State", "riders", "I", false)
def tyX3 : Nat → FieldType := fun k => match k with
  | 0 => .array .int
  | 1 => .array .int
  | 2 => .array .int
  | 3 => .array .int
  | 4 => .array .int
  | 5 => .array .int
  | 6 => .array .int
  | 7 => .array .int
  | 8 => .array .int
  | _ => .int
abbrev wsX30 : List Cond := u_ws RX3 TX3 10
theorem nmX3 : ∀ a, a < 10 → ∀ b, b < 10 → a ≠ b → (TX3 a).2.1 ≠ (TX3 b).2.1 := by decide +kernel
theorem tyX3_ok : ∀ k, k < 10 → parseFieldDescriptor (TX3 k).2.2.1 = some (tyX3 k) := by decide +kernel
abbrev cX3_init : ByteArray := prog_5_method_1_code
def yX3_init : MethodName := ⟨RX3, "<init>", "()V"⟩
abbrev cX3_copyFrom : ByteArray := prog_5_method_2_code
def yX3_copyFrom : MethodName := ⟨RX3, "copyFrom", "(LShuttleDoors$State;)V"⟩
abbrev cX3_addRider : ByteArray := prog_5_method_3_code
def yX3_addRider : MethodName := ⟨RX3, "addRider", "(IIII)V"⟩
abbrev cX3_removeRider : ByteArray := prog_5_method_4_code
def yX3_removeRider : MethodName := ⟨RX3, "removeRider", "(I)V"⟩
abbrev cX3_flightReady : ByteArray := prog_5_method_5_code
def yX3_flightReady : MethodName := ⟨RX3, "flightReady", "(I)I"⟩
abbrev cX3_riderReady : ByteArray := prog_5_method_6_code
def yX3_riderReady : MethodName := ⟨RX3, "riderReady", "(I)I"⟩
abbrev cX3_allPeople : ByteArray := prog_5_method_7_code
def yX3_allPeople : MethodName := ⟨RX3, "allPeople", "()I"⟩
abbrev cX3_stopKey : ByteArray := prog_5_method_8_code
def yX3_stopKey : MethodName := ⟨RX3, "stopKey", "(I)I"⟩
abbrev cX3_areaOfStop : ByteArray := prog_5_method_9_code
def yX3_areaOfStop : MethodName := ⟨RX3, "areaOfStop", "(I)I"⟩
abbrev cX3_doorOfStop : ByteArray := prog_5_method_10_code
def yX3_doorOfStop : MethodName := ⟨RX3, "doorOfStop", "(I)I"⟩
def RX4 : String := "ShuttleDoors$Way"
def TX4 : u_T := fun k => match k with
  | 0 => ("ShuttleDoors$Way", "keys", "[I", true)
  | 1 => ("ShuttleDoors$Way", "people", "[I", true)
  | 2 => ("ShuttleDoors$Way", "minutes", "[I", true)
  | _ => ("ShuttleDoors$Way", "stops", "I", false)
def tyX4 : Nat → FieldType := fun k => match k with
  | 0 => .array .int
  | 1 => .array .int
  | 2 => .array .int
  | _ => .int
abbrev wsX40 : List Cond := u_ws RX4 TX4 4
theorem nmX4 : ∀ a, a < 4 → ∀ b, b < 4 → a ≠ b → (TX4 a).2.1 ≠ (TX4 b).2.1 := by decide +kernel
theorem tyX4_ok : ∀ k, k < 4 → parseFieldDescriptor (TX4 k).2.2.1 = some (tyX4 k) := by decide +kernel
abbrev cX4_init : ByteArray := prog_6_method_1_code
def yX4_init : MethodName := ⟨RX4, "<init>", "()V"⟩
abbrev cX4_follow : ByteArray := prog_6_method_2_code
def yX4_follow : MethodName := ⟨RX4, "follow", "(LShuttleDoors$State;LShuttleDoors$Plan;I)V"⟩
abbrev cX4_letOut : ByteArray := prog_6_method_3_code
def yX4_letOut : MethodName := ⟨RX4, "letOut", "(II)V"⟩
abbrev cX4_placeFor : ByteArray := prog_6_method_4_code
def yX4_placeFor : MethodName := ⟨RX4, "placeFor", "(I)I"⟩
abbrev cX4_openStop : ByteArray := prog_6_method_5_code
def yX4_openStop : MethodName := ⟨RX4, "openStop", "(II)V"⟩
abbrev cX4_tellMinutes : ByteArray := prog_6_method_6_code
def yX4_tellMinutes : MethodName := ⟨RX4, "tellMinutes", "(I)V"⟩
abbrev cX4_lastMinute : ByteArray := prog_6_method_7_code
def yX4_lastMinute : MethodName := ⟨RX4, "lastMinute", "()I"⟩
abbrev cX4_minuteAt : ByteArray := prog_6_method_8_code
def yX4_minuteAt : MethodName := ⟨RX4, "minuteAt", "(I)I"⟩
def RX5 : String := "ShuttleDoors"
def TX5 : u_T := fun k => match k with
  | 0 => ("ShuttleDoors", "now", "LShuttleDoors$State;", true)
  | 1 => ("ShuttleDoors", "plan", "LShuttleDoors$Plan;", true)
  | 2 => ("ShuttleDoors", "way", "LShuttleDoors$Way;", true)
  | 3 => ("ShuttleDoors", "trial", "LShuttleDoors$State;", true)
  | 4 => ("ShuttleDoors", "trialPlan", "LShuttleDoors$Plan;", true)
  | 5 => ("ShuttleDoors", "pad", "LShuttleDoors$Pad;", true)
  | 6 => ("ShuttleDoors", "history", "LShuttleDoors$History;", true)
  | _ => ("ShuttleDoors", "slots", "[LShuttleDoors$State;", true)
def tyX5 : Nat → FieldType := fun k => match k with
  | 0 => .object "ShuttleDoors$State"
  | 1 => .object "ShuttleDoors$Plan"
  | 2 => .object "ShuttleDoors$Way"
  | 3 => .object "ShuttleDoors$State"
  | 4 => .object "ShuttleDoors$Plan"
  | 5 => .object "ShuttleDoors$Pad"
  | 6 => .object "ShuttleDoors$History"
  | _ => .array (.object "ShuttleDoors$State")
abbrev wsX50 : List Cond := u_ws RX5 TX5 8
theorem nmX5 : ∀ a, a < 8 → ∀ b, b < 8 → a ≠ b → (TX5 a).2.1 ≠ (TX5 b).2.1 := by decide +kernel
theorem tyX5_ok : ∀ k, k < 8 → parseFieldDescriptor (TX5 k).2.2.1 = some (tyX5 k) := by decide +kernel
abbrev cX5_init : ByteArray := prog_1_method_1_code
def yX5_init : MethodName := ⟨RX5, "<init>", "()V"⟩
abbrev cX5_set : ByteArray := prog_1_method_2_code
def yX5_set : MethodName := ⟨RX5, "set", "(II)I"⟩
abbrev cX5_land : ByteArray := prog_1_method_3_code
def yX5_land : MethodName := ⟨RX5, "land", "(II)I"⟩
abbrev cX5_delay : ByteArray := prog_1_method_4_code
def yX5_delay : MethodName := ⟨RX5, "delay", "(II)I"⟩
abbrev cX5_van : ByteArray := prog_1_method_5_code
def yX5_van : MethodName := ⟨RX5, "van", "(III)I"⟩
abbrev cX5_ride : ByteArray := prog_1_method_6_code
def yX5_ride : MethodName := ⟨RX5, "ride", "(IIII)I"⟩
abbrev cX5_read : ByteArray := prog_1_method_7_code
def yX5_read : MethodName := ⟨RX5, "read", "()I"⟩
abbrev cX5_cancel : ByteArray := prog_1_method_8_code
def yX5_cancel : MethodName := ⟨RX5, "cancel", "(I)I"⟩
abbrev cX5_rebook : ByteArray := prog_1_method_9_code
def yX5_rebook : MethodName := ⟨RX5, "rebook", "(II)I"⟩
abbrev cX5_rider : ByteArray := prog_1_method_10_code
def yX5_rider : MethodName := ⟨RX5, "rider", "(II)I"⟩
abbrev cX5_vanOf : ByteArray := prog_1_method_11_code
def yX5_vanOf : MethodName := ⟨RX5, "vanOf", "(II)I"⟩
abbrev cX5_flight : ByteArray := prog_1_method_12_code
def yX5_flight : MethodName := ⟨RX5, "flight", "(II)I"⟩
abbrev cX5_stop : ByteArray := prog_1_method_13_code
def yX5_stop : MethodName := ⟨RX5, "stop", "(III)I"⟩
abbrev cX5_count : ByteArray := prog_1_method_14_code
def yX5_count : MethodName := ⟨RX5, "count", "(I)I"⟩
abbrev cX5_kerb : ByteArray := prog_1_method_15_code
def yX5_kerb : MethodName := ⟨RX5, "kerb", "(I)I"⟩
abbrev cX5_ifDelayed : ByteArray := prog_1_method_16_code
def yX5_ifDelayed : MethodName := ⟨RX5, "ifDelayed", "(III)I"⟩
abbrev cX5_mostDelay : ByteArray := prog_1_method_17_code
def yX5_mostDelay : MethodName := ⟨RX5, "mostDelay", "(I)I"⟩
abbrev cX5_bestMinute : ByteArray := prog_1_method_18_code
def yX5_bestMinute : MethodName := ⟨RX5, "bestMinute", "(I)I"⟩
abbrev cX5_fullest : ByteArray := prog_1_method_19_code
def yX5_fullest : MethodName := ⟨RX5, "fullest", "()I"⟩
abbrev cX5_put : ByteArray := prog_1_method_20_code
def yX5_put : MethodName := ⟨RX5, "put", "(J)I"⟩
abbrev cX5_wipe : ByteArray := prog_1_method_21_code
def yX5_wipe : MethodName := ⟨RX5, "wipe", "()I"⟩
abbrev cX5_fault : ByteArray := prog_1_method_22_code
def yX5_fault : MethodName := ⟨RX5, "fault", "()I"⟩
abbrev cX5_undo : ByteArray := prog_1_method_23_code
def yX5_undo : MethodName := ⟨RX5, "undo", "()I"⟩
abbrev cX5_save : ByteArray := prog_1_method_24_code
def yX5_save : MethodName := ⟨RX5, "save", "(I)I"⟩
abbrev cX5_restore : ByteArray := prog_1_method_25_code
def yX5_restore : MethodName := ⟨RX5, "restore", "(I)I"⟩
abbrev cX5_isIn : ByteArray := prog_1_method_26_code
def yX5_isIn : MethodName := ⟨RX5, "isIn", "(III)Z"⟩
abbrev cX5_isFlight : ByteArray := prog_1_method_27_code
def yX5_isFlight : MethodName := ⟨RX5, "isFlight", "(I)Z"⟩
abbrev cX5_isDelay : ByteArray := prog_1_method_28_code
def yX5_isDelay : MethodName := ⟨RX5, "isDelay", "(I)Z"⟩
abbrev cX5_isVan : ByteArray := prog_1_method_29_code
def yX5_isVan : MethodName := ⟨RX5, "isVan", "(I)Z"⟩
abbrev cX5_isSlot : ByteArray := prog_1_method_30_code
def yX5_isSlot : MethodName := ⟨RX5, "isSlot", "(I)Z"⟩
abbrev cX5_isRider : ByteArray := prog_1_method_31_code
def yX5_isRider : MethodName := ⟨RX5, "isRider", "(I)Z"⟩
abbrev cX5_minuteAtDoor : ByteArray := prog_1_method_32_code
def yX5_minuteAtDoor : MethodName := ⟨RX5, "minuteAtDoor", "(I)I"⟩
abbrev cX5_allFares : ByteArray := prog_1_method_33_code
def yX5_allFares : MethodName := ⟨RX5, "allFares", "()I"⟩
abbrev cX5_allStops : ByteArray := prog_1_method_34_code
def yX5_allStops : MethodName := ⟨RX5, "allStops", "()I"⟩
abbrev cX5_lastAtDoor : ByteArray := prog_1_method_35_code
def yX5_lastAtDoor : MethodName := ⟨RX5, "lastAtDoor", "(LShuttleDoors$State;LShuttleDoors$Plan;)I"⟩
def RX6 : String := "ShuttleDoorsModel"
def TX6 : u_T := fun k => match k with
  | 0 => ("ShuttleDoorsModel", "state", "[I", true)
  | 1 => ("ShuttleDoorsModel", "history", "[I", true)
  | 2 => ("ShuttleDoorsModel", "states", "I", false)
  | 3 => ("ShuttleDoorsModel", "slots", "[I", true)
  | 4 => ("ShuttleDoorsModel", "isSaved", "[I", true)
  | 5 => ("ShuttleDoorsModel", "pad", "[I", true)
  | 6 => ("ShuttleDoorsModel", "length", "I", false)
  | 7 => ("ShuttleDoorsModel", "at", "I", false)
  | 8 => ("ShuttleDoorsModel", "item", "[I", true)
  | 9 => ("ShuttleDoorsModel", "vanFor", "[I", true)
  | 10 => ("ShuttleDoorsModel", "isDone", "[I", true)
  | 11 => ("ShuttleDoorsModel", "left", "[I", true)
  | 12 => ("ShuttleDoorsModel", "areas", "[I", true)
  | 13 => ("ShuttleDoorsModel", "stopAt", "[I", true)
  | 14 => ("ShuttleDoorsModel", "stopMinute", "[I", true)
  | _ => ("ShuttleDoorsModel", "stops", "I", false)
def tyX6 : Nat → FieldType := fun k => match k with
  | 0 => .array .int
  | 1 => .array .int
  | 2 => .int
  | 3 => .array .int
  | 4 => .array .int
  | 5 => .array .int
  | 6 => .int
  | 7 => .int
  | 8 => .array .int
  | 9 => .array .int
  | 10 => .array .int
  | 11 => .array .int
  | 12 => .array .int
  | 13 => .array .int
  | 14 => .array .int
  | _ => .int
abbrev wsX60 : List Cond := u_ws RX6 TX6 16
theorem nmX6 : ∀ a, a < 16 → ∀ b, b < 16 → a ≠ b → (TX6 a).2.1 ≠ (TX6 b).2.1 := by decide +kernel
theorem tyX6_ok : ∀ k, k < 16 → parseFieldDescriptor (TX6 k).2.2.1 = some (tyX6 k) := by decide +kernel
abbrev cX6_init : ByteArray := prog_8_method_1_code
def yX6_init : MethodName := ⟨RX6, "<init>", "()V"⟩
abbrev cX6_within : ByteArray := prog_8_method_2_code
def yX6_within : MethodName := ⟨RX6, "within", "(III)Z"⟩
abbrev cX6_isFlight : ByteArray := prog_8_method_3_code
def yX6_isFlight : MethodName := ⟨RX6, "isFlight", "(I)Z"⟩
abbrev cX6_isVan : ByteArray := prog_8_method_4_code
def yX6_isVan : MethodName := ⟨RX6, "isVan", "(I)Z"⟩
abbrev cX6_isRider : ByteArray := prog_8_method_5_code
def yX6_isRider : MethodName := ⟨RX6, "isRider", "(I)Z"⟩
abbrev cX6_of : ByteArray := prog_8_method_6_code
def yX6_of : MethodName := ⟨RX6, "of", "(II)I"⟩
abbrev cX6_record : ByteArray := prog_8_method_7_code
def yX6_record : MethodName := ⟨RX6, "record", "()V"⟩
abbrev cX6_undo : ByteArray := prog_8_method_8_code
def yX6_undo : MethodName := ⟨RX6, "undo", "()I"⟩
abbrev cX6_save : ByteArray := prog_8_method_9_code
def yX6_save : MethodName := ⟨RX6, "save", "(I)I"⟩
abbrev cX6_restore : ByteArray := prog_8_method_10_code
def yX6_restore : MethodName := ⟨RX6, "restore", "(I)I"⟩
abbrev cX6_readyOf : ByteArray := prog_8_method_11_code
def yX6_readyOf : MethodName := ⟨RX6, "readyOf", "(I)I"⟩
abbrev cX6_ready : ByteArray := prog_8_method_12_code
def yX6_ready : MethodName := ⟨RX6, "ready", "(I)I"⟩
abbrev cX6_ones : ByteArray := prog_8_method_13_code
def yX6_ones : MethodName := ⟨RX6, "ones", "(I)I"⟩
abbrev cX6_canTake : ByteArray := prog_8_method_14_code
def yX6_canTake : MethodName := ⟨RX6, "canTake", "(II)Z"⟩
abbrev cX6_nextRider : ByteArray := prog_8_method_15_code
def yX6_nextRider : MethodName := ⟨RX6, "nextRider", "()I"⟩
abbrev cX6_firstVan : ByteArray := prog_8_method_16_code
def yX6_firstVan : MethodName := ⟨RX6, "firstVan", "(I)I"⟩
abbrev cX6_lay : ByteArray := prog_8_method_17_code
def yX6_lay : MethodName := ⟨RX6, "lay", "()V"⟩
abbrev cX6_keyOf : ByteArray := prog_8_method_18_code
def yX6_keyOf : MethodName := ⟨RX6, "keyOf", "(I)I"⟩
abbrev cX6_layStops : ByteArray := prog_8_method_19_code
def yX6_layStops : MethodName := ⟨RX6, "layStops", "(I)V"⟩
abbrev cX6_minuteAt : ByteArray := prog_8_method_20_code
def yX6_minuteAt : MethodName := ⟨RX6, "minuteAt", "(II)I"⟩
abbrev cX6_isWith : ByteArray := prog_8_method_21_code
def yX6_isWith : MethodName := ⟨RX6, "isWith", "(IIZ)Z"⟩
abbrev cX6_part : ByteArray := prog_8_method_22_code
def yX6_part : MethodName := ⟨RX6, "part", "(IIZ)I"⟩
abbrev cX6_fare : ByteArray := prog_8_method_23_code
def yX6_fare : MethodName := ⟨RX6, "fare", "(I)I"⟩
abbrev cX6_strandedPeople : ByteArray := prog_8_method_24_code
def yX6_strandedPeople : MethodName := ⟨RX6, "strandedPeople", "()I"⟩
abbrev cX6_waiting : ByteArray := prog_8_method_25_code
def yX6_waiting : MethodName := ⟨RX6, "waiting", "()I"⟩
abbrev cX6_lastMinute : ByteArray := prog_8_method_26_code
def yX6_lastMinute : MethodName := ⟨RX6, "lastMinute", "()I"⟩
abbrev cX6_leastOf : ByteArray := prog_8_method_27_code
def yX6_leastOf : MethodName := ⟨RX6, "leastOf", "(I)I"⟩
abbrev cX6_mostOf : ByteArray := prog_8_method_28_code
def yX6_mostOf : MethodName := ⟨RX6, "mostOf", "(I)I"⟩
abbrev cX6_set : ByteArray := prog_8_method_29_code
def yX6_set : MethodName := ⟨RX6, "set", "(II)I"⟩
abbrev cX6_land : ByteArray := prog_8_method_30_code
def yX6_land : MethodName := ⟨RX6, "land", "(II)I"⟩
abbrev cX6_delay : ByteArray := prog_8_method_31_code
def yX6_delay : MethodName := ⟨RX6, "delay", "(II)I"⟩
abbrev cX6_van : ByteArray := prog_8_method_32_code
def yX6_van : MethodName := ⟨RX6, "van", "(III)I"⟩
abbrev cX6_add : ByteArray := prog_8_method_33_code
def yX6_add : MethodName := ⟨RX6, "add", "(IIII)V"⟩
abbrev cX6_ride : ByteArray := prog_8_method_34_code
def yX6_ride : MethodName := ⟨RX6, "ride", "(IIII)I"⟩
abbrev cX6_cancel : ByteArray := prog_8_method_35_code
def yX6_cancel : MethodName := ⟨RX6, "cancel", "(I)I"⟩
abbrev cX6_rebook : ByteArray := prog_8_method_36_code
def yX6_rebook : MethodName := ⟨RX6, "rebook", "(II)I"⟩
abbrev cX6_sharing : ByteArray := prog_8_method_37_code
def yX6_sharing : MethodName := ⟨RX6, "sharing", "(I)I"⟩
abbrev cX6_tellsDriven : ByteArray := prog_8_method_38_code
def yX6_tellsDriven : MethodName := ⟨RX6, "tellsDriven", "(II)I"⟩
abbrev cX6_rider : ByteArray := prog_8_method_39_code
def yX6_rider : MethodName := ⟨RX6, "rider", "(II)I"⟩
abbrev cX6_peopleIn : ByteArray := prog_8_method_40_code
def yX6_peopleIn : MethodName := ⟨RX6, "peopleIn", "(I)I"⟩
abbrev cX6_ridersIn : ByteArray := prog_8_method_41_code
def yX6_ridersIn : MethodName := ⟨RX6, "ridersIn", "(I)I"⟩
abbrev cX6_faresIn : ByteArray := prog_8_method_42_code
def yX6_faresIn : MethodName := ⟨RX6, "faresIn", "(I)I"⟩
abbrev cX6_vanOf : ByteArray := prog_8_method_43_code
def yX6_vanOf : MethodName := ⟨RX6, "vanOf", "(II)I"⟩
abbrev cX6_peopleOf : ByteArray := prog_8_method_44_code
def yX6_peopleOf : MethodName := ⟨RX6, "peopleOf", "(IZ)I"⟩
abbrev cX6_flight : ByteArray := prog_8_method_45_code
def yX6_flight : MethodName := ⟨RX6, "flight", "(II)I"⟩
abbrev cX6_gettingOut : ByteArray := prog_8_method_46_code
def yX6_gettingOut : MethodName := ⟨RX6, "gettingOut", "(II)I"⟩
abbrev cX6_stop : ByteArray := prog_8_method_47_code
def yX6_stop : MethodName := ⟨RX6, "stop", "(III)I"⟩
abbrev cX6_allPeople : ByteArray := prog_8_method_48_code
def yX6_allPeople : MethodName := ⟨RX6, "allPeople", "()I"⟩
abbrev cX6_strandedRiders : ByteArray := prog_8_method_49_code
def yX6_strandedRiders : MethodName := ⟨RX6, "strandedRiders", "()I"⟩
abbrev cX6_allFares : ByteArray := prog_8_method_50_code
def yX6_allFares : MethodName := ⟨RX6, "allFares", "()I"⟩
abbrev cX6_usedVans : ByteArray := prog_8_method_51_code
def yX6_usedVans : MethodName := ⟨RX6, "usedVans", "()I"⟩
abbrev cX6_allStops : ByteArray := prog_8_method_52_code
def yX6_allStops : MethodName := ⟨RX6, "allStops", "()I"⟩
abbrev cX6_count : ByteArray := prog_8_method_53_code
def yX6_count : MethodName := ⟨RX6, "count", "(I)I"⟩
abbrev cX6_kerb : ByteArray := prog_8_method_54_code
def yX6_kerb : MethodName := ⟨RX6, "kerb", "(I)I"⟩
abbrev cX6_ifDelayed : ByteArray := prog_8_method_55_code
def yX6_ifDelayed : MethodName := ⟨RX6, "ifDelayed", "(III)I"⟩
abbrev cX6_mostDelay : ByteArray := prog_8_method_56_code
def yX6_mostDelay : MethodName := ⟨RX6, "mostDelay", "(I)I"⟩
abbrev cX6_bestMinute : ByteArray := prog_8_method_57_code
def yX6_bestMinute : MethodName := ⟨RX6, "bestMinute", "(I)I"⟩
abbrev cX6_fullest : ByteArray := prog_8_method_58_code
def yX6_fullest : MethodName := ⟨RX6, "fullest", "()I"⟩
abbrev cX6_codeAt : ByteArray := prog_8_method_59_code
def yX6_codeAt : MethodName := ⟨RX6, "codeAt", "(JI)I"⟩
abbrev cX6_charactersIn : ByteArray := prog_8_method_60_code
def yX6_charactersIn : MethodName := ⟨RX6, "charactersIn", "(J)I"⟩
abbrev cX6_put : ByteArray := prog_8_method_61_code
def yX6_put : MethodName := ⟨RX6, "put", "(J)I"⟩
abbrev cX6_wipe : ByteArray := prog_8_method_62_code
def yX6_wipe : MethodName := ⟨RX6, "wipe", "()I"⟩
abbrev cX6_next : ByteArray := prog_8_method_63_code
def yX6_next : MethodName := ⟨RX6, "next", "()I"⟩
abbrev cX6_readsSign : ByteArray := prog_8_method_64_code
def yX6_readsSign : MethodName := ⟨RX6, "readsSign", "(III)Z"⟩
abbrev cX6_readsRider : ByteArray := prog_8_method_65_code
def yX6_readsRider : MethodName := ⟨RX6, "readsRider", "()Z"⟩
abbrev cX6_findFault : ByteArray := prog_8_method_66_code
def yX6_findFault : MethodName := ⟨RX6, "findFault", "()I"⟩
abbrev cX6_ridersOfPad : ByteArray := prog_8_method_67_code
def yX6_ridersOfPad : MethodName := ⟨RX6, "ridersOfPad", "()I"⟩
abbrev cX6_read : ByteArray := prog_8_method_68_code
def yX6_read : MethodName := ⟨RX6, "read", "()I"⟩
abbrev cX6_fault : ByteArray := prog_8_method_69_code
def yX6_fault : MethodName := ⟨RX6, "fault", "()I"⟩
def RJ6 : String := "java/lang/Integer"
def TJ6 : u_T := fun k => match k with
  | _ => ("", "", "", false)
def tyJ6 : Nat → FieldType := fun k => match k with
  | _ => .int
abbrev cJ6_bitCount_0f7a4 : ByteArray := prog_9_method_49_code
def yJ6_bitCount_0f7a4 : MethodName := ⟨RJ6, "bitCount", "(I)I"⟩
def RJ9 : String := "java/lang/Math"
def TJ9 : u_T := fun k => match k with
  | _ => ("", "", "", false)
def tyJ9 : Nat → FieldType := fun k => match k with
  | _ => .int
abbrev cJ9_max_7cf53 : ByteArray := prog_10_method_65_code
def yJ9_max_7cf53 : MethodName := ⟨RJ9, "max", "(II)I"⟩
def RJ10 : String := "java/lang/System"
def TJ10 : u_T := fun k => match k with
  | _ => ("", "", "", false)
def tyJ10 : Nat → FieldType := fun k => match k with
  | _ => .int
def RL : String := "ShuttleDoorsLaw"
abbrev cL_law : ByteArray := code
def yL_law : MethodName := ⟨RL, "law", "([I)Z"⟩
abbrev vwCl : List vw_C := [(RX0, TX0, 3), (RX1, TX1, 2), (RX2, TX2, 8), (RX3, TX3, 10), (RX4, TX4, 4), (RX5, TX5, 8), (RX6, TX6, 16)]
end
section
def lw_good : List Cond := lw_tbl.filter goodWord
theorem lw_gm {w : Cond} (h : w ∈ lw_tbl) (g : goodWord w = true) : w ∈ lw_good := List.mem_filter.mpr ⟨h, g⟩
theorem tw_se_X2_boardOne : Cond.selects RX2 yX2_boardOne yX2_boardOne ∈ lw_good := lw_gm (List.mem_of_getElem? (i := 0) (by decide +kernel)) (by decide +kernel)
theorem tw_se_X2_firstVanFor : Cond.selects RX2 yX2_firstVanFor yX2_firstVanFor ∈ lw_good := lw_gm (List.mem_of_getElem? (i := 1) (by decide +kernel)) (by decide +kernel)
theorem tw_se_X2_takes : Cond.selects RX2 yX2_takes yX2_takes ∈ lw_good := lw_gm (List.mem_of_getElem? (i := 2) (by decide +kernel)) (by decide +kernel)
theorem tw_se_X1_addRiderTo : Cond.selects RX1 yX1_addRiderTo yX1_addRiderTo ∈ lw_good := lw_gm (List.mem_of_getElem? (i := 3) (by decide +kernel)) (by decide +kernel)
theorem tw_se_X1_codeAt : Cond.selects RX1 yX1_codeAt yX1_codeAt ∈ lw_good := lw_gm (List.mem_of_getElem? (i := 4) (by decide +kernel)) (by decide +kernel)
theorem tw_se_X5_isRider : Cond.selects RX5 yX5_isRider yX5_isRider ∈ lw_good := lw_gm (List.mem_of_getElem? (i := 5) (by decide +kernel)) (by decide +kernel)
theorem tw_se_X2_share : Cond.selects RX2 yX2_share yX2_share ∈ lw_good := lw_gm (List.mem_of_getElem? (i := 6) (by decide +kernel)) (by decide +kernel)
theorem tw_se_X2_shares : Cond.selects RX2 yX2_shares yX2_shares ∈ lw_good := lw_gm (List.mem_of_getElem? (i := 7) (by decide +kernel)) (by decide +kernel)
theorem tw_se_X5_minuteAtDoor : Cond.selects RX5 yX5_minuteAtDoor yX5_minuteAtDoor ∈ lw_good := lw_gm (List.mem_of_getElem? (i := 8) (by decide +kernel)) (by decide +kernel)
theorem tw_se_X4_letOut : Cond.selects RX4 yX4_letOut yX4_letOut ∈ lw_good := lw_gm (List.mem_of_getElem? (i := 9) (by decide +kernel)) (by decide +kernel)
theorem tw_se_X4_placeFor : Cond.selects RX4 yX4_placeFor yX4_placeFor ∈ lw_good := lw_gm (List.mem_of_getElem? (i := 10) (by decide +kernel)) (by decide +kernel)
theorem tw_se_X4_openStop : Cond.selects RX4 yX4_openStop yX4_openStop ∈ lw_good := lw_gm (List.mem_of_getElem? (i := 11) (by decide +kernel)) (by decide +kernel)
theorem tw_se_X4_tellMinutes : Cond.selects RX4 yX4_tellMinutes yX4_tellMinutes ∈ lw_good := lw_gm (List.mem_of_getElem? (i := 12) (by decide +kernel)) (by decide +kernel)
theorem tw_se_X5_allFares : Cond.selects RX5 yX5_allFares yX5_allFares ∈ lw_good := lw_gm (List.mem_of_getElem? (i := 13) (by decide +kernel)) (by decide +kernel)
theorem tw_se_X5_allStops : Cond.selects RX5 yX5_allStops yX5_allStops ∈ lw_good := lw_gm (List.mem_of_getElem? (i := 14) (by decide +kernel)) (by decide +kernel)
theorem tw_se_X5_lastAtDoor : Cond.selects RX5 yX5_lastAtDoor yX5_lastAtDoor ∈ lw_good := lw_gm (List.mem_of_getElem? (i := 15) (by decide +kernel)) (by decide +kernel)
theorem tw_se_X6_record : Cond.selects RX6 yX6_record yX6_record ∈ lw_good := lw_gm (List.mem_of_getElem? (i := 16) (by decide +kernel)) (by decide +kernel)
theorem tw_se_X6_readyOf : Cond.selects RX6 yX6_readyOf yX6_readyOf ∈ lw_good := lw_gm (List.mem_of_getElem? (i := 17) (by decide +kernel)) (by decide +kernel)
theorem tw_se_X6_lay : Cond.selects RX6 yX6_lay yX6_lay ∈ lw_good := lw_gm (List.mem_of_getElem? (i := 18) (by decide +kernel)) (by decide +kernel)
theorem tw_se_X6_nextRider : Cond.selects RX6 yX6_nextRider yX6_nextRider ∈ lw_good := lw_gm (List.mem_of_getElem? (i := 19) (by decide +kernel)) (by decide +kernel)
theorem tw_se_X6_ready : Cond.selects RX6 yX6_ready yX6_ready ∈ lw_good := lw_gm (List.mem_of_getElem? (i := 20) (by decide +kernel)) (by decide +kernel)
theorem tw_se_X6_of : Cond.selects RX6 yX6_of yX6_of ∈ lw_good := lw_gm (List.mem_of_getElem? (i := 21) (by decide +kernel)) (by decide +kernel)
theorem tw_se_X6_firstVan : Cond.selects RX6 yX6_firstVan yX6_firstVan ∈ lw_good := lw_gm (List.mem_of_getElem? (i := 22) (by decide +kernel)) (by decide +kernel)
theorem tw_se_X6_canTake : Cond.selects RX6 yX6_canTake yX6_canTake ∈ lw_good := lw_gm (List.mem_of_getElem? (i := 23) (by decide +kernel)) (by decide +kernel)
theorem tw_se_X6_strandedPeople : Cond.selects RX6 yX6_strandedPeople yX6_strandedPeople ∈ lw_good := lw_gm (List.mem_of_getElem? (i := 24) (by decide +kernel)) (by decide +kernel)
theorem tw_se_X6_add : Cond.selects RX6 yX6_add yX6_add ∈ lw_good := lw_gm (List.mem_of_getElem? (i := 25) (by decide +kernel)) (by decide +kernel)
theorem tw_se_X6_isRider : Cond.selects RX6 yX6_isRider yX6_isRider ∈ lw_good := lw_gm (List.mem_of_getElem? (i := 26) (by decide +kernel)) (by decide +kernel)
theorem tw_se_X6_fare : Cond.selects RX6 yX6_fare yX6_fare ∈ lw_good := lw_gm (List.mem_of_getElem? (i := 27) (by decide +kernel)) (by decide +kernel)
theorem tw_se_X6_part : Cond.selects RX6 yX6_part yX6_part ∈ lw_good := lw_gm (List.mem_of_getElem? (i := 28) (by decide +kernel)) (by decide +kernel)
theorem tw_se_X6_isWith : Cond.selects RX6 yX6_isWith yX6_isWith ∈ lw_good := lw_gm (List.mem_of_getElem? (i := 29) (by decide +kernel)) (by decide +kernel)
theorem tw_se_X6_keyOf : Cond.selects RX6 yX6_keyOf yX6_keyOf ∈ lw_good := lw_gm (List.mem_of_getElem? (i := 30) (by decide +kernel)) (by decide +kernel)
theorem tw_se_X6_tellsDriven : Cond.selects RX6 yX6_tellsDriven yX6_tellsDriven ∈ lw_good := lw_gm (List.mem_of_getElem? (i := 31) (by decide +kernel)) (by decide +kernel)
theorem tw_se_X6_minuteAt : Cond.selects RX6 yX6_minuteAt yX6_minuteAt ∈ lw_good := lw_gm (List.mem_of_getElem? (i := 32) (by decide +kernel)) (by decide +kernel)
theorem tw_se_X6_layStops : Cond.selects RX6 yX6_layStops yX6_layStops ∈ lw_good := lw_gm (List.mem_of_getElem? (i := 33) (by decide +kernel)) (by decide +kernel)
theorem tw_se_X6_sharing : Cond.selects RX6 yX6_sharing yX6_sharing ∈ lw_good := lw_gm (List.mem_of_getElem? (i := 34) (by decide +kernel)) (by decide +kernel)
theorem tw_se_X6_peopleIn : Cond.selects RX6 yX6_peopleIn yX6_peopleIn ∈ lw_good := lw_gm (List.mem_of_getElem? (i := 35) (by decide +kernel)) (by decide +kernel)
theorem tw_se_X6_ridersIn : Cond.selects RX6 yX6_ridersIn yX6_ridersIn ∈ lw_good := lw_gm (List.mem_of_getElem? (i := 36) (by decide +kernel)) (by decide +kernel)
theorem tw_se_X6_faresIn : Cond.selects RX6 yX6_faresIn yX6_faresIn ∈ lw_good := lw_gm (List.mem_of_getElem? (i := 37) (by decide +kernel)) (by decide +kernel)
theorem tw_se_X6_peopleOf : Cond.selects RX6 yX6_peopleOf yX6_peopleOf ∈ lw_good := lw_gm (List.mem_of_getElem? (i := 38) (by decide +kernel)) (by decide +kernel)
theorem tw_se_X6_gettingOut : Cond.selects RX6 yX6_gettingOut yX6_gettingOut ∈ lw_good := lw_gm (List.mem_of_getElem? (i := 39) (by decide +kernel)) (by decide +kernel)
theorem tw_se_X6_allPeople : Cond.selects RX6 yX6_allPeople yX6_allPeople ∈ lw_good := lw_gm (List.mem_of_getElem? (i := 40) (by decide +kernel)) (by decide +kernel)
theorem tw_se_X6_strandedRiders : Cond.selects RX6 yX6_strandedRiders yX6_strandedRiders ∈ lw_good := lw_gm (List.mem_of_getElem? (i := 41) (by decide +kernel)) (by decide +kernel)
theorem tw_se_X6_waiting : Cond.selects RX6 yX6_waiting yX6_waiting ∈ lw_good := lw_gm (List.mem_of_getElem? (i := 42) (by decide +kernel)) (by decide +kernel)
theorem tw_se_X6_allFares : Cond.selects RX6 yX6_allFares yX6_allFares ∈ lw_good := lw_gm (List.mem_of_getElem? (i := 43) (by decide +kernel)) (by decide +kernel)
theorem tw_se_X6_usedVans : Cond.selects RX6 yX6_usedVans yX6_usedVans ∈ lw_good := lw_gm (List.mem_of_getElem? (i := 44) (by decide +kernel)) (by decide +kernel)
theorem tw_se_X6_allStops : Cond.selects RX6 yX6_allStops yX6_allStops ∈ lw_good := lw_gm (List.mem_of_getElem? (i := 45) (by decide +kernel)) (by decide +kernel)
theorem tw_se_X6_lastMinute : Cond.selects RX6 yX6_lastMinute yX6_lastMinute ∈ lw_good := lw_gm (List.mem_of_getElem? (i := 46) (by decide +kernel)) (by decide +kernel)
theorem tw_se_X6_findFault : Cond.selects RX6 yX6_findFault yX6_findFault ∈ lw_good := lw_gm (List.mem_of_getElem? (i := 47) (by decide +kernel)) (by decide +kernel)
theorem tw_se_X6_readsRider : Cond.selects RX6 yX6_readsRider yX6_readsRider ∈ lw_good := lw_gm (List.mem_of_getElem? (i := 48) (by decide +kernel)) (by decide +kernel)
theorem tw_se_X6_readsSign : Cond.selects RX6 yX6_readsSign yX6_readsSign ∈ lw_good := lw_gm (List.mem_of_getElem? (i := 49) (by decide +kernel)) (by decide +kernel)
theorem tw_se_X6_next : Cond.selects RX6 yX6_next yX6_next ∈ lw_good := lw_gm (List.mem_of_getElem? (i := 50) (by decide +kernel)) (by decide +kernel)
theorem tw_se_X6_ridersOfPad : Cond.selects RX6 yX6_ridersOfPad yX6_ridersOfPad ∈ lw_good := lw_gm (List.mem_of_getElem? (i := 51) (by decide +kernel)) (by decide +kernel)
theorem tw_in_L : Cond.initialized RL ∈ lw_good := lw_gm (List.mem_of_getElem? (i := 52) (by decide +kernel)) (by decide +kernel)
theorem tw_in_X5 : Cond.initialized RX5 ∈ lw_good := lw_gm (List.mem_of_getElem? (i := 53) (by decide +kernel)) (by decide +kernel)
theorem tw_in_X3 : Cond.initialized RX3 ∈ lw_good := lw_gm (List.mem_of_getElem? (i := 54) (by decide +kernel)) (by decide +kernel)
theorem tw_in_X2 : Cond.initialized RX2 ∈ lw_good := lw_gm (List.mem_of_getElem? (i := 55) (by decide +kernel)) (by decide +kernel)
theorem tw_in_X4 : Cond.initialized RX4 ∈ lw_good := lw_gm (List.mem_of_getElem? (i := 56) (by decide +kernel)) (by decide +kernel)
theorem tw_in_X1 : Cond.initialized RX1 ∈ lw_good := lw_gm (List.mem_of_getElem? (i := 57) (by decide +kernel)) (by decide +kernel)
theorem tw_in_X0 : Cond.initialized RX0 ∈ lw_good := lw_gm (List.mem_of_getElem? (i := 58) (by decide +kernel)) (by decide +kernel)
theorem tw_in_X6 : Cond.initialized RX6 ∈ lw_good := lw_gm (List.mem_of_getElem? (i := 59) (by decide +kernel)) (by decide +kernel)
theorem tw_in_J10 : Cond.initialized RJ10 ∈ lw_good := lw_gm (List.mem_of_getElem? (i := 60) (by decide +kernel)) (by decide +kernel)
theorem tw_in_J6 : Cond.initialized RJ6 ∈ lw_good := lw_gm (List.mem_of_getElem? (i := 61) (by decide +kernel)) (by decide +kernel)
theorem tw_in_J9 : Cond.initialized RJ9 ∈ lw_good := lw_gm (List.mem_of_getElem? (i := 62) (by decide +kernel)) (by decide +kernel)
theorem tw_cl_L_7 : Cond.classLink RL 7 RX5 ∈ lw_good := lw_gm (List.mem_of_getElem? (i := 63) (by decide +kernel)) (by decide +kernel)
theorem tw_is_X5 : Cond.instantiable RX5 8 ∈ lw_good := lw_gm (List.mem_of_getElem? (i := 64) (by decide +kernel)) (by decide +kernel)
theorem tw_ml_L_9 : Cond.methodLink RL 9 yX5_init ∈ lw_good := lw_gm (List.mem_of_getElem? (i := 65) (by decide +kernel)) (by decide +kernel)
theorem tw_im_X5_init : Cond.instanceMethod yX5_init ∈ lw_good := lw_gm (List.mem_of_getElem? (i := 66) (by decide +kernel)) (by decide +kernel)
theorem tw_co_X5_init : Cond.code yX5_init cX5_init 1 none ∈ lw_good := lw_gm (List.mem_of_getElem? (i := 67) (by decide +kernel)) (by decide +kernel)
theorem tw_ml_X5_1 : Cond.methodLink RX5 1 objectInit ∈ lw_good := lw_gm (List.mem_of_getElem? (i := 68) (by decide +kernel)) (by decide +kernel)
theorem tw_im_Object_init : Cond.instanceMethod objectInit ∈ lw_good := lw_gm (List.mem_of_getElem? (i := 69) (by decide +kernel)) (by decide +kernel)
theorem tw_co_Object_init : Cond.code objectInit object_method_1_code 1 none ∈ lw_good := lw_gm (List.mem_of_getElem? (i := 70) (by decide +kernel)) (by decide +kernel)
theorem tw_cl_X5_7 : Cond.classLink RX5 7 RX3 ∈ lw_good := lw_gm (List.mem_of_getElem? (i := 71) (by decide +kernel)) (by decide +kernel)
theorem tw_is_X3 : Cond.instantiable RX3 10 ∈ lw_good := lw_gm (List.mem_of_getElem? (i := 72) (by decide +kernel)) (by decide +kernel)
theorem tw_ml_X5_9 : Cond.methodLink RX5 9 yX3_init ∈ lw_good := lw_gm (List.mem_of_getElem? (i := 73) (by decide +kernel)) (by decide +kernel)
theorem tw_im_X3_init : Cond.instanceMethod yX3_init ∈ lw_good := lw_gm (List.mem_of_getElem? (i := 74) (by decide +kernel)) (by decide +kernel)
theorem tw_co_X3_init : Cond.code yX3_init cX3_init 2 none ∈ lw_good := lw_gm (List.mem_of_getElem? (i := 75) (by decide +kernel)) (by decide +kernel)
theorem tw_ml_X3_3 : Cond.methodLink RX3 3 objectInit ∈ lw_good := lw_gm (List.mem_of_getElem? (i := 76) (by decide +kernel)) (by decide +kernel)
theorem tw_fl_X3_9 : Cond.fieldLink RX3 9 "ShuttleDoors$State" "settings" "[I" ∈ lw_good := lw_gm (List.mem_of_getElem? (i := 79) (by decide +kernel)) (by decide +kernel)
theorem tw_fl_X5_65 : Cond.fieldLink RX5 65 "ShuttleDoors$State" "settings" "[I" ∈ lw_good := lw_gm (List.mem_of_getElem? (i := 80) (by decide +kernel)) (by decide +kernel)
theorem tw_fl_X2_78 : Cond.fieldLink RX2 78 "ShuttleDoors$State" "settings" "[I" ∈ lw_good := lw_gm (List.mem_of_getElem? (i := 81) (by decide +kernel)) (by decide +kernel)
theorem tw_fl_X3_15 : Cond.fieldLink RX3 15 "ShuttleDoors$State" "lands" "[I" ∈ lw_good := lw_gm (List.mem_of_getElem? (i := 82) (by decide +kernel)) (by decide +kernel)
theorem tw_fl_X5_79 : Cond.fieldLink RX5 79 "ShuttleDoors$State" "lands" "[I" ∈ lw_good := lw_gm (List.mem_of_getElem? (i := 83) (by decide +kernel)) (by decide +kernel)
theorem tw_fl_X3_18 : Cond.fieldLink RX3 18 "ShuttleDoors$State" "delays" "[I" ∈ lw_good := lw_gm (List.mem_of_getElem? (i := 84) (by decide +kernel)) (by decide +kernel)
theorem tw_fl_X5_85 : Cond.fieldLink RX5 85 "ShuttleDoors$State" "delays" "[I" ∈ lw_good := lw_gm (List.mem_of_getElem? (i := 85) (by decide +kernel)) (by decide +kernel)
theorem tw_fl_X3_21 : Cond.fieldLink RX3 21 "ShuttleDoors$State" "leaves" "[I" ∈ lw_good := lw_gm (List.mem_of_getElem? (i := 86) (by decide +kernel)) (by decide +kernel)
theorem tw_fl_X4_44 : Cond.fieldLink RX4 44 "ShuttleDoors$State" "leaves" "[I" ∈ lw_good := lw_gm (List.mem_of_getElem? (i := 87) (by decide +kernel)) (by decide +kernel)
theorem tw_fl_X5_95 : Cond.fieldLink RX5 95 "ShuttleDoors$State" "leaves" "[I" ∈ lw_good := lw_gm (List.mem_of_getElem? (i := 88) (by decide +kernel)) (by decide +kernel)
theorem tw_fl_X2_71 : Cond.fieldLink RX2 71 "ShuttleDoors$State" "leaves" "[I" ∈ lw_good := lw_gm (List.mem_of_getElem? (i := 89) (by decide +kernel)) (by decide +kernel)
theorem tw_fl_X3_24 : Cond.fieldLink RX3 24 "ShuttleDoors$State" "seats" "[I" ∈ lw_good := lw_gm (List.mem_of_getElem? (i := 90) (by decide +kernel)) (by decide +kernel)
theorem tw_fl_X5_98 : Cond.fieldLink RX5 98 "ShuttleDoors$State" "seats" "[I" ∈ lw_good := lw_gm (List.mem_of_getElem? (i := 91) (by decide +kernel)) (by decide +kernel)
theorem tw_fl_X2_85 : Cond.fieldLink RX2 85 "ShuttleDoors$State" "seats" "[I" ∈ lw_good := lw_gm (List.mem_of_getElem? (i := 92) (by decide +kernel)) (by decide +kernel)
theorem tw_fl_X3_27 : Cond.fieldLink RX3 27 "ShuttleDoors$State" "flights" "[I" ∈ lw_good := lw_gm (List.mem_of_getElem? (i := 93) (by decide +kernel)) (by decide +kernel)
theorem tw_fl_X5_136 : Cond.fieldLink RX5 136 "ShuttleDoors$State" "flights" "[I" ∈ lw_good := lw_gm (List.mem_of_getElem? (i := 94) (by decide +kernel)) (by decide +kernel)
theorem tw_fl_X2_93 : Cond.fieldLink RX2 93 "ShuttleDoors$State" "flights" "[I" ∈ lw_good := lw_gm (List.mem_of_getElem? (i := 95) (by decide +kernel)) (by decide +kernel)
theorem tw_fl_X3_30 : Cond.fieldLink RX3 30 "ShuttleDoors$State" "areas" "[I" ∈ lw_good := lw_gm (List.mem_of_getElem? (i := 96) (by decide +kernel)) (by decide +kernel)
theorem tw_fl_X2_68 : Cond.fieldLink RX2 68 "ShuttleDoors$State" "areas" "[I" ∈ lw_good := lw_gm (List.mem_of_getElem? (i := 97) (by decide +kernel)) (by decide +kernel)
theorem tw_fl_X5_142 : Cond.fieldLink RX5 142 "ShuttleDoors$State" "areas" "[I" ∈ lw_good := lw_gm (List.mem_of_getElem? (i := 98) (by decide +kernel)) (by decide +kernel)
theorem tw_fl_X3_33 : Cond.fieldLink RX3 33 "ShuttleDoors$State" "doors" "[I" ∈ lw_good := lw_gm (List.mem_of_getElem? (i := 99) (by decide +kernel)) (by decide +kernel)
theorem tw_fl_X5_145 : Cond.fieldLink RX5 145 "ShuttleDoors$State" "doors" "[I" ∈ lw_good := lw_gm (List.mem_of_getElem? (i := 100) (by decide +kernel)) (by decide +kernel)
theorem tw_fl_X3_36 : Cond.fieldLink RX3 36 "ShuttleDoors$State" "people" "[I" ∈ lw_good := lw_gm (List.mem_of_getElem? (i := 101) (by decide +kernel)) (by decide +kernel)
theorem tw_fl_X4_39 : Cond.fieldLink RX4 39 "ShuttleDoors$State" "people" "[I" ∈ lw_good := lw_gm (List.mem_of_getElem? (i := 102) (by decide +kernel)) (by decide +kernel)
theorem tw_fl_X2_57 : Cond.fieldLink RX2 57 "ShuttleDoors$State" "people" "[I" ∈ lw_good := lw_gm (List.mem_of_getElem? (i := 103) (by decide +kernel)) (by decide +kernel)
theorem tw_fl_X5_148 : Cond.fieldLink RX5 148 "ShuttleDoors$State" "people" "[I" ∈ lw_good := lw_gm (List.mem_of_getElem? (i := 104) (by decide +kernel)) (by decide +kernel)
theorem tw_fl_X4_25 : Cond.fieldLink RX4 25 "ShuttleDoors$State" "riders" "I" ∈ lw_good := lw_gm (List.mem_of_getElem? (i := 105) (by decide +kernel)) (by decide +kernel)
theorem tw_fl_X3_48 : Cond.fieldLink RX3 48 "ShuttleDoors$State" "riders" "I" ∈ lw_good := lw_gm (List.mem_of_getElem? (i := 106) (by decide +kernel)) (by decide +kernel)
theorem tw_fl_X2_34 : Cond.fieldLink RX2 34 "ShuttleDoors$State" "riders" "I" ∈ lw_good := lw_gm (List.mem_of_getElem? (i := 107) (by decide +kernel)) (by decide +kernel)
theorem tw_fl_X5_105 : Cond.fieldLink RX5 105 "ShuttleDoors$State" "riders" "I" ∈ lw_good := lw_gm (List.mem_of_getElem? (i := 108) (by decide +kernel)) (by decide +kernel)
theorem tw_ac_int : Cond.arrayClass .int ∈ lw_good := lw_gm (List.mem_of_getElem? (i := 130) (by decide +kernel)) (by decide +kernel)
theorem tw_cl_X5_16 : Cond.classLink RX5 16 RX2 ∈ lw_good := lw_gm (List.mem_of_getElem? (i := 131) (by decide +kernel)) (by decide +kernel)
theorem tw_is_X2 : Cond.instantiable RX2 8 ∈ lw_good := lw_gm (List.mem_of_getElem? (i := 132) (by decide +kernel)) (by decide +kernel)
theorem tw_im_X2_init : Cond.instanceMethod yX2_init ∈ lw_good := lw_gm (List.mem_of_getElem? (i := 134) (by decide +kernel)) (by decide +kernel)
theorem tw_co_X2_init : Cond.code yX2_init cX2_init 1 none ∈ lw_good := lw_gm (List.mem_of_getElem? (i := 135) (by decide +kernel)) (by decide +kernel)
theorem tw_ml_X2_3 : Cond.methodLink RX2 3 objectInit ∈ lw_good := lw_gm (List.mem_of_getElem? (i := 136) (by decide +kernel)) (by decide +kernel)
theorem tw_fl_X2_9 : Cond.fieldLink RX2 9 "ShuttleDoors$Plan" "order" "[I" ∈ lw_good := lw_gm (List.mem_of_getElem? (i := 137) (by decide +kernel)) (by decide +kernel)
theorem tw_fl_X2_15 : Cond.fieldLink RX2 15 "ShuttleDoors$Plan" "ready" "[I" ∈ lw_good := lw_gm (List.mem_of_getElem? (i := 138) (by decide +kernel)) (by decide +kernel)
theorem tw_fl_X2_18 : Cond.fieldLink RX2 18 "ShuttleDoors$Plan" "vans" "[I" ∈ lw_good := lw_gm (List.mem_of_getElem? (i := 139) (by decide +kernel)) (by decide +kernel)
theorem tw_fl_X4_30 : Cond.fieldLink RX4 30 "ShuttleDoors$Plan" "vans" "[I" ∈ lw_good := lw_gm (List.mem_of_getElem? (i := 140) (by decide +kernel)) (by decide +kernel)
theorem tw_fl_X5_139 : Cond.fieldLink RX5 139 "ShuttleDoors$Plan" "vans" "[I" ∈ lw_good := lw_gm (List.mem_of_getElem? (i := 141) (by decide +kernel)) (by decide +kernel)
theorem tw_fl_X2_21 : Cond.fieldLink RX2 21 "ShuttleDoors$Plan" "peopleIn" "[I" ∈ lw_good := lw_gm (List.mem_of_getElem? (i := 142) (by decide +kernel)) (by decide +kernel)
theorem tw_fl_X5_167 : Cond.fieldLink RX5 167 "ShuttleDoors$Plan" "peopleIn" "[I" ∈ lw_good := lw_gm (List.mem_of_getElem? (i := 143) (by decide +kernel)) (by decide +kernel)
theorem tw_fl_X2_24 : Cond.fieldLink RX2 24 "ShuttleDoors$Plan" "areasOf" "[I" ∈ lw_good := lw_gm (List.mem_of_getElem? (i := 144) (by decide +kernel)) (by decide +kernel)
theorem tw_fl_X5_173 : Cond.fieldLink RX5 173 "ShuttleDoors$Plan" "areasOf" "[I" ∈ lw_good := lw_gm (List.mem_of_getElem? (i := 145) (by decide +kernel)) (by decide +kernel)
theorem tw_fl_X2_44 : Cond.fieldLink RX2 44 "ShuttleDoors$Plan" "strandedRiders" "I" ∈ lw_good := lw_gm (List.mem_of_getElem? (i := 146) (by decide +kernel)) (by decide +kernel)
theorem tw_fl_X5_205 : Cond.fieldLink RX5 205 "ShuttleDoors$Plan" "strandedRiders" "I" ∈ lw_good := lw_gm (List.mem_of_getElem? (i := 147) (by decide +kernel)) (by decide +kernel)
theorem tw_fl_X2_47 : Cond.fieldLink RX2 47 "ShuttleDoors$Plan" "strandedPeople" "I" ∈ lw_good := lw_gm (List.mem_of_getElem? (i := 148) (by decide +kernel)) (by decide +kernel)
theorem tw_fl_X5_101 : Cond.fieldLink RX5 101 "ShuttleDoors$Plan" "strandedPeople" "I" ∈ lw_good := lw_gm (List.mem_of_getElem? (i := 149) (by decide +kernel)) (by decide +kernel)
theorem tw_fl_X2_50 : Cond.fieldLink RX2 50 "ShuttleDoors$Plan" "waiting" "I" ∈ lw_good := lw_gm (List.mem_of_getElem? (i := 150) (by decide +kernel)) (by decide +kernel)
theorem tw_fl_X5_208 : Cond.fieldLink RX5 208 "ShuttleDoors$Plan" "waiting" "I" ∈ lw_good := lw_gm (List.mem_of_getElem? (i := 151) (by decide +kernel)) (by decide +kernel)
theorem tw_cl_X5_23 : Cond.classLink RX5 23 RX4 ∈ lw_good := lw_gm (List.mem_of_getElem? (i := 169) (by decide +kernel)) (by decide +kernel)
theorem tw_is_X4 : Cond.instantiable RX4 4 ∈ lw_good := lw_gm (List.mem_of_getElem? (i := 170) (by decide +kernel)) (by decide +kernel)
theorem tw_im_X4_init : Cond.instanceMethod yX4_init ∈ lw_good := lw_gm (List.mem_of_getElem? (i := 172) (by decide +kernel)) (by decide +kernel)
theorem tw_co_X4_init : Cond.code yX4_init cX4_init 1 none ∈ lw_good := lw_gm (List.mem_of_getElem? (i := 173) (by decide +kernel)) (by decide +kernel)
theorem tw_ml_X4_3 : Cond.methodLink RX4 3 objectInit ∈ lw_good := lw_gm (List.mem_of_getElem? (i := 174) (by decide +kernel)) (by decide +kernel)
theorem tw_fl_X4_9 : Cond.fieldLink RX4 9 "ShuttleDoors$Way" "keys" "[I" ∈ lw_good := lw_gm (List.mem_of_getElem? (i := 175) (by decide +kernel)) (by decide +kernel)
theorem tw_fl_X5_189 : Cond.fieldLink RX5 189 "ShuttleDoors$Way" "keys" "[I" ∈ lw_good := lw_gm (List.mem_of_getElem? (i := 176) (by decide +kernel)) (by decide +kernel)
theorem tw_fl_X4_15 : Cond.fieldLink RX4 15 "ShuttleDoors$Way" "people" "[I" ∈ lw_good := lw_gm (List.mem_of_getElem? (i := 177) (by decide +kernel)) (by decide +kernel)
theorem tw_fl_X5_201 : Cond.fieldLink RX5 201 "ShuttleDoors$Way" "people" "[I" ∈ lw_good := lw_gm (List.mem_of_getElem? (i := 178) (by decide +kernel)) (by decide +kernel)
theorem tw_fl_X4_18 : Cond.fieldLink RX4 18 "ShuttleDoors$Way" "minutes" "[I" ∈ lw_good := lw_gm (List.mem_of_getElem? (i := 179) (by decide +kernel)) (by decide +kernel)
theorem tw_fl_X5_198 : Cond.fieldLink RX5 198 "ShuttleDoors$Way" "minutes" "[I" ∈ lw_good := lw_gm (List.mem_of_getElem? (i := 180) (by decide +kernel)) (by decide +kernel)
theorem tw_fl_X4_21 : Cond.fieldLink RX4 21 "ShuttleDoors$Way" "stops" "I" ∈ lw_good := lw_gm (List.mem_of_getElem? (i := 181) (by decide +kernel)) (by decide +kernel)
theorem tw_fl_X5_176 : Cond.fieldLink RX5 176 "ShuttleDoors$Way" "stops" "I" ∈ lw_good := lw_gm (List.mem_of_getElem? (i := 182) (by decide +kernel)) (by decide +kernel)
theorem tw_cl_X5_36 : Cond.classLink RX5 36 RX1 ∈ lw_good := lw_gm (List.mem_of_getElem? (i := 192) (by decide +kernel)) (by decide +kernel)
theorem tw_is_X1 : Cond.instantiable RX1 2 ∈ lw_good := lw_gm (List.mem_of_getElem? (i := 193) (by decide +kernel)) (by decide +kernel)
theorem tw_im_X1_init : Cond.instanceMethod yX1_init ∈ lw_good := lw_gm (List.mem_of_getElem? (i := 195) (by decide +kernel)) (by decide +kernel)
theorem tw_co_X1_init : Cond.code yX1_init cX1_init 1 none ∈ lw_good := lw_gm (List.mem_of_getElem? (i := 196) (by decide +kernel)) (by decide +kernel)
theorem tw_ml_X1_3 : Cond.methodLink RX1 3 objectInit ∈ lw_good := lw_gm (List.mem_of_getElem? (i := 197) (by decide +kernel)) (by decide +kernel)
theorem tw_fl_X1_9 : Cond.fieldLink RX1 9 "ShuttleDoors$Pad" "codes" "[I" ∈ lw_good := lw_gm (List.mem_of_getElem? (i := 198) (by decide +kernel)) (by decide +kernel)
theorem tw_fl_X1_21 : Cond.fieldLink RX1 21 "ShuttleDoors$Pad" "length" "I" ∈ lw_good := lw_gm (List.mem_of_getElem? (i := 199) (by decide +kernel)) (by decide +kernel)
theorem tw_fl_X5_122 : Cond.fieldLink RX5 122 "ShuttleDoors$Pad" "length" "I" ∈ lw_good := lw_gm (List.mem_of_getElem? (i := 200) (by decide +kernel)) (by decide +kernel)
theorem tw_cl_X5_43 : Cond.classLink RX5 43 RX0 ∈ lw_good := lw_gm (List.mem_of_getElem? (i := 206) (by decide +kernel)) (by decide +kernel)
theorem tw_is_X0 : Cond.instantiable RX0 3 ∈ lw_good := lw_gm (List.mem_of_getElem? (i := 207) (by decide +kernel)) (by decide +kernel)
theorem tw_ml_X5_45 : Cond.methodLink RX5 45 yX0_init ∈ lw_good := lw_gm (List.mem_of_getElem? (i := 208) (by decide +kernel)) (by decide +kernel)
theorem tw_im_X0_init : Cond.instanceMethod yX0_init ∈ lw_good := lw_gm (List.mem_of_getElem? (i := 209) (by decide +kernel)) (by decide +kernel)
theorem tw_co_X0_init : Cond.code yX0_init cX0_init 2 none ∈ lw_good := lw_gm (List.mem_of_getElem? (i := 210) (by decide +kernel)) (by decide +kernel)
theorem tw_ml_X0_3 : Cond.methodLink RX0 3 objectInit ∈ lw_good := lw_gm (List.mem_of_getElem? (i := 211) (by decide +kernel)) (by decide +kernel)
theorem tw_cl_X0_9 : Cond.classLink RX0 9 RX3 ∈ lw_good := lw_gm (List.mem_of_getElem? (i := 212) (by decide +kernel)) (by decide +kernel)
theorem tw_ml_X0_17 : Cond.methodLink RX0 17 yX3_init ∈ lw_good := lw_gm (List.mem_of_getElem? (i := 214) (by decide +kernel)) (by decide +kernel)
theorem tw_fl_X0_11 : Cond.fieldLink RX0 11 "ShuttleDoors$History" "states" "[LShuttleDoors$State;" ∈ lw_good := lw_gm (List.mem_of_getElem? (i := 215) (by decide +kernel)) (by decide +kernel)
theorem tw_fl_X0_22 : Cond.fieldLink RX0 22 "ShuttleDoors$History" "oldest" "I" ∈ lw_good := lw_gm (List.mem_of_getElem? (i := 216) (by decide +kernel)) (by decide +kernel)
theorem tw_fl_X0_18 : Cond.fieldLink RX0 18 "ShuttleDoors$History" "size" "I" ∈ lw_good := lw_gm (List.mem_of_getElem? (i := 217) (by decide +kernel)) (by decide +kernel)
theorem tw_fl_X5_224 : Cond.fieldLink RX5 224 "ShuttleDoors$History" "size" "I" ∈ lw_good := lw_gm (List.mem_of_getElem? (i := 218) (by decide +kernel)) (by decide +kernel)
theorem tw_fl_X5_10 : Cond.fieldLink RX5 10 "ShuttleDoors" "now" "LShuttleDoors$State;" ∈ lw_good := lw_gm (List.mem_of_getElem? (i := 226) (by decide +kernel)) (by decide +kernel)
theorem tw_fl_X5_19 : Cond.fieldLink RX5 19 "ShuttleDoors" "plan" "LShuttleDoors$Plan;" ∈ lw_good := lw_gm (List.mem_of_getElem? (i := 227) (by decide +kernel)) (by decide +kernel)
theorem tw_fl_X5_26 : Cond.fieldLink RX5 26 "ShuttleDoors" "way" "LShuttleDoors$Way;" ∈ lw_good := lw_gm (List.mem_of_getElem? (i := 228) (by decide +kernel)) (by decide +kernel)
theorem tw_fl_X5_30 : Cond.fieldLink RX5 30 "ShuttleDoors" "trial" "LShuttleDoors$State;" ∈ lw_good := lw_gm (List.mem_of_getElem? (i := 229) (by decide +kernel)) (by decide +kernel)
theorem tw_fl_X5_33 : Cond.fieldLink RX5 33 "ShuttleDoors" "trialPlan" "LShuttleDoors$Plan;" ∈ lw_good := lw_gm (List.mem_of_getElem? (i := 230) (by decide +kernel)) (by decide +kernel)
theorem tw_fl_X5_39 : Cond.fieldLink RX5 39 "ShuttleDoors" "pad" "LShuttleDoors$Pad;" ∈ lw_good := lw_gm (List.mem_of_getElem? (i := 231) (by decide +kernel)) (by decide +kernel)
theorem tw_fl_X5_46 : Cond.fieldLink RX5 46 "ShuttleDoors" "history" "LShuttleDoors$History;" ∈ lw_good := lw_gm (List.mem_of_getElem? (i := 232) (by decide +kernel)) (by decide +kernel)
theorem tw_fl_X5_50 : Cond.fieldLink RX5 50 "ShuttleDoors" "slots" "[LShuttleDoors$State;" ∈ lw_good := lw_gm (List.mem_of_getElem? (i := 233) (by decide +kernel)) (by decide +kernel)
theorem tw_ml_L_13 : Cond.methodLink RL 13 yX5_set ∈ lw_good := lw_gm (List.mem_of_getElem? (i := 251) (by decide +kernel)) (by decide +kernel)
theorem tw_im_X5_set : Cond.instanceMethod yX5_set ∈ lw_good := lw_gm (List.mem_of_getElem? (i := 252) (by decide +kernel)) (by decide +kernel)
theorem tw_se_X5_set : Cond.selects RX5 yX5_set yX5_set ∈ lw_good := lw_gm (List.mem_of_getElem? (i := 253) (by decide +kernel)) (by decide +kernel)
theorem tw_co_X5_set : Cond.code yX5_set cX5_set 4 (some .int) ∈ lw_good := lw_gm (List.mem_of_getElem? (i := 254) (by decide +kernel)) (by decide +kernel)
theorem tw_ml_X5_54 : Cond.methodLink RX5 54 yX5_isIn ∈ lw_good := lw_gm (List.mem_of_getElem? (i := 255) (by decide +kernel)) (by decide +kernel)
theorem tw_st_X5_isIn : Cond.static yX5_isIn ∈ lw_good := lw_gm (List.mem_of_getElem? (i := 256) (by decide +kernel)) (by decide +kernel)
theorem tw_co_X5_isIn : Cond.code yX5_isIn cX5_isIn 3 (some .boolean) ∈ lw_good := lw_gm (List.mem_of_getElem? (i := 257) (by decide +kernel)) (by decide +kernel)
theorem tw_fl_X5_58 : Cond.fieldLink RX5 58 "ShuttleDoors" "SETTING_LEAST" "[I" ∈ lw_good := lw_gm (List.mem_of_getElem? (i := 258) (by decide +kernel)) (by decide +kernel)
theorem tw_fl_X5_62 : Cond.fieldLink RX5 62 "ShuttleDoors" "SETTING_MOST" "[I" ∈ lw_good := lw_gm (List.mem_of_getElem? (i := 260) (by decide +kernel)) (by decide +kernel)
theorem tw_ml_X5_68 : Cond.methodLink RX5 68 yX0_record ∈ lw_good := lw_gm (List.mem_of_getElem? (i := 262) (by decide +kernel)) (by decide +kernel)
theorem tw_im_X0_record : Cond.instanceMethod yX0_record ∈ lw_good := lw_gm (List.mem_of_getElem? (i := 263) (by decide +kernel)) (by decide +kernel)
theorem tw_se_X0_record : Cond.selects RX0 yX0_record yX0_record ∈ lw_good := lw_gm (List.mem_of_getElem? (i := 264) (by decide +kernel)) (by decide +kernel)
theorem tw_co_X0_record : Cond.code yX0_record cX0_record 2 none ∈ lw_good := lw_gm (List.mem_of_getElem? (i := 265) (by decide +kernel)) (by decide +kernel)
theorem tw_ml_X0_25 : Cond.methodLink RX0 25 yX3_copyFrom ∈ lw_good := lw_gm (List.mem_of_getElem? (i := 266) (by decide +kernel)) (by decide +kernel)
theorem tw_im_X3_copyFrom : Cond.instanceMethod yX3_copyFrom ∈ lw_good := lw_gm (List.mem_of_getElem? (i := 267) (by decide +kernel)) (by decide +kernel)
theorem tw_se_X3_copyFrom : Cond.selects RX3 yX3_copyFrom yX3_copyFrom ∈ lw_good := lw_gm (List.mem_of_getElem? (i := 268) (by decide +kernel)) (by decide +kernel)
theorem tw_co_X3_copyFrom : Cond.code yX3_copyFrom cX3_copyFrom 2 none ∈ lw_good := lw_gm (List.mem_of_getElem? (i := 269) (by decide +kernel)) (by decide +kernel)
theorem tw_ml_X3_42 : Cond.methodLink RX3 42 arraycopyName ∈ lw_good := lw_gm (List.mem_of_getElem? (i := 270) (by decide +kernel)) (by decide +kernel)
theorem tw_st_arraycopy : Cond.static arraycopyName ∈ lw_good := lw_gm (List.mem_of_getElem? (i := 271) (by decide +kernel)) (by decide +kernel)
theorem tw_na_arraycopy : Cond.native arraycopyName ∈ lw_good := lw_gm (List.mem_of_getElem? (i := 272) (by decide +kernel)) (by decide +kernel)
theorem tw_ml_X5_72 : Cond.methodLink RX5 72 yX2_make ∈ lw_good := lw_gm (List.mem_of_getElem? (i := 273) (by decide +kernel)) (by decide +kernel)
theorem tw_im_X2_make : Cond.instanceMethod yX2_make ∈ lw_good := lw_gm (List.mem_of_getElem? (i := 274) (by decide +kernel)) (by decide +kernel)
theorem tw_se_X2_make : Cond.selects RX2 yX2_make yX2_make ∈ lw_good := lw_gm (List.mem_of_getElem? (i := 275) (by decide +kernel)) (by decide +kernel)
theorem tw_co_X2_make : Cond.code yX2_make cX2_make 2 none ∈ lw_good := lw_gm (List.mem_of_getElem? (i := 276) (by decide +kernel)) (by decide +kernel)
theorem tw_ml_X2_27 : Cond.methodLink RX2 27 yX2_lineUp ∈ lw_good := lw_gm (List.mem_of_getElem? (i := 277) (by decide +kernel)) (by decide +kernel)
theorem tw_im_X2_lineUp : Cond.instanceMethod yX2_lineUp ∈ lw_good := lw_gm (List.mem_of_getElem? (i := 278) (by decide +kernel)) (by decide +kernel)
theorem tw_se_X2_lineUp : Cond.selects RX2 yX2_lineUp yX2_lineUp ∈ lw_good := lw_gm (List.mem_of_getElem? (i := 279) (by decide +kernel)) (by decide +kernel)
theorem tw_co_X2_lineUp : Cond.code yX2_lineUp cX2_lineUp 4 none ∈ lw_good := lw_gm (List.mem_of_getElem? (i := 280) (by decide +kernel)) (by decide +kernel)
theorem tw_ml_X2_40 : Cond.methodLink RX2 40 yX3_riderReady ∈ lw_good := lw_gm (List.mem_of_getElem? (i := 281) (by decide +kernel)) (by decide +kernel)
theorem tw_im_X3_riderReady : Cond.instanceMethod yX3_riderReady ∈ lw_good := lw_gm (List.mem_of_getElem? (i := 282) (by decide +kernel)) (by decide +kernel)
theorem tw_se_X3_riderReady : Cond.selects RX3 yX3_riderReady yX3_riderReady ∈ lw_good := lw_gm (List.mem_of_getElem? (i := 283) (by decide +kernel)) (by decide +kernel)
theorem tw_co_X3_riderReady : Cond.code yX3_riderReady cX3_riderReady 2 (some .int) ∈ lw_good := lw_gm (List.mem_of_getElem? (i := 284) (by decide +kernel)) (by decide +kernel)
theorem tw_ml_X3_52 : Cond.methodLink RX3 52 yX3_flightReady ∈ lw_good := lw_gm (List.mem_of_getElem? (i := 285) (by decide +kernel)) (by decide +kernel)
theorem tw_im_X3_flightReady : Cond.instanceMethod yX3_flightReady ∈ lw_good := lw_gm (List.mem_of_getElem? (i := 286) (by decide +kernel)) (by decide +kernel)
theorem tw_se_X3_flightReady : Cond.selects RX3 yX3_flightReady yX3_flightReady ∈ lw_good := lw_gm (List.mem_of_getElem? (i := 287) (by decide +kernel)) (by decide +kernel)
theorem tw_co_X3_flightReady : Cond.code yX3_flightReady cX3_flightReady 2 (some .int) ∈ lw_good := lw_gm (List.mem_of_getElem? (i := 288) (by decide +kernel)) (by decide +kernel)
theorem tw_ml_X2_31 : Cond.methodLink RX2 31 yX2_board ∈ lw_good := lw_gm (List.mem_of_getElem? (i := 289) (by decide +kernel)) (by decide +kernel)
theorem tw_im_X2_board : Cond.instanceMethod yX2_board ∈ lw_good := lw_gm (List.mem_of_getElem? (i := 290) (by decide +kernel)) (by decide +kernel)
theorem tw_se_X2_board : Cond.selects RX2 yX2_board yX2_board ∈ lw_good := lw_gm (List.mem_of_getElem? (i := 291) (by decide +kernel)) (by decide +kernel)
theorem tw_co_X2_board : Cond.code yX2_board cX2_board 3 none ∈ lw_good := lw_gm (List.mem_of_getElem? (i := 292) (by decide +kernel)) (by decide +kernel)
theorem tw_ml_X2_53 : Cond.methodLink RX2 53 yX2_boardOne ∈ lw_good := lw_gm (List.mem_of_getElem? (i := 293) (by decide +kernel)) (by decide +kernel)
theorem tw_im_X2_boardOne : Cond.instanceMethod yX2_boardOne ∈ lw_good := lw_gm (List.mem_of_getElem? (i := 295) (by decide +kernel)) (by decide +kernel)
theorem tw_co_X2_boardOne : Cond.code yX2_boardOne cX2_boardOne 5 none ∈ lw_good := lw_gm (List.mem_of_getElem? (i := 296) (by decide +kernel)) (by decide +kernel)
theorem tw_ml_X2_60 : Cond.methodLink RX2 60 yX2_firstVanFor ∈ lw_good := lw_gm (List.mem_of_getElem? (i := 297) (by decide +kernel)) (by decide +kernel)
theorem tw_im_X2_firstVanFor : Cond.instanceMethod yX2_firstVanFor ∈ lw_good := lw_gm (List.mem_of_getElem? (i := 299) (by decide +kernel)) (by decide +kernel)
theorem tw_co_X2_firstVanFor : Cond.code yX2_firstVanFor cX2_firstVanFor 7 (some .int) ∈ lw_good := lw_gm (List.mem_of_getElem? (i := 300) (by decide +kernel)) (by decide +kernel)
theorem tw_ml_X2_74 : Cond.methodLink RX2 74 yX2_takes ∈ lw_good := lw_gm (List.mem_of_getElem? (i := 301) (by decide +kernel)) (by decide +kernel)
theorem tw_im_X2_takes : Cond.instanceMethod yX2_takes ∈ lw_good := lw_gm (List.mem_of_getElem? (i := 303) (by decide +kernel)) (by decide +kernel)
theorem tw_co_X2_takes : Cond.code yX2_takes cX2_takes 6 (some .boolean) ∈ lw_good := lw_gm (List.mem_of_getElem? (i := 304) (by decide +kernel)) (by decide +kernel)
theorem tw_ml_X2_88 : Cond.methodLink RX2 88 yJ6_bitCount_0f7a4 ∈ lw_good := lw_gm (List.mem_of_getElem? (i := 306) (by decide +kernel)) (by decide +kernel)
theorem tw_st_J6_bitCount_0f7a4 : Cond.static yJ6_bitCount_0f7a4 ∈ lw_good := lw_gm (List.mem_of_getElem? (i := 307) (by decide +kernel)) (by decide +kernel)
theorem tw_co_J6_bitCount_0f7a4 : Cond.code yJ6_bitCount_0f7a4 cJ6_bitCount_0f7a4 1 (some .int) ∈ lw_good := lw_gm (List.mem_of_getElem? (i := 308) (by decide +kernel)) (by decide +kernel)
theorem tw_ct_J6_265 : Cond.constant RJ6 265 (1431655765) ∈ lw_good := lw_gm (List.mem_of_getElem? (i := 309) (by decide +kernel)) (by decide +kernel)
theorem tw_ct_J6_266 : Cond.constant RJ6 266 (858993459) ∈ lw_good := lw_gm (List.mem_of_getElem? (i := 310) (by decide +kernel)) (by decide +kernel)
theorem tw_ct_J6_267 : Cond.constant RJ6 267 (252645135) ∈ lw_good := lw_gm (List.mem_of_getElem? (i := 311) (by decide +kernel)) (by decide +kernel)
theorem tw_st_X5_isVan : Cond.static yX5_isVan ∈ lw_good := lw_gm (List.mem_of_getElem? (i := 313) (by decide +kernel)) (by decide +kernel)
theorem tw_co_X5_isVan : Cond.code yX5_isVan cX5_isVan 1 (some .boolean) ∈ lw_good := lw_gm (List.mem_of_getElem? (i := 314) (by decide +kernel)) (by decide +kernel)
theorem tw_ml_L_18 : Cond.methodLink RL 18 yX5_land ∈ lw_good := lw_gm (List.mem_of_getElem? (i := 315) (by decide +kernel)) (by decide +kernel)
theorem tw_im_X5_land : Cond.instanceMethod yX5_land ∈ lw_good := lw_gm (List.mem_of_getElem? (i := 316) (by decide +kernel)) (by decide +kernel)
theorem tw_se_X5_land : Cond.selects RX5 yX5_land yX5_land ∈ lw_good := lw_gm (List.mem_of_getElem? (i := 317) (by decide +kernel)) (by decide +kernel)
theorem tw_co_X5_land : Cond.code yX5_land cX5_land 4 (some .int) ∈ lw_good := lw_gm (List.mem_of_getElem? (i := 318) (by decide +kernel)) (by decide +kernel)
theorem tw_ml_X5_75 : Cond.methodLink RX5 75 yX5_isFlight ∈ lw_good := lw_gm (List.mem_of_getElem? (i := 319) (by decide +kernel)) (by decide +kernel)
theorem tw_st_X5_isFlight : Cond.static yX5_isFlight ∈ lw_good := lw_gm (List.mem_of_getElem? (i := 320) (by decide +kernel)) (by decide +kernel)
theorem tw_co_X5_isFlight : Cond.code yX5_isFlight cX5_isFlight 1 (some .boolean) ∈ lw_good := lw_gm (List.mem_of_getElem? (i := 321) (by decide +kernel)) (by decide +kernel)
theorem tw_ml_L_22 : Cond.methodLink RL 22 yX5_delay ∈ lw_good := lw_gm (List.mem_of_getElem? (i := 322) (by decide +kernel)) (by decide +kernel)
theorem tw_im_X5_delay : Cond.instanceMethod yX5_delay ∈ lw_good := lw_gm (List.mem_of_getElem? (i := 323) (by decide +kernel)) (by decide +kernel)
theorem tw_se_X5_delay : Cond.selects RX5 yX5_delay yX5_delay ∈ lw_good := lw_gm (List.mem_of_getElem? (i := 324) (by decide +kernel)) (by decide +kernel)
theorem tw_co_X5_delay : Cond.code yX5_delay cX5_delay 3 (some .int) ∈ lw_good := lw_gm (List.mem_of_getElem? (i := 325) (by decide +kernel)) (by decide +kernel)
theorem tw_ml_X5_82 : Cond.methodLink RX5 82 yX5_isDelay ∈ lw_good := lw_gm (List.mem_of_getElem? (i := 326) (by decide +kernel)) (by decide +kernel)
theorem tw_st_X5_isDelay : Cond.static yX5_isDelay ∈ lw_good := lw_gm (List.mem_of_getElem? (i := 327) (by decide +kernel)) (by decide +kernel)
theorem tw_co_X5_isDelay : Cond.code yX5_isDelay cX5_isDelay 1 (some .boolean) ∈ lw_good := lw_gm (List.mem_of_getElem? (i := 328) (by decide +kernel)) (by decide +kernel)
theorem tw_ml_X5_88 : Cond.methodLink RX5 88 yX3_flightReady ∈ lw_good := lw_gm (List.mem_of_getElem? (i := 329) (by decide +kernel)) (by decide +kernel)
theorem tw_ml_L_26 : Cond.methodLink RL 26 yX5_van ∈ lw_good := lw_gm (List.mem_of_getElem? (i := 330) (by decide +kernel)) (by decide +kernel)
theorem tw_im_X5_van : Cond.instanceMethod yX5_van ∈ lw_good := lw_gm (List.mem_of_getElem? (i := 331) (by decide +kernel)) (by decide +kernel)
theorem tw_se_X5_van : Cond.selects RX5 yX5_van yX5_van ∈ lw_good := lw_gm (List.mem_of_getElem? (i := 332) (by decide +kernel)) (by decide +kernel)
theorem tw_co_X5_van : Cond.code yX5_van cX5_van 4 (some .int) ∈ lw_good := lw_gm (List.mem_of_getElem? (i := 333) (by decide +kernel)) (by decide +kernel)
theorem tw_ml_X5_92 : Cond.methodLink RX5 92 yX5_isVan ∈ lw_good := lw_gm (List.mem_of_getElem? (i := 334) (by decide +kernel)) (by decide +kernel)
theorem tw_ml_L_31 : Cond.methodLink RL 31 yX5_ride ∈ lw_good := lw_gm (List.mem_of_getElem? (i := 335) (by decide +kernel)) (by decide +kernel)
theorem tw_im_X5_ride : Cond.instanceMethod yX5_ride ∈ lw_good := lw_gm (List.mem_of_getElem? (i := 336) (by decide +kernel)) (by decide +kernel)
theorem tw_se_X5_ride : Cond.selects RX5 yX5_ride yX5_ride ∈ lw_good := lw_gm (List.mem_of_getElem? (i := 337) (by decide +kernel)) (by decide +kernel)
theorem tw_co_X5_ride : Cond.code yX5_ride cX5_ride 5 (some .int) ∈ lw_good := lw_gm (List.mem_of_getElem? (i := 338) (by decide +kernel)) (by decide +kernel)
theorem tw_ml_X5_108 : Cond.methodLink RX5 108 yX3_addRider ∈ lw_good := lw_gm (List.mem_of_getElem? (i := 339) (by decide +kernel)) (by decide +kernel)
theorem tw_im_X3_addRider : Cond.instanceMethod yX3_addRider ∈ lw_good := lw_gm (List.mem_of_getElem? (i := 340) (by decide +kernel)) (by decide +kernel)
theorem tw_se_X3_addRider : Cond.selects RX3 yX3_addRider yX3_addRider ∈ lw_good := lw_gm (List.mem_of_getElem? (i := 341) (by decide +kernel)) (by decide +kernel)
theorem tw_co_X3_addRider : Cond.code yX3_addRider cX3_addRider 5 none ∈ lw_good := lw_gm (List.mem_of_getElem? (i := 342) (by decide +kernel)) (by decide +kernel)
theorem tw_ml_L_36 : Cond.methodLink RL 36 yX5_read ∈ lw_good := lw_gm (List.mem_of_getElem? (i := 343) (by decide +kernel)) (by decide +kernel)
theorem tw_im_X5_read : Cond.instanceMethod yX5_read ∈ lw_good := lw_gm (List.mem_of_getElem? (i := 344) (by decide +kernel)) (by decide +kernel)
theorem tw_se_X5_read : Cond.selects RX5 yX5_read yX5_read ∈ lw_good := lw_gm (List.mem_of_getElem? (i := 345) (by decide +kernel)) (by decide +kernel)
theorem tw_co_X5_read : Cond.code yX5_read cX5_read 1 (some .int) ∈ lw_good := lw_gm (List.mem_of_getElem? (i := 346) (by decide +kernel)) (by decide +kernel)
theorem tw_ml_X5_112 : Cond.methodLink RX5 112 yX1_firstFault ∈ lw_good := lw_gm (List.mem_of_getElem? (i := 347) (by decide +kernel)) (by decide +kernel)
theorem tw_im_X1_firstFault : Cond.instanceMethod yX1_firstFault ∈ lw_good := lw_gm (List.mem_of_getElem? (i := 348) (by decide +kernel)) (by decide +kernel)
theorem tw_se_X1_firstFault : Cond.selects RX1 yX1_firstFault yX1_firstFault ∈ lw_good := lw_gm (List.mem_of_getElem? (i := 349) (by decide +kernel)) (by decide +kernel)
theorem tw_co_X1_firstFault : Cond.code yX1_firstFault cX1_firstFault 3 (some .int) ∈ lw_good := lw_gm (List.mem_of_getElem? (i := 350) (by decide +kernel)) (by decide +kernel)
theorem tw_ml_X1_25 : Cond.methodLink RX1 25 yX1_after ∈ lw_good := lw_gm (List.mem_of_getElem? (i := 351) (by decide +kernel)) (by decide +kernel)
theorem tw_st_X1_after : Cond.static yX1_after ∈ lw_good := lw_gm (List.mem_of_getElem? (i := 352) (by decide +kernel)) (by decide +kernel)
theorem tw_co_X1_after : Cond.code yX1_after cX1_after 2 (some .int) ∈ lw_good := lw_gm (List.mem_of_getElem? (i := 353) (by decide +kernel)) (by decide +kernel)
theorem tw_ml_X1_33 : Cond.methodLink RX1 33 yX1_afterFirstDigit ∈ lw_good := lw_gm (List.mem_of_getElem? (i := 355) (by decide +kernel)) (by decide +kernel)
theorem tw_st_X1_afterFirstDigit : Cond.static yX1_afterFirstDigit ∈ lw_good := lw_gm (List.mem_of_getElem? (i := 356) (by decide +kernel)) (by decide +kernel)
theorem tw_co_X1_afterFirstDigit : Cond.code yX1_afterFirstDigit cX1_afterFirstDigit 1 (some .int) ∈ lw_good := lw_gm (List.mem_of_getElem? (i := 357) (by decide +kernel)) (by decide +kernel)
theorem tw_ml_X1_37 : Cond.methodLink RX1 37 yX1_isDigit ∈ lw_good := lw_gm (List.mem_of_getElem? (i := 358) (by decide +kernel)) (by decide +kernel)
theorem tw_st_X1_isDigit : Cond.static yX1_isDigit ∈ lw_good := lw_gm (List.mem_of_getElem? (i := 359) (by decide +kernel)) (by decide +kernel)
theorem tw_co_X1_isDigit : Cond.code yX1_isDigit cX1_isDigit 1 (some .boolean) ∈ lw_good := lw_gm (List.mem_of_getElem? (i := 360) (by decide +kernel)) (by decide +kernel)
theorem tw_ml_X1_40 : Cond.methodLink RX1 40 yX1_afterDoor ∈ lw_good := lw_gm (List.mem_of_getElem? (i := 361) (by decide +kernel)) (by decide +kernel)
theorem tw_st_X1_afterDoor : Cond.static yX1_afterDoor ∈ lw_good := lw_gm (List.mem_of_getElem? (i := 362) (by decide +kernel)) (by decide +kernel)
theorem tw_co_X1_afterDoor : Cond.code yX1_afterDoor cX1_afterDoor 1 (some .int) ∈ lw_good := lw_gm (List.mem_of_getElem? (i := 363) (by decide +kernel)) (by decide +kernel)
theorem tw_ml_X1_29 : Cond.methodLink RX1 29 yX1_mayEnd ∈ lw_good := lw_gm (List.mem_of_getElem? (i := 364) (by decide +kernel)) (by decide +kernel)
theorem tw_st_X1_mayEnd : Cond.static yX1_mayEnd ∈ lw_good := lw_gm (List.mem_of_getElem? (i := 365) (by decide +kernel)) (by decide +kernel)
theorem tw_co_X1_mayEnd : Cond.code yX1_mayEnd cX1_mayEnd 1 (some .boolean) ∈ lw_good := lw_gm (List.mem_of_getElem? (i := 366) (by decide +kernel)) (by decide +kernel)
theorem tw_ml_X5_116 : Cond.methodLink RX5 116 yX1_riderCount ∈ lw_good := lw_gm (List.mem_of_getElem? (i := 367) (by decide +kernel)) (by decide +kernel)
theorem tw_im_X1_riderCount : Cond.instanceMethod yX1_riderCount ∈ lw_good := lw_gm (List.mem_of_getElem? (i := 368) (by decide +kernel)) (by decide +kernel)
theorem tw_se_X1_riderCount : Cond.selects RX1 yX1_riderCount yX1_riderCount ∈ lw_good := lw_gm (List.mem_of_getElem? (i := 369) (by decide +kernel)) (by decide +kernel)
theorem tw_co_X1_riderCount : Cond.code yX1_riderCount cX1_riderCount 3 (some .int) ∈ lw_good := lw_gm (List.mem_of_getElem? (i := 370) (by decide +kernel)) (by decide +kernel)
theorem tw_ml_X5_119 : Cond.methodLink RX5 119 yX1_addRidersTo ∈ lw_good := lw_gm (List.mem_of_getElem? (i := 371) (by decide +kernel)) (by decide +kernel)
theorem tw_im_X1_addRidersTo : Cond.instanceMethod yX1_addRidersTo ∈ lw_good := lw_gm (List.mem_of_getElem? (i := 372) (by decide +kernel)) (by decide +kernel)
theorem tw_se_X1_addRidersTo : Cond.selects RX1 yX1_addRidersTo yX1_addRidersTo ∈ lw_good := lw_gm (List.mem_of_getElem? (i := 373) (by decide +kernel)) (by decide +kernel)
theorem tw_co_X1_addRidersTo : Cond.code yX1_addRidersTo cX1_addRidersTo 5 none ∈ lw_good := lw_gm (List.mem_of_getElem? (i := 374) (by decide +kernel)) (by decide +kernel)
theorem tw_ml_X1_43 : Cond.methodLink RX1 43 yX1_riderCount ∈ lw_good := lw_gm (List.mem_of_getElem? (i := 375) (by decide +kernel)) (by decide +kernel)
theorem tw_ml_X1_47 : Cond.methodLink RX1 47 yX1_addRiderTo ∈ lw_good := lw_gm (List.mem_of_getElem? (i := 376) (by decide +kernel)) (by decide +kernel)
theorem tw_im_X1_addRiderTo : Cond.instanceMethod yX1_addRiderTo ∈ lw_good := lw_gm (List.mem_of_getElem? (i := 378) (by decide +kernel)) (by decide +kernel)
theorem tw_co_X1_addRiderTo : Cond.code yX1_addRiderTo cX1_addRiderTo 8 (some .int) ∈ lw_good := lw_gm (List.mem_of_getElem? (i := 379) (by decide +kernel)) (by decide +kernel)
theorem tw_ml_X1_51 : Cond.methodLink RX1 51 yX1_codeAt ∈ lw_good := lw_gm (List.mem_of_getElem? (i := 380) (by decide +kernel)) (by decide +kernel)
theorem tw_im_X1_codeAt : Cond.instanceMethod yX1_codeAt ∈ lw_good := lw_gm (List.mem_of_getElem? (i := 382) (by decide +kernel)) (by decide +kernel)
theorem tw_co_X1_codeAt : Cond.code yX1_codeAt cX1_codeAt 2 (some .int) ∈ lw_good := lw_gm (List.mem_of_getElem? (i := 383) (by decide +kernel)) (by decide +kernel)
theorem tw_ml_X1_54 : Cond.methodLink RX1 54 yX3_addRider ∈ lw_good := lw_gm (List.mem_of_getElem? (i := 384) (by decide +kernel)) (by decide +kernel)
theorem tw_ml_L_41 : Cond.methodLink RL 41 yX5_cancel ∈ lw_good := lw_gm (List.mem_of_getElem? (i := 385) (by decide +kernel)) (by decide +kernel)
theorem tw_im_X5_cancel : Cond.instanceMethod yX5_cancel ∈ lw_good := lw_gm (List.mem_of_getElem? (i := 386) (by decide +kernel)) (by decide +kernel)
theorem tw_se_X5_cancel : Cond.selects RX5 yX5_cancel yX5_cancel ∈ lw_good := lw_gm (List.mem_of_getElem? (i := 387) (by decide +kernel)) (by decide +kernel)
theorem tw_co_X5_cancel : Cond.code yX5_cancel cX5_cancel 3 (some .int) ∈ lw_good := lw_gm (List.mem_of_getElem? (i := 388) (by decide +kernel)) (by decide +kernel)
theorem tw_ml_X5_125 : Cond.methodLink RX5 125 yX5_isRider ∈ lw_good := lw_gm (List.mem_of_getElem? (i := 389) (by decide +kernel)) (by decide +kernel)
theorem tw_im_X5_isRider : Cond.instanceMethod yX5_isRider ∈ lw_good := lw_gm (List.mem_of_getElem? (i := 391) (by decide +kernel)) (by decide +kernel)
theorem tw_co_X5_isRider : Cond.code yX5_isRider cX5_isRider 2 (some .boolean) ∈ lw_good := lw_gm (List.mem_of_getElem? (i := 392) (by decide +kernel)) (by decide +kernel)
theorem tw_ml_X5_128 : Cond.methodLink RX5 128 yX2_fare ∈ lw_good := lw_gm (List.mem_of_getElem? (i := 393) (by decide +kernel)) (by decide +kernel)
theorem tw_im_X2_fare : Cond.instanceMethod yX2_fare ∈ lw_good := lw_gm (List.mem_of_getElem? (i := 394) (by decide +kernel)) (by decide +kernel)
theorem tw_se_X2_fare : Cond.selects RX2 yX2_fare yX2_fare ∈ lw_good := lw_gm (List.mem_of_getElem? (i := 395) (by decide +kernel)) (by decide +kernel)
theorem tw_co_X2_fare : Cond.code yX2_fare cX2_fare 3 (some .int) ∈ lw_good := lw_gm (List.mem_of_getElem? (i := 396) (by decide +kernel)) (by decide +kernel)
theorem tw_ml_X2_103 : Cond.methodLink RX2 103 yX2_share ∈ lw_good := lw_gm (List.mem_of_getElem? (i := 397) (by decide +kernel)) (by decide +kernel)
theorem tw_im_X2_share : Cond.instanceMethod yX2_share ∈ lw_good := lw_gm (List.mem_of_getElem? (i := 399) (by decide +kernel)) (by decide +kernel)
theorem tw_co_X2_share : Cond.code yX2_share cX2_share 10 (some .int) ∈ lw_good := lw_gm (List.mem_of_getElem? (i := 400) (by decide +kernel)) (by decide +kernel)
theorem tw_ml_X2_96 : Cond.methodLink RX2 96 yX2_shares ∈ lw_good := lw_gm (List.mem_of_getElem? (i := 401) (by decide +kernel)) (by decide +kernel)
theorem tw_im_X2_shares : Cond.instanceMethod yX2_shares ∈ lw_good := lw_gm (List.mem_of_getElem? (i := 403) (by decide +kernel)) (by decide +kernel)
theorem tw_co_X2_shares : Cond.code yX2_shares cX2_shares 5 (some .boolean) ∈ lw_good := lw_gm (List.mem_of_getElem? (i := 404) (by decide +kernel)) (by decide +kernel)
theorem tw_ml_X2_107 : Cond.methodLink RX2 107 yX3_stopKey ∈ lw_good := lw_gm (List.mem_of_getElem? (i := 405) (by decide +kernel)) (by decide +kernel)
theorem tw_im_X3_stopKey : Cond.instanceMethod yX3_stopKey ∈ lw_good := lw_gm (List.mem_of_getElem? (i := 406) (by decide +kernel)) (by decide +kernel)
theorem tw_se_X3_stopKey : Cond.selects RX3 yX3_stopKey yX3_stopKey ∈ lw_good := lw_gm (List.mem_of_getElem? (i := 407) (by decide +kernel)) (by decide +kernel)
theorem tw_co_X3_stopKey : Cond.code yX3_stopKey cX3_stopKey 2 (some .int) ∈ lw_good := lw_gm (List.mem_of_getElem? (i := 408) (by decide +kernel)) (by decide +kernel)
theorem tw_ml_X5_132 : Cond.methodLink RX5 132 yX3_removeRider ∈ lw_good := lw_gm (List.mem_of_getElem? (i := 409) (by decide +kernel)) (by decide +kernel)
theorem tw_im_X3_removeRider : Cond.instanceMethod yX3_removeRider ∈ lw_good := lw_gm (List.mem_of_getElem? (i := 410) (by decide +kernel)) (by decide +kernel)
theorem tw_se_X3_removeRider : Cond.selects RX3 yX3_removeRider yX3_removeRider ∈ lw_good := lw_gm (List.mem_of_getElem? (i := 411) (by decide +kernel)) (by decide +kernel)
theorem tw_co_X3_removeRider : Cond.code yX3_removeRider cX3_removeRider 3 none ∈ lw_good := lw_gm (List.mem_of_getElem? (i := 412) (by decide +kernel)) (by decide +kernel)
theorem tw_ml_L_46 : Cond.methodLink RL 46 yX5_rebook ∈ lw_good := lw_gm (List.mem_of_getElem? (i := 413) (by decide +kernel)) (by decide +kernel)
theorem tw_im_X5_rebook : Cond.instanceMethod yX5_rebook ∈ lw_good := lw_gm (List.mem_of_getElem? (i := 414) (by decide +kernel)) (by decide +kernel)
theorem tw_se_X5_rebook : Cond.selects RX5 yX5_rebook yX5_rebook ∈ lw_good := lw_gm (List.mem_of_getElem? (i := 415) (by decide +kernel)) (by decide +kernel)
theorem tw_co_X5_rebook : Cond.code yX5_rebook cX5_rebook 3 (some .int) ∈ lw_good := lw_gm (List.mem_of_getElem? (i := 416) (by decide +kernel)) (by decide +kernel)
theorem tw_ml_L_50 : Cond.methodLink RL 50 yX5_rider ∈ lw_good := lw_gm (List.mem_of_getElem? (i := 417) (by decide +kernel)) (by decide +kernel)
theorem tw_im_X5_rider : Cond.instanceMethod yX5_rider ∈ lw_good := lw_gm (List.mem_of_getElem? (i := 418) (by decide +kernel)) (by decide +kernel)
theorem tw_se_X5_rider : Cond.selects RX5 yX5_rider yX5_rider ∈ lw_good := lw_gm (List.mem_of_getElem? (i := 419) (by decide +kernel)) (by decide +kernel)
theorem tw_co_X5_rider : Cond.code yX5_rider cX5_rider 3 (some .int) ∈ lw_good := lw_gm (List.mem_of_getElem? (i := 420) (by decide +kernel)) (by decide +kernel)
theorem tw_ml_X5_151 : Cond.methodLink RX5 151 yX3_riderReady ∈ lw_good := lw_gm (List.mem_of_getElem? (i := 421) (by decide +kernel)) (by decide +kernel)
theorem tw_ml_X5_154 : Cond.methodLink RX5 154 yX2_waitOf ∈ lw_good := lw_gm (List.mem_of_getElem? (i := 422) (by decide +kernel)) (by decide +kernel)
theorem tw_im_X2_waitOf : Cond.instanceMethod yX2_waitOf ∈ lw_good := lw_gm (List.mem_of_getElem? (i := 423) (by decide +kernel)) (by decide +kernel)
theorem tw_se_X2_waitOf : Cond.selects RX2 yX2_waitOf yX2_waitOf ∈ lw_good := lw_gm (List.mem_of_getElem? (i := 424) (by decide +kernel)) (by decide +kernel)
theorem tw_co_X2_waitOf : Cond.code yX2_waitOf cX2_waitOf 4 (some .int) ∈ lw_good := lw_gm (List.mem_of_getElem? (i := 425) (by decide +kernel)) (by decide +kernel)
theorem tw_ml_X5_157 : Cond.methodLink RX5 157 yX5_minuteAtDoor ∈ lw_good := lw_gm (List.mem_of_getElem? (i := 426) (by decide +kernel)) (by decide +kernel)
theorem tw_im_X5_minuteAtDoor : Cond.instanceMethod yX5_minuteAtDoor ∈ lw_good := lw_gm (List.mem_of_getElem? (i := 428) (by decide +kernel)) (by decide +kernel)
theorem tw_co_X5_minuteAtDoor : Cond.code yX5_minuteAtDoor cX5_minuteAtDoor 3 (some .int) ∈ lw_good := lw_gm (List.mem_of_getElem? (i := 429) (by decide +kernel)) (by decide +kernel)
theorem tw_ml_X5_163 : Cond.methodLink RX5 163 yX4_follow ∈ lw_good := lw_gm (List.mem_of_getElem? (i := 430) (by decide +kernel)) (by decide +kernel)
theorem tw_im_X4_follow : Cond.instanceMethod yX4_follow ∈ lw_good := lw_gm (List.mem_of_getElem? (i := 431) (by decide +kernel)) (by decide +kernel)
theorem tw_se_X4_follow : Cond.selects RX4 yX4_follow yX4_follow ∈ lw_good := lw_gm (List.mem_of_getElem? (i := 432) (by decide +kernel)) (by decide +kernel)
theorem tw_co_X4_follow : Cond.code yX4_follow cX4_follow 5 none ∈ lw_good := lw_gm (List.mem_of_getElem? (i := 433) (by decide +kernel)) (by decide +kernel)
theorem tw_ml_X4_35 : Cond.methodLink RX4 35 yX3_stopKey ∈ lw_good := lw_gm (List.mem_of_getElem? (i := 434) (by decide +kernel)) (by decide +kernel)
theorem tw_ml_X4_40 : Cond.methodLink RX4 40 yX4_letOut ∈ lw_good := lw_gm (List.mem_of_getElem? (i := 435) (by decide +kernel)) (by decide +kernel)
theorem tw_im_X4_letOut : Cond.instanceMethod yX4_letOut ∈ lw_good := lw_gm (List.mem_of_getElem? (i := 437) (by decide +kernel)) (by decide +kernel)
theorem tw_co_X4_letOut : Cond.code yX4_letOut cX4_letOut 4 none ∈ lw_good := lw_gm (List.mem_of_getElem? (i := 438) (by decide +kernel)) (by decide +kernel)
theorem tw_ml_X4_51 : Cond.methodLink RX4 51 yX4_placeFor ∈ lw_good := lw_gm (List.mem_of_getElem? (i := 439) (by decide +kernel)) (by decide +kernel)
theorem tw_im_X4_placeFor : Cond.instanceMethod yX4_placeFor ∈ lw_good := lw_gm (List.mem_of_getElem? (i := 441) (by decide +kernel)) (by decide +kernel)
theorem tw_co_X4_placeFor : Cond.code yX4_placeFor cX4_placeFor 3 (some .int) ∈ lw_good := lw_gm (List.mem_of_getElem? (i := 442) (by decide +kernel)) (by decide +kernel)
theorem tw_ml_X4_54 : Cond.methodLink RX4 54 yX4_openStop ∈ lw_good := lw_gm (List.mem_of_getElem? (i := 443) (by decide +kernel)) (by decide +kernel)
theorem tw_im_X4_openStop : Cond.instanceMethod yX4_openStop ∈ lw_good := lw_gm (List.mem_of_getElem? (i := 445) (by decide +kernel)) (by decide +kernel)
theorem tw_co_X4_openStop : Cond.code yX4_openStop cX4_openStop 4 none ∈ lw_good := lw_gm (List.mem_of_getElem? (i := 446) (by decide +kernel)) (by decide +kernel)
theorem tw_ml_X4_47 : Cond.methodLink RX4 47 yX4_tellMinutes ∈ lw_good := lw_gm (List.mem_of_getElem? (i := 447) (by decide +kernel)) (by decide +kernel)
theorem tw_im_X4_tellMinutes : Cond.instanceMethod yX4_tellMinutes ∈ lw_good := lw_gm (List.mem_of_getElem? (i := 449) (by decide +kernel)) (by decide +kernel)
theorem tw_co_X4_tellMinutes : Cond.code yX4_tellMinutes cX4_tellMinutes 5 none ∈ lw_good := lw_gm (List.mem_of_getElem? (i := 450) (by decide +kernel)) (by decide +kernel)
theorem tw_ml_X4_57 : Cond.methodLink RX4 57 yX3_areaOfStop ∈ lw_good := lw_gm (List.mem_of_getElem? (i := 451) (by decide +kernel)) (by decide +kernel)
theorem tw_st_X3_areaOfStop : Cond.static yX3_areaOfStop ∈ lw_good := lw_gm (List.mem_of_getElem? (i := 452) (by decide +kernel)) (by decide +kernel)
theorem tw_co_X3_areaOfStop : Cond.code yX3_areaOfStop cX3_areaOfStop 1 (some .int) ∈ lw_good := lw_gm (List.mem_of_getElem? (i := 453) (by decide +kernel)) (by decide +kernel)
theorem tw_ml_X5_254 : Cond.methodLink RX5 254 yX3_stopKey ∈ lw_good := lw_gm (List.mem_of_getElem? (i := 454) (by decide +kernel)) (by decide +kernel)
theorem tw_ml_X5_257 : Cond.methodLink RX5 257 yX4_minuteAt ∈ lw_good := lw_gm (List.mem_of_getElem? (i := 455) (by decide +kernel)) (by decide +kernel)
theorem tw_im_X4_minuteAt : Cond.instanceMethod yX4_minuteAt ∈ lw_good := lw_gm (List.mem_of_getElem? (i := 456) (by decide +kernel)) (by decide +kernel)
theorem tw_se_X4_minuteAt : Cond.selects RX4 yX4_minuteAt yX4_minuteAt ∈ lw_good := lw_gm (List.mem_of_getElem? (i := 457) (by decide +kernel)) (by decide +kernel)
theorem tw_co_X4_minuteAt : Cond.code yX4_minuteAt cX4_minuteAt 3 (some .int) ∈ lw_good := lw_gm (List.mem_of_getElem? (i := 458) (by decide +kernel)) (by decide +kernel)
theorem tw_ml_X5_160 : Cond.methodLink RX5 160 yX2_othersAtStop ∈ lw_good := lw_gm (List.mem_of_getElem? (i := 459) (by decide +kernel)) (by decide +kernel)
theorem tw_im_X2_othersAtStop : Cond.instanceMethod yX2_othersAtStop ∈ lw_good := lw_gm (List.mem_of_getElem? (i := 460) (by decide +kernel)) (by decide +kernel)
theorem tw_se_X2_othersAtStop : Cond.selects RX2 yX2_othersAtStop yX2_othersAtStop ∈ lw_good := lw_gm (List.mem_of_getElem? (i := 461) (by decide +kernel)) (by decide +kernel)
theorem tw_co_X2_othersAtStop : Cond.code yX2_othersAtStop cX2_othersAtStop 5 (some .int) ∈ lw_good := lw_gm (List.mem_of_getElem? (i := 462) (by decide +kernel)) (by decide +kernel)
theorem tw_ml_L_54 : Cond.methodLink RL 54 yX5_vanOf ∈ lw_good := lw_gm (List.mem_of_getElem? (i := 463) (by decide +kernel)) (by decide +kernel)
theorem tw_im_X5_vanOf : Cond.instanceMethod yX5_vanOf ∈ lw_good := lw_gm (List.mem_of_getElem? (i := 464) (by decide +kernel)) (by decide +kernel)
theorem tw_se_X5_vanOf : Cond.selects RX5 yX5_vanOf yX5_vanOf ∈ lw_good := lw_gm (List.mem_of_getElem? (i := 465) (by decide +kernel)) (by decide +kernel)
theorem tw_co_X5_vanOf : Cond.code yX5_vanOf cX5_vanOf 3 (some .int) ∈ lw_good := lw_gm (List.mem_of_getElem? (i := 466) (by decide +kernel)) (by decide +kernel)
theorem tw_ml_X5_170 : Cond.methodLink RX5 170 yX2_ridersIn ∈ lw_good := lw_gm (List.mem_of_getElem? (i := 467) (by decide +kernel)) (by decide +kernel)
theorem tw_im_X2_ridersIn : Cond.instanceMethod yX2_ridersIn ∈ lw_good := lw_gm (List.mem_of_getElem? (i := 468) (by decide +kernel)) (by decide +kernel)
theorem tw_se_X2_ridersIn : Cond.selects RX2 yX2_ridersIn yX2_ridersIn ∈ lw_good := lw_gm (List.mem_of_getElem? (i := 469) (by decide +kernel)) (by decide +kernel)
theorem tw_co_X2_ridersIn : Cond.code yX2_ridersIn cX2_ridersIn 5 (some .int) ∈ lw_good := lw_gm (List.mem_of_getElem? (i := 470) (by decide +kernel)) (by decide +kernel)
theorem tw_ml_X5_179 : Cond.methodLink RX5 179 yX4_lastMinute ∈ lw_good := lw_gm (List.mem_of_getElem? (i := 471) (by decide +kernel)) (by decide +kernel)
theorem tw_im_X4_lastMinute : Cond.instanceMethod yX4_lastMinute ∈ lw_good := lw_gm (List.mem_of_getElem? (i := 472) (by decide +kernel)) (by decide +kernel)
theorem tw_se_X4_lastMinute : Cond.selects RX4 yX4_lastMinute yX4_lastMinute ∈ lw_good := lw_gm (List.mem_of_getElem? (i := 473) (by decide +kernel)) (by decide +kernel)
theorem tw_co_X4_lastMinute : Cond.code yX4_lastMinute cX4_lastMinute 1 (some .int) ∈ lw_good := lw_gm (List.mem_of_getElem? (i := 474) (by decide +kernel)) (by decide +kernel)
theorem tw_ml_X5_182 : Cond.methodLink RX5 182 yX2_faresOf ∈ lw_good := lw_gm (List.mem_of_getElem? (i := 475) (by decide +kernel)) (by decide +kernel)
theorem tw_im_X2_faresOf : Cond.instanceMethod yX2_faresOf ∈ lw_good := lw_gm (List.mem_of_getElem? (i := 476) (by decide +kernel)) (by decide +kernel)
theorem tw_se_X2_faresOf : Cond.selects RX2 yX2_faresOf yX2_faresOf ∈ lw_good := lw_gm (List.mem_of_getElem? (i := 477) (by decide +kernel)) (by decide +kernel)
theorem tw_co_X2_faresOf : Cond.code yX2_faresOf cX2_faresOf 5 (some .int) ∈ lw_good := lw_gm (List.mem_of_getElem? (i := 478) (by decide +kernel)) (by decide +kernel)
theorem tw_ml_X2_100 : Cond.methodLink RX2 100 yX2_fare ∈ lw_good := lw_gm (List.mem_of_getElem? (i := 479) (by decide +kernel)) (by decide +kernel)
theorem tw_ml_L_58 : Cond.methodLink RL 58 yX5_flight ∈ lw_good := lw_gm (List.mem_of_getElem? (i := 480) (by decide +kernel)) (by decide +kernel)
theorem tw_im_X5_flight : Cond.instanceMethod yX5_flight ∈ lw_good := lw_gm (List.mem_of_getElem? (i := 481) (by decide +kernel)) (by decide +kernel)
theorem tw_se_X5_flight : Cond.selects RX5 yX5_flight yX5_flight ∈ lw_good := lw_gm (List.mem_of_getElem? (i := 482) (by decide +kernel)) (by decide +kernel)
theorem tw_co_X5_flight : Cond.code yX5_flight cX5_flight 3 (some .int) ∈ lw_good := lw_gm (List.mem_of_getElem? (i := 483) (by decide +kernel)) (by decide +kernel)
theorem tw_ml_X5_185 : Cond.methodLink RX5 185 yX2_peopleOfFlight ∈ lw_good := lw_gm (List.mem_of_getElem? (i := 484) (by decide +kernel)) (by decide +kernel)
theorem tw_im_X2_peopleOfFlight : Cond.instanceMethod yX2_peopleOfFlight ∈ lw_good := lw_gm (List.mem_of_getElem? (i := 485) (by decide +kernel)) (by decide +kernel)
theorem tw_se_X2_peopleOfFlight : Cond.selects RX2 yX2_peopleOfFlight yX2_peopleOfFlight ∈ lw_good := lw_gm (List.mem_of_getElem? (i := 486) (by decide +kernel)) (by decide +kernel)
theorem tw_co_X2_peopleOfFlight : Cond.code yX2_peopleOfFlight cX2_peopleOfFlight 7 (some .int) ∈ lw_good := lw_gm (List.mem_of_getElem? (i := 487) (by decide +kernel)) (by decide +kernel)
theorem tw_ml_L_62 : Cond.methodLink RL 62 yX5_stop ∈ lw_good := lw_gm (List.mem_of_getElem? (i := 488) (by decide +kernel)) (by decide +kernel)
theorem tw_im_X5_stop : Cond.instanceMethod yX5_stop ∈ lw_good := lw_gm (List.mem_of_getElem? (i := 489) (by decide +kernel)) (by decide +kernel)
theorem tw_se_X5_stop : Cond.selects RX5 yX5_stop yX5_stop ∈ lw_good := lw_gm (List.mem_of_getElem? (i := 490) (by decide +kernel)) (by decide +kernel)
theorem tw_co_X5_stop : Cond.code yX5_stop cX5_stop 4 (some .int) ∈ lw_good := lw_gm (List.mem_of_getElem? (i := 491) (by decide +kernel)) (by decide +kernel)
theorem tw_ml_X5_192 : Cond.methodLink RX5 192 yX3_areaOfStop ∈ lw_good := lw_gm (List.mem_of_getElem? (i := 492) (by decide +kernel)) (by decide +kernel)
theorem tw_ml_X5_195 : Cond.methodLink RX5 195 yX3_doorOfStop ∈ lw_good := lw_gm (List.mem_of_getElem? (i := 493) (by decide +kernel)) (by decide +kernel)
theorem tw_st_X3_doorOfStop : Cond.static yX3_doorOfStop ∈ lw_good := lw_gm (List.mem_of_getElem? (i := 494) (by decide +kernel)) (by decide +kernel)
theorem tw_co_X3_doorOfStop : Cond.code yX3_doorOfStop cX3_doorOfStop 1 (some .int) ∈ lw_good := lw_gm (List.mem_of_getElem? (i := 495) (by decide +kernel)) (by decide +kernel)
theorem tw_ml_L_66 : Cond.methodLink RL 66 yX5_count ∈ lw_good := lw_gm (List.mem_of_getElem? (i := 496) (by decide +kernel)) (by decide +kernel)
theorem tw_im_X5_count : Cond.instanceMethod yX5_count ∈ lw_good := lw_gm (List.mem_of_getElem? (i := 497) (by decide +kernel)) (by decide +kernel)
theorem tw_se_X5_count : Cond.selects RX5 yX5_count yX5_count ∈ lw_good := lw_gm (List.mem_of_getElem? (i := 498) (by decide +kernel)) (by decide +kernel)
theorem tw_co_X5_count : Cond.code yX5_count cX5_count 2 (some .int) ∈ lw_good := lw_gm (List.mem_of_getElem? (i := 499) (by decide +kernel)) (by decide +kernel)
theorem tw_ml_X5_202 : Cond.methodLink RX5 202 yX3_allPeople ∈ lw_good := lw_gm (List.mem_of_getElem? (i := 500) (by decide +kernel)) (by decide +kernel)
theorem tw_im_X3_allPeople : Cond.instanceMethod yX3_allPeople ∈ lw_good := lw_gm (List.mem_of_getElem? (i := 501) (by decide +kernel)) (by decide +kernel)
theorem tw_se_X3_allPeople : Cond.selects RX3 yX3_allPeople yX3_allPeople ∈ lw_good := lw_gm (List.mem_of_getElem? (i := 502) (by decide +kernel)) (by decide +kernel)
theorem tw_co_X3_allPeople : Cond.code yX3_allPeople cX3_allPeople 3 (some .int) ∈ lw_good := lw_gm (List.mem_of_getElem? (i := 503) (by decide +kernel)) (by decide +kernel)
theorem tw_ml_X5_211 : Cond.methodLink RX5 211 yX5_allFares ∈ lw_good := lw_gm (List.mem_of_getElem? (i := 504) (by decide +kernel)) (by decide +kernel)
theorem tw_im_X5_allFares : Cond.instanceMethod yX5_allFares ∈ lw_good := lw_gm (List.mem_of_getElem? (i := 506) (by decide +kernel)) (by decide +kernel)
theorem tw_co_X5_allFares : Cond.code yX5_allFares cX5_allFares 3 (some .int) ∈ lw_good := lw_gm (List.mem_of_getElem? (i := 507) (by decide +kernel)) (by decide +kernel)
theorem tw_ml_X5_214 : Cond.methodLink RX5 214 yX2_vansWithRiders ∈ lw_good := lw_gm (List.mem_of_getElem? (i := 508) (by decide +kernel)) (by decide +kernel)
theorem tw_im_X2_vansWithRiders : Cond.instanceMethod yX2_vansWithRiders ∈ lw_good := lw_gm (List.mem_of_getElem? (i := 509) (by decide +kernel)) (by decide +kernel)
theorem tw_se_X2_vansWithRiders : Cond.selects RX2 yX2_vansWithRiders yX2_vansWithRiders ∈ lw_good := lw_gm (List.mem_of_getElem? (i := 510) (by decide +kernel)) (by decide +kernel)
theorem tw_co_X2_vansWithRiders : Cond.code yX2_vansWithRiders cX2_vansWithRiders 3 (some .int) ∈ lw_good := lw_gm (List.mem_of_getElem? (i := 511) (by decide +kernel)) (by decide +kernel)
theorem tw_ml_X5_217 : Cond.methodLink RX5 217 yX5_allStops ∈ lw_good := lw_gm (List.mem_of_getElem? (i := 512) (by decide +kernel)) (by decide +kernel)
theorem tw_im_X5_allStops : Cond.instanceMethod yX5_allStops ∈ lw_good := lw_gm (List.mem_of_getElem? (i := 514) (by decide +kernel)) (by decide +kernel)
theorem tw_co_X5_allStops : Cond.code yX5_allStops cX5_allStops 3 (some .int) ∈ lw_good := lw_gm (List.mem_of_getElem? (i := 515) (by decide +kernel)) (by decide +kernel)
theorem tw_ml_X5_220 : Cond.methodLink RX5 220 yX5_lastAtDoor ∈ lw_good := lw_gm (List.mem_of_getElem? (i := 516) (by decide +kernel)) (by decide +kernel)
theorem tw_im_X5_lastAtDoor : Cond.instanceMethod yX5_lastAtDoor ∈ lw_good := lw_gm (List.mem_of_getElem? (i := 518) (by decide +kernel)) (by decide +kernel)
theorem tw_co_X5_lastAtDoor : Cond.code yX5_lastAtDoor cX5_lastAtDoor 5 (some .int) ∈ lw_good := lw_gm (List.mem_of_getElem? (i := 519) (by decide +kernel)) (by decide +kernel)
theorem tw_ml_X5_260 : Cond.methodLink RX5 260 yJ9_max_7cf53 ∈ lw_good := lw_gm (List.mem_of_getElem? (i := 520) (by decide +kernel)) (by decide +kernel)
theorem tw_st_J9_max_7cf53 : Cond.static yJ9_max_7cf53 ∈ lw_good := lw_gm (List.mem_of_getElem? (i := 521) (by decide +kernel)) (by decide +kernel)
theorem tw_co_J9_max_7cf53 : Cond.code yJ9_max_7cf53 cJ9_max_7cf53 2 (some .int) ∈ lw_good := lw_gm (List.mem_of_getElem? (i := 522) (by decide +kernel)) (by decide +kernel)
theorem tw_ml_L_70 : Cond.methodLink RL 70 yX5_kerb ∈ lw_good := lw_gm (List.mem_of_getElem? (i := 523) (by decide +kernel)) (by decide +kernel)
theorem tw_im_X5_kerb : Cond.instanceMethod yX5_kerb ∈ lw_good := lw_gm (List.mem_of_getElem? (i := 524) (by decide +kernel)) (by decide +kernel)
theorem tw_se_X5_kerb : Cond.selects RX5 yX5_kerb yX5_kerb ∈ lw_good := lw_gm (List.mem_of_getElem? (i := 525) (by decide +kernel)) (by decide +kernel)
theorem tw_co_X5_kerb : Cond.code yX5_kerb cX5_kerb 4 (some .int) ∈ lw_good := lw_gm (List.mem_of_getElem? (i := 526) (by decide +kernel)) (by decide +kernel)
theorem tw_ml_X5_227 : Cond.methodLink RX5 227 yX2_isAtKerb ∈ lw_good := lw_gm (List.mem_of_getElem? (i := 527) (by decide +kernel)) (by decide +kernel)
theorem tw_im_X2_isAtKerb : Cond.instanceMethod yX2_isAtKerb ∈ lw_good := lw_gm (List.mem_of_getElem? (i := 528) (by decide +kernel)) (by decide +kernel)
theorem tw_se_X2_isAtKerb : Cond.selects RX2 yX2_isAtKerb yX2_isAtKerb ∈ lw_good := lw_gm (List.mem_of_getElem? (i := 529) (by decide +kernel)) (by decide +kernel)
theorem tw_co_X2_isAtKerb : Cond.code yX2_isAtKerb cX2_isAtKerb 5 (some .boolean) ∈ lw_good := lw_gm (List.mem_of_getElem? (i := 530) (by decide +kernel)) (by decide +kernel)
theorem tw_ml_L_74 : Cond.methodLink RL 74 yX5_ifDelayed ∈ lw_good := lw_gm (List.mem_of_getElem? (i := 531) (by decide +kernel)) (by decide +kernel)
theorem tw_im_X5_ifDelayed : Cond.instanceMethod yX5_ifDelayed ∈ lw_good := lw_gm (List.mem_of_getElem? (i := 532) (by decide +kernel)) (by decide +kernel)
theorem tw_se_X5_ifDelayed : Cond.selects RX5 yX5_ifDelayed yX5_ifDelayed ∈ lw_good := lw_gm (List.mem_of_getElem? (i := 533) (by decide +kernel)) (by decide +kernel)
theorem tw_co_X5_ifDelayed : Cond.code yX5_ifDelayed cX5_ifDelayed 4 (some .int) ∈ lw_good := lw_gm (List.mem_of_getElem? (i := 534) (by decide +kernel)) (by decide +kernel)
theorem tw_ml_X5_231 : Cond.methodLink RX5 231 yX3_copyFrom ∈ lw_good := lw_gm (List.mem_of_getElem? (i := 535) (by decide +kernel)) (by decide +kernel)
theorem tw_ml_L_78 : Cond.methodLink RL 78 yX5_mostDelay ∈ lw_good := lw_gm (List.mem_of_getElem? (i := 536) (by decide +kernel)) (by decide +kernel)
theorem tw_im_X5_mostDelay : Cond.instanceMethod yX5_mostDelay ∈ lw_good := lw_gm (List.mem_of_getElem? (i := 537) (by decide +kernel)) (by decide +kernel)
theorem tw_se_X5_mostDelay : Cond.selects RX5 yX5_mostDelay yX5_mostDelay ∈ lw_good := lw_gm (List.mem_of_getElem? (i := 538) (by decide +kernel)) (by decide +kernel)
theorem tw_co_X5_mostDelay : Cond.code yX5_mostDelay cX5_mostDelay 3 (some .int) ∈ lw_good := lw_gm (List.mem_of_getElem? (i := 539) (by decide +kernel)) (by decide +kernel)
theorem tw_ml_L_82 : Cond.methodLink RL 82 yX5_bestMinute ∈ lw_good := lw_gm (List.mem_of_getElem? (i := 540) (by decide +kernel)) (by decide +kernel)
theorem tw_im_X5_bestMinute : Cond.instanceMethod yX5_bestMinute ∈ lw_good := lw_gm (List.mem_of_getElem? (i := 541) (by decide +kernel)) (by decide +kernel)
theorem tw_se_X5_bestMinute : Cond.selects RX5 yX5_bestMinute yX5_bestMinute ∈ lw_good := lw_gm (List.mem_of_getElem? (i := 542) (by decide +kernel)) (by decide +kernel)
theorem tw_co_X5_bestMinute : Cond.code yX5_bestMinute cX5_bestMinute 9 (some .int) ∈ lw_good := lw_gm (List.mem_of_getElem? (i := 543) (by decide +kernel)) (by decide +kernel)
theorem tw_ml_X5_234 : Cond.methodLink RX5 234 yX2_lineUp ∈ lw_good := lw_gm (List.mem_of_getElem? (i := 544) (by decide +kernel)) (by decide +kernel)
theorem tw_ml_X5_237 : Cond.methodLink RX5 237 yX2_board ∈ lw_good := lw_gm (List.mem_of_getElem? (i := 545) (by decide +kernel)) (by decide +kernel)
theorem tw_ml_L_86 : Cond.methodLink RL 86 yX5_fullest ∈ lw_good := lw_gm (List.mem_of_getElem? (i := 546) (by decide +kernel)) (by decide +kernel)
theorem tw_im_X5_fullest : Cond.instanceMethod yX5_fullest ∈ lw_good := lw_gm (List.mem_of_getElem? (i := 547) (by decide +kernel)) (by decide +kernel)
theorem tw_se_X5_fullest : Cond.selects RX5 yX5_fullest yX5_fullest ∈ lw_good := lw_gm (List.mem_of_getElem? (i := 548) (by decide +kernel)) (by decide +kernel)
theorem tw_co_X5_fullest : Cond.code yX5_fullest cX5_fullest 4 (some .int) ∈ lw_good := lw_gm (List.mem_of_getElem? (i := 549) (by decide +kernel)) (by decide +kernel)
theorem tw_ml_L_92 : Cond.methodLink RL 92 yX5_put ∈ lw_good := lw_gm (List.mem_of_getElem? (i := 550) (by decide +kernel)) (by decide +kernel)
theorem tw_im_X5_put : Cond.instanceMethod yX5_put ∈ lw_good := lw_gm (List.mem_of_getElem? (i := 551) (by decide +kernel)) (by decide +kernel)
theorem tw_se_X5_put : Cond.selects RX5 yX5_put yX5_put ∈ lw_good := lw_gm (List.mem_of_getElem? (i := 552) (by decide +kernel)) (by decide +kernel)
theorem tw_co_X5_put : Cond.code yX5_put cX5_put 4 (some .int) ∈ lw_good := lw_gm (List.mem_of_getElem? (i := 553) (by decide +kernel)) (by decide +kernel)
theorem tw_ml_X5_240 : Cond.methodLink RX5 240 yX1_charactersIn ∈ lw_good := lw_gm (List.mem_of_getElem? (i := 554) (by decide +kernel)) (by decide +kernel)
theorem tw_st_X1_charactersIn : Cond.static yX1_charactersIn ∈ lw_good := lw_gm (List.mem_of_getElem? (i := 555) (by decide +kernel)) (by decide +kernel)
theorem tw_co_X1_charactersIn : Cond.code yX1_charactersIn cX1_charactersIn 5 (some .int) ∈ lw_good := lw_gm (List.mem_of_getElem? (i := 556) (by decide +kernel)) (by decide +kernel)
theorem tw_cL_X1_15 : Cond.constantLong RX1 15 (255) ∈ lw_good := lw_gm (List.mem_of_getElem? (i := 557) (by decide +kernel)) (by decide +kernel)
theorem tw_ml_X5_244 : Cond.methodLink RX5 244 yX1_append ∈ lw_good := lw_gm (List.mem_of_getElem? (i := 558) (by decide +kernel)) (by decide +kernel)
theorem tw_im_X1_append : Cond.instanceMethod yX1_append ∈ lw_good := lw_gm (List.mem_of_getElem? (i := 559) (by decide +kernel)) (by decide +kernel)
theorem tw_se_X1_append : Cond.selects RX1 yX1_append yX1_append ∈ lw_good := lw_gm (List.mem_of_getElem? (i := 560) (by decide +kernel)) (by decide +kernel)
theorem tw_co_X1_append : Cond.code yX1_append cX1_append 7 none ∈ lw_good := lw_gm (List.mem_of_getElem? (i := 561) (by decide +kernel)) (by decide +kernel)
theorem tw_ml_L_97 : Cond.methodLink RL 97 yX5_wipe ∈ lw_good := lw_gm (List.mem_of_getElem? (i := 562) (by decide +kernel)) (by decide +kernel)
theorem tw_im_X5_wipe : Cond.instanceMethod yX5_wipe ∈ lw_good := lw_gm (List.mem_of_getElem? (i := 563) (by decide +kernel)) (by decide +kernel)
theorem tw_se_X5_wipe : Cond.selects RX5 yX5_wipe yX5_wipe ∈ lw_good := lw_gm (List.mem_of_getElem? (i := 564) (by decide +kernel)) (by decide +kernel)
theorem tw_co_X5_wipe : Cond.code yX5_wipe cX5_wipe 2 (some .int) ∈ lw_good := lw_gm (List.mem_of_getElem? (i := 565) (by decide +kernel)) (by decide +kernel)
theorem tw_ml_L_101 : Cond.methodLink RL 101 yX5_fault ∈ lw_good := lw_gm (List.mem_of_getElem? (i := 566) (by decide +kernel)) (by decide +kernel)
theorem tw_im_X5_fault : Cond.instanceMethod yX5_fault ∈ lw_good := lw_gm (List.mem_of_getElem? (i := 567) (by decide +kernel)) (by decide +kernel)
theorem tw_se_X5_fault : Cond.selects RX5 yX5_fault yX5_fault ∈ lw_good := lw_gm (List.mem_of_getElem? (i := 568) (by decide +kernel)) (by decide +kernel)
theorem tw_co_X5_fault : Cond.code yX5_fault cX5_fault 1 (some .int) ∈ lw_good := lw_gm (List.mem_of_getElem? (i := 569) (by decide +kernel)) (by decide +kernel)
theorem tw_ml_L_105 : Cond.methodLink RL 105 yX5_undo ∈ lw_good := lw_gm (List.mem_of_getElem? (i := 570) (by decide +kernel)) (by decide +kernel)
theorem tw_im_X5_undo : Cond.instanceMethod yX5_undo ∈ lw_good := lw_gm (List.mem_of_getElem? (i := 571) (by decide +kernel)) (by decide +kernel)
theorem tw_se_X5_undo : Cond.selects RX5 yX5_undo yX5_undo ∈ lw_good := lw_gm (List.mem_of_getElem? (i := 572) (by decide +kernel)) (by decide +kernel)
theorem tw_co_X5_undo : Cond.code yX5_undo cX5_undo 1 (some .int) ∈ lw_good := lw_gm (List.mem_of_getElem? (i := 573) (by decide +kernel)) (by decide +kernel)
theorem tw_ml_X5_248 : Cond.methodLink RX5 248 yX0_takeBack ∈ lw_good := lw_gm (List.mem_of_getElem? (i := 574) (by decide +kernel)) (by decide +kernel)
theorem tw_im_X0_takeBack : Cond.instanceMethod yX0_takeBack ∈ lw_good := lw_gm (List.mem_of_getElem? (i := 575) (by decide +kernel)) (by decide +kernel)
theorem tw_se_X0_takeBack : Cond.selects RX0 yX0_takeBack yX0_takeBack ∈ lw_good := lw_gm (List.mem_of_getElem? (i := 576) (by decide +kernel)) (by decide +kernel)
theorem tw_co_X0_takeBack : Cond.code yX0_takeBack cX0_takeBack 2 none ∈ lw_good := lw_gm (List.mem_of_getElem? (i := 577) (by decide +kernel)) (by decide +kernel)
theorem tw_ml_L_109 : Cond.methodLink RL 109 yX5_save ∈ lw_good := lw_gm (List.mem_of_getElem? (i := 578) (by decide +kernel)) (by decide +kernel)
theorem tw_im_X5_save : Cond.instanceMethod yX5_save ∈ lw_good := lw_gm (List.mem_of_getElem? (i := 579) (by decide +kernel)) (by decide +kernel)
theorem tw_se_X5_save : Cond.selects RX5 yX5_save yX5_save ∈ lw_good := lw_gm (List.mem_of_getElem? (i := 580) (by decide +kernel)) (by decide +kernel)
theorem tw_co_X5_save : Cond.code yX5_save cX5_save 3 (some .int) ∈ lw_good := lw_gm (List.mem_of_getElem? (i := 581) (by decide +kernel)) (by decide +kernel)
theorem tw_ml_X5_251 : Cond.methodLink RX5 251 yX5_isSlot ∈ lw_good := lw_gm (List.mem_of_getElem? (i := 582) (by decide +kernel)) (by decide +kernel)
theorem tw_st_X5_isSlot : Cond.static yX5_isSlot ∈ lw_good := lw_gm (List.mem_of_getElem? (i := 583) (by decide +kernel)) (by decide +kernel)
theorem tw_co_X5_isSlot : Cond.code yX5_isSlot cX5_isSlot 1 (some .boolean) ∈ lw_good := lw_gm (List.mem_of_getElem? (i := 584) (by decide +kernel)) (by decide +kernel)
theorem tw_ml_L_113 : Cond.methodLink RL 113 yX5_restore ∈ lw_good := lw_gm (List.mem_of_getElem? (i := 585) (by decide +kernel)) (by decide +kernel)
theorem tw_im_X5_restore : Cond.instanceMethod yX5_restore ∈ lw_good := lw_gm (List.mem_of_getElem? (i := 586) (by decide +kernel)) (by decide +kernel)
theorem tw_se_X5_restore : Cond.selects RX5 yX5_restore yX5_restore ∈ lw_good := lw_gm (List.mem_of_getElem? (i := 587) (by decide +kernel)) (by decide +kernel)
theorem tw_co_X5_restore : Cond.code yX5_restore cX5_restore 3 (some .int) ∈ lw_good := lw_gm (List.mem_of_getElem? (i := 588) (by decide +kernel)) (by decide +kernel)
theorem tw_cl_L_10 : Cond.classLink RL 10 RX6 ∈ lw_good := lw_gm (List.mem_of_getElem? (i := 589) (by decide +kernel)) (by decide +kernel)
theorem tw_is_X6 : Cond.instantiable RX6 16 ∈ lw_good := lw_gm (List.mem_of_getElem? (i := 590) (by decide +kernel)) (by decide +kernel)
theorem tw_ml_L_12 : Cond.methodLink RL 12 yX6_init ∈ lw_good := lw_gm (List.mem_of_getElem? (i := 591) (by decide +kernel)) (by decide +kernel)
theorem tw_im_X6_init : Cond.instanceMethod yX6_init ∈ lw_good := lw_gm (List.mem_of_getElem? (i := 592) (by decide +kernel)) (by decide +kernel)
theorem tw_co_X6_init : Cond.code yX6_init cX6_init 2 none ∈ lw_good := lw_gm (List.mem_of_getElem? (i := 593) (by decide +kernel)) (by decide +kernel)
theorem tw_ml_X6_1 : Cond.methodLink RX6 1 objectInit ∈ lw_good := lw_gm (List.mem_of_getElem? (i := 594) (by decide +kernel)) (by decide +kernel)
theorem tw_fl_X6_7 : Cond.fieldLink RX6 7 "ShuttleDoorsModel" "state" "[I" ∈ lw_good := lw_gm (List.mem_of_getElem? (i := 595) (by decide +kernel)) (by decide +kernel)
theorem tw_fl_X6_13 : Cond.fieldLink RX6 13 "ShuttleDoorsModel" "history" "[I" ∈ lw_good := lw_gm (List.mem_of_getElem? (i := 596) (by decide +kernel)) (by decide +kernel)
theorem tw_fl_X6_50 : Cond.fieldLink RX6 50 "ShuttleDoorsModel" "states" "I" ∈ lw_good := lw_gm (List.mem_of_getElem? (i := 597) (by decide +kernel)) (by decide +kernel)
theorem tw_fl_X6_16 : Cond.fieldLink RX6 16 "ShuttleDoorsModel" "slots" "[I" ∈ lw_good := lw_gm (List.mem_of_getElem? (i := 598) (by decide +kernel)) (by decide +kernel)
theorem tw_fl_X6_19 : Cond.fieldLink RX6 19 "ShuttleDoorsModel" "isSaved" "[I" ∈ lw_good := lw_gm (List.mem_of_getElem? (i := 599) (by decide +kernel)) (by decide +kernel)
theorem tw_fl_X6_22 : Cond.fieldLink RX6 22 "ShuttleDoorsModel" "pad" "[I" ∈ lw_good := lw_gm (List.mem_of_getElem? (i := 600) (by decide +kernel)) (by decide +kernel)
theorem tw_fl_X6_175 : Cond.fieldLink RX6 175 "ShuttleDoorsModel" "length" "I" ∈ lw_good := lw_gm (List.mem_of_getElem? (i := 601) (by decide +kernel)) (by decide +kernel)
theorem tw_fl_X6_188 : Cond.fieldLink RX6 188 "ShuttleDoorsModel" "at" "I" ∈ lw_good := lw_gm (List.mem_of_getElem? (i := 602) (by decide +kernel)) (by decide +kernel)
theorem tw_fl_X6_25 : Cond.fieldLink RX6 25 "ShuttleDoorsModel" "item" "[I" ∈ lw_good := lw_gm (List.mem_of_getElem? (i := 603) (by decide +kernel)) (by decide +kernel)
theorem tw_fl_X6_28 : Cond.fieldLink RX6 28 "ShuttleDoorsModel" "vanFor" "[I" ∈ lw_good := lw_gm (List.mem_of_getElem? (i := 604) (by decide +kernel)) (by decide +kernel)
theorem tw_fl_X6_31 : Cond.fieldLink RX6 31 "ShuttleDoorsModel" "isDone" "[I" ∈ lw_good := lw_gm (List.mem_of_getElem? (i := 605) (by decide +kernel)) (by decide +kernel)
theorem tw_fl_X6_34 : Cond.fieldLink RX6 34 "ShuttleDoorsModel" "left" "[I" ∈ lw_good := lw_gm (List.mem_of_getElem? (i := 606) (by decide +kernel)) (by decide +kernel)
theorem tw_fl_X6_37 : Cond.fieldLink RX6 37 "ShuttleDoorsModel" "areas" "[I" ∈ lw_good := lw_gm (List.mem_of_getElem? (i := 607) (by decide +kernel)) (by decide +kernel)
theorem tw_fl_X6_40 : Cond.fieldLink RX6 40 "ShuttleDoorsModel" "stopAt" "[I" ∈ lw_good := lw_gm (List.mem_of_getElem? (i := 608) (by decide +kernel)) (by decide +kernel)
theorem tw_fl_X6_43 : Cond.fieldLink RX6 43 "ShuttleDoorsModel" "stopMinute" "[I" ∈ lw_good := lw_gm (List.mem_of_getElem? (i := 609) (by decide +kernel)) (by decide +kernel)
theorem tw_fl_X6_82 : Cond.fieldLink RX6 82 "ShuttleDoorsModel" "stops" "I" ∈ lw_good := lw_gm (List.mem_of_getElem? (i := 610) (by decide +kernel)) (by decide +kernel)
theorem tw_ml_L_108 : Cond.methodLink RL 108 yX6_undo ∈ lw_good := lw_gm (List.mem_of_getElem? (i := 644) (by decide +kernel)) (by decide +kernel)
theorem tw_im_X6_undo : Cond.instanceMethod yX6_undo ∈ lw_good := lw_gm (List.mem_of_getElem? (i := 645) (by decide +kernel)) (by decide +kernel)
theorem tw_se_X6_undo : Cond.selects RX6 yX6_undo yX6_undo ∈ lw_good := lw_gm (List.mem_of_getElem? (i := 646) (by decide +kernel)) (by decide +kernel)
theorem tw_co_X6_undo : Cond.code yX6_undo cX6_undo 2 (some .int) ∈ lw_good := lw_gm (List.mem_of_getElem? (i := 647) (by decide +kernel)) (by decide +kernel)
theorem tw_ml_L_112 : Cond.methodLink RL 112 yX6_save ∈ lw_good := lw_gm (List.mem_of_getElem? (i := 648) (by decide +kernel)) (by decide +kernel)
theorem tw_im_X6_save : Cond.instanceMethod yX6_save ∈ lw_good := lw_gm (List.mem_of_getElem? (i := 649) (by decide +kernel)) (by decide +kernel)
theorem tw_se_X6_save : Cond.selects RX6 yX6_save yX6_save ∈ lw_good := lw_gm (List.mem_of_getElem? (i := 650) (by decide +kernel)) (by decide +kernel)
theorem tw_co_X6_save : Cond.code yX6_save cX6_save 3 (some .int) ∈ lw_good := lw_gm (List.mem_of_getElem? (i := 651) (by decide +kernel)) (by decide +kernel)
theorem tw_ml_X6_46 : Cond.methodLink RX6 46 yX6_within ∈ lw_good := lw_gm (List.mem_of_getElem? (i := 652) (by decide +kernel)) (by decide +kernel)
theorem tw_st_X6_within : Cond.static yX6_within ∈ lw_good := lw_gm (List.mem_of_getElem? (i := 653) (by decide +kernel)) (by decide +kernel)
theorem tw_co_X6_within : Cond.code yX6_within cX6_within 3 (some .boolean) ∈ lw_good := lw_gm (List.mem_of_getElem? (i := 654) (by decide +kernel)) (by decide +kernel)
theorem tw_ml_L_116 : Cond.methodLink RL 116 yX6_restore ∈ lw_good := lw_gm (List.mem_of_getElem? (i := 655) (by decide +kernel)) (by decide +kernel)
theorem tw_im_X6_restore : Cond.instanceMethod yX6_restore ∈ lw_good := lw_gm (List.mem_of_getElem? (i := 656) (by decide +kernel)) (by decide +kernel)
theorem tw_se_X6_restore : Cond.selects RX6 yX6_restore yX6_restore ∈ lw_good := lw_gm (List.mem_of_getElem? (i := 657) (by decide +kernel)) (by decide +kernel)
theorem tw_co_X6_restore : Cond.code yX6_restore cX6_restore 3 (some .int) ∈ lw_good := lw_gm (List.mem_of_getElem? (i := 658) (by decide +kernel)) (by decide +kernel)
theorem tw_ml_X6_54 : Cond.methodLink RX6 54 yX6_record ∈ lw_good := lw_gm (List.mem_of_getElem? (i := 659) (by decide +kernel)) (by decide +kernel)
theorem tw_im_X6_record : Cond.instanceMethod yX6_record ∈ lw_good := lw_gm (List.mem_of_getElem? (i := 661) (by decide +kernel)) (by decide +kernel)
theorem tw_co_X6_record : Cond.code yX6_record cX6_record 2 none ∈ lw_good := lw_gm (List.mem_of_getElem? (i := 662) (by decide +kernel)) (by decide +kernel)
theorem tw_ml_L_17 : Cond.methodLink RL 17 yX6_set ∈ lw_good := lw_gm (List.mem_of_getElem? (i := 663) (by decide +kernel)) (by decide +kernel)
theorem tw_im_X6_set : Cond.instanceMethod yX6_set ∈ lw_good := lw_gm (List.mem_of_getElem? (i := 664) (by decide +kernel)) (by decide +kernel)
theorem tw_se_X6_set : Cond.selects RX6 yX6_set yX6_set ∈ lw_good := lw_gm (List.mem_of_getElem? (i := 665) (by decide +kernel)) (by decide +kernel)
theorem tw_co_X6_set : Cond.code yX6_set cX6_set 4 (some .int) ∈ lw_good := lw_gm (List.mem_of_getElem? (i := 666) (by decide +kernel)) (by decide +kernel)
theorem tw_ml_X6_100 : Cond.methodLink RX6 100 yX6_leastOf ∈ lw_good := lw_gm (List.mem_of_getElem? (i := 667) (by decide +kernel)) (by decide +kernel)
theorem tw_st_X6_leastOf : Cond.static yX6_leastOf ∈ lw_good := lw_gm (List.mem_of_getElem? (i := 668) (by decide +kernel)) (by decide +kernel)
theorem tw_co_X6_leastOf : Cond.code yX6_leastOf cX6_leastOf 1 (some .int) ∈ lw_good := lw_gm (List.mem_of_getElem? (i := 669) (by decide +kernel)) (by decide +kernel)
theorem tw_ml_X6_103 : Cond.methodLink RX6 103 yX6_mostOf ∈ lw_good := lw_gm (List.mem_of_getElem? (i := 670) (by decide +kernel)) (by decide +kernel)
theorem tw_st_X6_mostOf : Cond.static yX6_mostOf ∈ lw_good := lw_gm (List.mem_of_getElem? (i := 671) (by decide +kernel)) (by decide +kernel)
theorem tw_co_X6_mostOf : Cond.code yX6_mostOf cX6_mostOf 1 (some .int) ∈ lw_good := lw_gm (List.mem_of_getElem? (i := 672) (by decide +kernel)) (by decide +kernel)
theorem tw_ml_L_21 : Cond.methodLink RL 21 yX6_land ∈ lw_good := lw_gm (List.mem_of_getElem? (i := 673) (by decide +kernel)) (by decide +kernel)
theorem tw_im_X6_land : Cond.instanceMethod yX6_land ∈ lw_good := lw_gm (List.mem_of_getElem? (i := 674) (by decide +kernel)) (by decide +kernel)
theorem tw_se_X6_land : Cond.selects RX6 yX6_land yX6_land ∈ lw_good := lw_gm (List.mem_of_getElem? (i := 675) (by decide +kernel)) (by decide +kernel)
theorem tw_co_X6_land : Cond.code yX6_land cX6_land 4 (some .int) ∈ lw_good := lw_gm (List.mem_of_getElem? (i := 676) (by decide +kernel)) (by decide +kernel)
theorem tw_ml_X6_106 : Cond.methodLink RX6 106 yX6_isFlight ∈ lw_good := lw_gm (List.mem_of_getElem? (i := 677) (by decide +kernel)) (by decide +kernel)
theorem tw_st_X6_isFlight : Cond.static yX6_isFlight ∈ lw_good := lw_gm (List.mem_of_getElem? (i := 678) (by decide +kernel)) (by decide +kernel)
theorem tw_co_X6_isFlight : Cond.code yX6_isFlight cX6_isFlight 1 (some .boolean) ∈ lw_good := lw_gm (List.mem_of_getElem? (i := 679) (by decide +kernel)) (by decide +kernel)
theorem tw_ml_L_25 : Cond.methodLink RL 25 yX6_delay ∈ lw_good := lw_gm (List.mem_of_getElem? (i := 680) (by decide +kernel)) (by decide +kernel)
theorem tw_im_X6_delay : Cond.instanceMethod yX6_delay ∈ lw_good := lw_gm (List.mem_of_getElem? (i := 681) (by decide +kernel)) (by decide +kernel)
theorem tw_se_X6_delay : Cond.selects RX6 yX6_delay yX6_delay ∈ lw_good := lw_gm (List.mem_of_getElem? (i := 682) (by decide +kernel)) (by decide +kernel)
theorem tw_co_X6_delay : Cond.code yX6_delay cX6_delay 3 (some .int) ∈ lw_good := lw_gm (List.mem_of_getElem? (i := 683) (by decide +kernel)) (by decide +kernel)
theorem tw_ml_X6_61 : Cond.methodLink RX6 61 yX6_readyOf ∈ lw_good := lw_gm (List.mem_of_getElem? (i := 684) (by decide +kernel)) (by decide +kernel)
theorem tw_im_X6_readyOf : Cond.instanceMethod yX6_readyOf ∈ lw_good := lw_gm (List.mem_of_getElem? (i := 686) (by decide +kernel)) (by decide +kernel)
theorem tw_co_X6_readyOf : Cond.code yX6_readyOf cX6_readyOf 2 (some .int) ∈ lw_good := lw_gm (List.mem_of_getElem? (i := 687) (by decide +kernel)) (by decide +kernel)
theorem tw_ml_L_30 : Cond.methodLink RL 30 yX6_van ∈ lw_good := lw_gm (List.mem_of_getElem? (i := 688) (by decide +kernel)) (by decide +kernel)
theorem tw_im_X6_van : Cond.instanceMethod yX6_van ∈ lw_good := lw_gm (List.mem_of_getElem? (i := 689) (by decide +kernel)) (by decide +kernel)
theorem tw_se_X6_van : Cond.selects RX6 yX6_van yX6_van ∈ lw_good := lw_gm (List.mem_of_getElem? (i := 690) (by decide +kernel)) (by decide +kernel)
theorem tw_co_X6_van : Cond.code yX6_van cX6_van 4 (some .int) ∈ lw_good := lw_gm (List.mem_of_getElem? (i := 691) (by decide +kernel)) (by decide +kernel)
theorem tw_ml_X6_110 : Cond.methodLink RX6 110 yX6_isVan ∈ lw_good := lw_gm (List.mem_of_getElem? (i := 692) (by decide +kernel)) (by decide +kernel)
theorem tw_st_X6_isVan : Cond.static yX6_isVan ∈ lw_good := lw_gm (List.mem_of_getElem? (i := 693) (by decide +kernel)) (by decide +kernel)
theorem tw_co_X6_isVan : Cond.code yX6_isVan cX6_isVan 1 (some .boolean) ∈ lw_good := lw_gm (List.mem_of_getElem? (i := 694) (by decide +kernel)) (by decide +kernel)
theorem tw_ml_X6_113 : Cond.methodLink RX6 113 yX6_lay ∈ lw_good := lw_gm (List.mem_of_getElem? (i := 695) (by decide +kernel)) (by decide +kernel)
theorem tw_im_X6_lay : Cond.instanceMethod yX6_lay ∈ lw_good := lw_gm (List.mem_of_getElem? (i := 697) (by decide +kernel)) (by decide +kernel)
theorem tw_co_X6_lay : Cond.code yX6_lay cX6_lay 4 none ∈ lw_good := lw_gm (List.mem_of_getElem? (i := 698) (by decide +kernel)) (by decide +kernel)
theorem tw_ml_X6_75 : Cond.methodLink RX6 75 yX6_nextRider ∈ lw_good := lw_gm (List.mem_of_getElem? (i := 699) (by decide +kernel)) (by decide +kernel)
theorem tw_im_X6_nextRider : Cond.instanceMethod yX6_nextRider ∈ lw_good := lw_gm (List.mem_of_getElem? (i := 701) (by decide +kernel)) (by decide +kernel)
theorem tw_co_X6_nextRider : Cond.code yX6_nextRider cX6_nextRider 3 (some .int) ∈ lw_good := lw_gm (List.mem_of_getElem? (i := 702) (by decide +kernel)) (by decide +kernel)
theorem tw_ml_X6_65 : Cond.methodLink RX6 65 yX6_ready ∈ lw_good := lw_gm (List.mem_of_getElem? (i := 703) (by decide +kernel)) (by decide +kernel)
theorem tw_im_X6_ready : Cond.instanceMethod yX6_ready ∈ lw_good := lw_gm (List.mem_of_getElem? (i := 705) (by decide +kernel)) (by decide +kernel)
theorem tw_co_X6_ready : Cond.code yX6_ready cX6_ready 2 (some .int) ∈ lw_good := lw_gm (List.mem_of_getElem? (i := 706) (by decide +kernel)) (by decide +kernel)
theorem tw_ml_X6_57 : Cond.methodLink RX6 57 yX6_of ∈ lw_good := lw_gm (List.mem_of_getElem? (i := 707) (by decide +kernel)) (by decide +kernel)
theorem tw_im_X6_of : Cond.instanceMethod yX6_of ∈ lw_good := lw_gm (List.mem_of_getElem? (i := 709) (by decide +kernel)) (by decide +kernel)
theorem tw_co_X6_of : Cond.code yX6_of cX6_of 3 (some .int) ∈ lw_good := lw_gm (List.mem_of_getElem? (i := 710) (by decide +kernel)) (by decide +kernel)
theorem tw_ml_X6_79 : Cond.methodLink RX6 79 yX6_firstVan ∈ lw_good := lw_gm (List.mem_of_getElem? (i := 711) (by decide +kernel)) (by decide +kernel)
theorem tw_im_X6_firstVan : Cond.instanceMethod yX6_firstVan ∈ lw_good := lw_gm (List.mem_of_getElem? (i := 713) (by decide +kernel)) (by decide +kernel)
theorem tw_co_X6_firstVan : Cond.code yX6_firstVan cX6_firstVan 4 (some .int) ∈ lw_good := lw_gm (List.mem_of_getElem? (i := 714) (by decide +kernel)) (by decide +kernel)
theorem tw_ml_X6_71 : Cond.methodLink RX6 71 yX6_canTake ∈ lw_good := lw_gm (List.mem_of_getElem? (i := 715) (by decide +kernel)) (by decide +kernel)
theorem tw_im_X6_canTake : Cond.instanceMethod yX6_canTake ∈ lw_good := lw_gm (List.mem_of_getElem? (i := 717) (by decide +kernel)) (by decide +kernel)
theorem tw_co_X6_canTake : Cond.code yX6_canTake cX6_canTake 5 (some .boolean) ∈ lw_good := lw_gm (List.mem_of_getElem? (i := 718) (by decide +kernel)) (by decide +kernel)
theorem tw_ml_X6_68 : Cond.methodLink RX6 68 yX6_ones ∈ lw_good := lw_gm (List.mem_of_getElem? (i := 719) (by decide +kernel)) (by decide +kernel)
theorem tw_st_X6_ones : Cond.static yX6_ones ∈ lw_good := lw_gm (List.mem_of_getElem? (i := 720) (by decide +kernel)) (by decide +kernel)
theorem tw_co_X6_ones : Cond.code yX6_ones cX6_ones 3 (some .int) ∈ lw_good := lw_gm (List.mem_of_getElem? (i := 721) (by decide +kernel)) (by decide +kernel)
theorem tw_ml_X6_116 : Cond.methodLink RX6 116 yX6_strandedPeople ∈ lw_good := lw_gm (List.mem_of_getElem? (i := 722) (by decide +kernel)) (by decide +kernel)
theorem tw_im_X6_strandedPeople : Cond.instanceMethod yX6_strandedPeople ∈ lw_good := lw_gm (List.mem_of_getElem? (i := 724) (by decide +kernel)) (by decide +kernel)
theorem tw_co_X6_strandedPeople : Cond.code yX6_strandedPeople cX6_strandedPeople 3 (some .int) ∈ lw_good := lw_gm (List.mem_of_getElem? (i := 725) (by decide +kernel)) (by decide +kernel)
theorem tw_ml_L_35 : Cond.methodLink RL 35 yX6_ride ∈ lw_good := lw_gm (List.mem_of_getElem? (i := 726) (by decide +kernel)) (by decide +kernel)
theorem tw_im_X6_ride : Cond.instanceMethod yX6_ride ∈ lw_good := lw_gm (List.mem_of_getElem? (i := 727) (by decide +kernel)) (by decide +kernel)
theorem tw_se_X6_ride : Cond.selects RX6 yX6_ride yX6_ride ∈ lw_good := lw_gm (List.mem_of_getElem? (i := 728) (by decide +kernel)) (by decide +kernel)
theorem tw_co_X6_ride : Cond.code yX6_ride cX6_ride 5 (some .int) ∈ lw_good := lw_gm (List.mem_of_getElem? (i := 729) (by decide +kernel)) (by decide +kernel)
theorem tw_ml_X6_119 : Cond.methodLink RX6 119 yX6_add ∈ lw_good := lw_gm (List.mem_of_getElem? (i := 730) (by decide +kernel)) (by decide +kernel)
theorem tw_im_X6_add : Cond.instanceMethod yX6_add ∈ lw_good := lw_gm (List.mem_of_getElem? (i := 732) (by decide +kernel)) (by decide +kernel)
theorem tw_co_X6_add : Cond.code yX6_add cX6_add 6 none ∈ lw_good := lw_gm (List.mem_of_getElem? (i := 733) (by decide +kernel)) (by decide +kernel)
theorem tw_ml_L_45 : Cond.methodLink RL 45 yX6_cancel ∈ lw_good := lw_gm (List.mem_of_getElem? (i := 734) (by decide +kernel)) (by decide +kernel)
theorem tw_im_X6_cancel : Cond.instanceMethod yX6_cancel ∈ lw_good := lw_gm (List.mem_of_getElem? (i := 735) (by decide +kernel)) (by decide +kernel)
theorem tw_se_X6_cancel : Cond.selects RX6 yX6_cancel yX6_cancel ∈ lw_good := lw_gm (List.mem_of_getElem? (i := 736) (by decide +kernel)) (by decide +kernel)
theorem tw_co_X6_cancel : Cond.code yX6_cancel cX6_cancel 4 (some .int) ∈ lw_good := lw_gm (List.mem_of_getElem? (i := 737) (by decide +kernel)) (by decide +kernel)
theorem tw_ml_X6_123 : Cond.methodLink RX6 123 yX6_isRider ∈ lw_good := lw_gm (List.mem_of_getElem? (i := 738) (by decide +kernel)) (by decide +kernel)
theorem tw_im_X6_isRider : Cond.instanceMethod yX6_isRider ∈ lw_good := lw_gm (List.mem_of_getElem? (i := 740) (by decide +kernel)) (by decide +kernel)
theorem tw_co_X6_isRider : Cond.code yX6_isRider cX6_isRider 2 (some .boolean) ∈ lw_good := lw_gm (List.mem_of_getElem? (i := 741) (by decide +kernel)) (by decide +kernel)
theorem tw_ml_X6_126 : Cond.methodLink RX6 126 yX6_fare ∈ lw_good := lw_gm (List.mem_of_getElem? (i := 742) (by decide +kernel)) (by decide +kernel)
theorem tw_im_X6_fare : Cond.instanceMethod yX6_fare ∈ lw_good := lw_gm (List.mem_of_getElem? (i := 744) (by decide +kernel)) (by decide +kernel)
theorem tw_co_X6_fare : Cond.code yX6_fare cX6_fare 2 (some .int) ∈ lw_good := lw_gm (List.mem_of_getElem? (i := 745) (by decide +kernel)) (by decide +kernel)
theorem tw_ml_X6_96 : Cond.methodLink RX6 96 yX6_part ∈ lw_good := lw_gm (List.mem_of_getElem? (i := 746) (by decide +kernel)) (by decide +kernel)
theorem tw_im_X6_part : Cond.instanceMethod yX6_part ∈ lw_good := lw_gm (List.mem_of_getElem? (i := 748) (by decide +kernel)) (by decide +kernel)
theorem tw_co_X6_part : Cond.code yX6_part cX6_part 9 (some .int) ∈ lw_good := lw_gm (List.mem_of_getElem? (i := 749) (by decide +kernel)) (by decide +kernel)
theorem tw_ml_X6_92 : Cond.methodLink RX6 92 yX6_isWith ∈ lw_good := lw_gm (List.mem_of_getElem? (i := 750) (by decide +kernel)) (by decide +kernel)
theorem tw_im_X6_isWith : Cond.instanceMethod yX6_isWith ∈ lw_good := lw_gm (List.mem_of_getElem? (i := 752) (by decide +kernel)) (by decide +kernel)
theorem tw_co_X6_isWith : Cond.code yX6_isWith cX6_isWith 4 (some .boolean) ∈ lw_good := lw_gm (List.mem_of_getElem? (i := 753) (by decide +kernel)) (by decide +kernel)
theorem tw_ml_X6_85 : Cond.methodLink RX6 85 yX6_keyOf ∈ lw_good := lw_gm (List.mem_of_getElem? (i := 754) (by decide +kernel)) (by decide +kernel)
theorem tw_im_X6_keyOf : Cond.instanceMethod yX6_keyOf ∈ lw_good := lw_gm (List.mem_of_getElem? (i := 756) (by decide +kernel)) (by decide +kernel)
theorem tw_co_X6_keyOf : Cond.code yX6_keyOf cX6_keyOf 2 (some .int) ∈ lw_good := lw_gm (List.mem_of_getElem? (i := 757) (by decide +kernel)) (by decide +kernel)
theorem tw_ml_L_49 : Cond.methodLink RL 49 yX6_rebook ∈ lw_good := lw_gm (List.mem_of_getElem? (i := 758) (by decide +kernel)) (by decide +kernel)
theorem tw_im_X6_rebook : Cond.instanceMethod yX6_rebook ∈ lw_good := lw_gm (List.mem_of_getElem? (i := 759) (by decide +kernel)) (by decide +kernel)
theorem tw_se_X6_rebook : Cond.selects RX6 yX6_rebook yX6_rebook ∈ lw_good := lw_gm (List.mem_of_getElem? (i := 760) (by decide +kernel)) (by decide +kernel)
theorem tw_co_X6_rebook : Cond.code yX6_rebook cX6_rebook 3 (some .int) ∈ lw_good := lw_gm (List.mem_of_getElem? (i := 761) (by decide +kernel)) (by decide +kernel)
theorem tw_ml_L_53 : Cond.methodLink RL 53 yX6_rider ∈ lw_good := lw_gm (List.mem_of_getElem? (i := 762) (by decide +kernel)) (by decide +kernel)
theorem tw_im_X6_rider : Cond.instanceMethod yX6_rider ∈ lw_good := lw_gm (List.mem_of_getElem? (i := 763) (by decide +kernel)) (by decide +kernel)
theorem tw_se_X6_rider : Cond.selects RX6 yX6_rider yX6_rider ∈ lw_good := lw_gm (List.mem_of_getElem? (i := 764) (by decide +kernel)) (by decide +kernel)
theorem tw_co_X6_rider : Cond.code yX6_rider cX6_rider 4 (some .int) ∈ lw_good := lw_gm (List.mem_of_getElem? (i := 765) (by decide +kernel)) (by decide +kernel)
theorem tw_ml_X6_135 : Cond.methodLink RX6 135 yX6_tellsDriven ∈ lw_good := lw_gm (List.mem_of_getElem? (i := 766) (by decide +kernel)) (by decide +kernel)
theorem tw_im_X6_tellsDriven : Cond.instanceMethod yX6_tellsDriven ∈ lw_good := lw_gm (List.mem_of_getElem? (i := 768) (by decide +kernel)) (by decide +kernel)
theorem tw_co_X6_tellsDriven : Cond.code yX6_tellsDriven cX6_tellsDriven 4 (some .int) ∈ lw_good := lw_gm (List.mem_of_getElem? (i := 769) (by decide +kernel)) (by decide +kernel)
theorem tw_ml_X6_129 : Cond.methodLink RX6 129 yX6_minuteAt ∈ lw_good := lw_gm (List.mem_of_getElem? (i := 770) (by decide +kernel)) (by decide +kernel)
theorem tw_im_X6_minuteAt : Cond.instanceMethod yX6_minuteAt ∈ lw_good := lw_gm (List.mem_of_getElem? (i := 772) (by decide +kernel)) (by decide +kernel)
theorem tw_co_X6_minuteAt : Cond.code yX6_minuteAt cX6_minuteAt 4 (some .int) ∈ lw_good := lw_gm (List.mem_of_getElem? (i := 773) (by decide +kernel)) (by decide +kernel)
theorem tw_ml_X6_88 : Cond.methodLink RX6 88 yX6_layStops ∈ lw_good := lw_gm (List.mem_of_getElem? (i := 774) (by decide +kernel)) (by decide +kernel)
theorem tw_im_X6_layStops : Cond.instanceMethod yX6_layStops ∈ lw_good := lw_gm (List.mem_of_getElem? (i := 776) (by decide +kernel)) (by decide +kernel)
theorem tw_co_X6_layStops : Cond.code yX6_layStops cX6_layStops 7 none ∈ lw_good := lw_gm (List.mem_of_getElem? (i := 777) (by decide +kernel)) (by decide +kernel)
theorem tw_ml_X6_132 : Cond.methodLink RX6 132 yX6_sharing ∈ lw_good := lw_gm (List.mem_of_getElem? (i := 778) (by decide +kernel)) (by decide +kernel)
theorem tw_im_X6_sharing : Cond.instanceMethod yX6_sharing ∈ lw_good := lw_gm (List.mem_of_getElem? (i := 780) (by decide +kernel)) (by decide +kernel)
theorem tw_co_X6_sharing : Cond.code yX6_sharing cX6_sharing 4 (some .int) ∈ lw_good := lw_gm (List.mem_of_getElem? (i := 781) (by decide +kernel)) (by decide +kernel)
theorem tw_ml_L_57 : Cond.methodLink RL 57 yX6_vanOf ∈ lw_good := lw_gm (List.mem_of_getElem? (i := 782) (by decide +kernel)) (by decide +kernel)
theorem tw_im_X6_vanOf : Cond.instanceMethod yX6_vanOf ∈ lw_good := lw_gm (List.mem_of_getElem? (i := 783) (by decide +kernel)) (by decide +kernel)
theorem tw_se_X6_vanOf : Cond.selects RX6 yX6_vanOf yX6_vanOf ∈ lw_good := lw_gm (List.mem_of_getElem? (i := 784) (by decide +kernel)) (by decide +kernel)
theorem tw_co_X6_vanOf : Cond.code yX6_vanOf cX6_vanOf 3 (some .int) ∈ lw_good := lw_gm (List.mem_of_getElem? (i := 785) (by decide +kernel)) (by decide +kernel)
theorem tw_ml_X6_138 : Cond.methodLink RX6 138 yX6_peopleIn ∈ lw_good := lw_gm (List.mem_of_getElem? (i := 786) (by decide +kernel)) (by decide +kernel)
theorem tw_im_X6_peopleIn : Cond.instanceMethod yX6_peopleIn ∈ lw_good := lw_gm (List.mem_of_getElem? (i := 788) (by decide +kernel)) (by decide +kernel)
theorem tw_co_X6_peopleIn : Cond.code yX6_peopleIn cX6_peopleIn 2 (some .int) ∈ lw_good := lw_gm (List.mem_of_getElem? (i := 789) (by decide +kernel)) (by decide +kernel)
theorem tw_ml_X6_141 : Cond.methodLink RX6 141 yX6_ridersIn ∈ lw_good := lw_gm (List.mem_of_getElem? (i := 790) (by decide +kernel)) (by decide +kernel)
theorem tw_im_X6_ridersIn : Cond.instanceMethod yX6_ridersIn ∈ lw_good := lw_gm (List.mem_of_getElem? (i := 792) (by decide +kernel)) (by decide +kernel)
theorem tw_co_X6_ridersIn : Cond.code yX6_ridersIn cX6_ridersIn 4 (some .int) ∈ lw_good := lw_gm (List.mem_of_getElem? (i := 793) (by decide +kernel)) (by decide +kernel)
theorem tw_ml_X6_144 : Cond.methodLink RX6 144 yX6_faresIn ∈ lw_good := lw_gm (List.mem_of_getElem? (i := 794) (by decide +kernel)) (by decide +kernel)
theorem tw_im_X6_faresIn : Cond.instanceMethod yX6_faresIn ∈ lw_good := lw_gm (List.mem_of_getElem? (i := 796) (by decide +kernel)) (by decide +kernel)
theorem tw_co_X6_faresIn : Cond.code yX6_faresIn cX6_faresIn 4 (some .int) ∈ lw_good := lw_gm (List.mem_of_getElem? (i := 797) (by decide +kernel)) (by decide +kernel)
theorem tw_ml_L_61 : Cond.methodLink RL 61 yX6_flight ∈ lw_good := lw_gm (List.mem_of_getElem? (i := 798) (by decide +kernel)) (by decide +kernel)
theorem tw_im_X6_flight : Cond.instanceMethod yX6_flight ∈ lw_good := lw_gm (List.mem_of_getElem? (i := 799) (by decide +kernel)) (by decide +kernel)
theorem tw_se_X6_flight : Cond.selects RX6 yX6_flight yX6_flight ∈ lw_good := lw_gm (List.mem_of_getElem? (i := 800) (by decide +kernel)) (by decide +kernel)
theorem tw_co_X6_flight : Cond.code yX6_flight cX6_flight 3 (some .int) ∈ lw_good := lw_gm (List.mem_of_getElem? (i := 801) (by decide +kernel)) (by decide +kernel)
theorem tw_ml_X6_147 : Cond.methodLink RX6 147 yX6_peopleOf ∈ lw_good := lw_gm (List.mem_of_getElem? (i := 802) (by decide +kernel)) (by decide +kernel)
theorem tw_im_X6_peopleOf : Cond.instanceMethod yX6_peopleOf ∈ lw_good := lw_gm (List.mem_of_getElem? (i := 804) (by decide +kernel)) (by decide +kernel)
theorem tw_co_X6_peopleOf : Cond.code yX6_peopleOf cX6_peopleOf 6 (some .int) ∈ lw_good := lw_gm (List.mem_of_getElem? (i := 805) (by decide +kernel)) (by decide +kernel)
theorem tw_ml_L_65 : Cond.methodLink RL 65 yX6_stop ∈ lw_good := lw_gm (List.mem_of_getElem? (i := 806) (by decide +kernel)) (by decide +kernel)
theorem tw_im_X6_stop : Cond.instanceMethod yX6_stop ∈ lw_good := lw_gm (List.mem_of_getElem? (i := 807) (by decide +kernel)) (by decide +kernel)
theorem tw_se_X6_stop : Cond.selects RX6 yX6_stop yX6_stop ∈ lw_good := lw_gm (List.mem_of_getElem? (i := 808) (by decide +kernel)) (by decide +kernel)
theorem tw_co_X6_stop : Cond.code yX6_stop cX6_stop 4 (some .int) ∈ lw_good := lw_gm (List.mem_of_getElem? (i := 809) (by decide +kernel)) (by decide +kernel)
theorem tw_ml_X6_151 : Cond.methodLink RX6 151 yX6_gettingOut ∈ lw_good := lw_gm (List.mem_of_getElem? (i := 810) (by decide +kernel)) (by decide +kernel)
theorem tw_im_X6_gettingOut : Cond.instanceMethod yX6_gettingOut ∈ lw_good := lw_gm (List.mem_of_getElem? (i := 812) (by decide +kernel)) (by decide +kernel)
theorem tw_co_X6_gettingOut : Cond.code yX6_gettingOut cX6_gettingOut 5 (some .int) ∈ lw_good := lw_gm (List.mem_of_getElem? (i := 813) (by decide +kernel)) (by decide +kernel)
theorem tw_ml_L_69 : Cond.methodLink RL 69 yX6_count ∈ lw_good := lw_gm (List.mem_of_getElem? (i := 814) (by decide +kernel)) (by decide +kernel)
theorem tw_im_X6_count : Cond.instanceMethod yX6_count ∈ lw_good := lw_gm (List.mem_of_getElem? (i := 815) (by decide +kernel)) (by decide +kernel)
theorem tw_se_X6_count : Cond.selects RX6 yX6_count yX6_count ∈ lw_good := lw_gm (List.mem_of_getElem? (i := 816) (by decide +kernel)) (by decide +kernel)
theorem tw_co_X6_count : Cond.code yX6_count cX6_count 2 (some .int) ∈ lw_good := lw_gm (List.mem_of_getElem? (i := 817) (by decide +kernel)) (by decide +kernel)
theorem tw_ml_X6_154 : Cond.methodLink RX6 154 yX6_allPeople ∈ lw_good := lw_gm (List.mem_of_getElem? (i := 818) (by decide +kernel)) (by decide +kernel)
theorem tw_im_X6_allPeople : Cond.instanceMethod yX6_allPeople ∈ lw_good := lw_gm (List.mem_of_getElem? (i := 820) (by decide +kernel)) (by decide +kernel)
theorem tw_co_X6_allPeople : Cond.code yX6_allPeople cX6_allPeople 3 (some .int) ∈ lw_good := lw_gm (List.mem_of_getElem? (i := 821) (by decide +kernel)) (by decide +kernel)
theorem tw_ml_X6_157 : Cond.methodLink RX6 157 yX6_strandedRiders ∈ lw_good := lw_gm (List.mem_of_getElem? (i := 822) (by decide +kernel)) (by decide +kernel)
theorem tw_im_X6_strandedRiders : Cond.instanceMethod yX6_strandedRiders ∈ lw_good := lw_gm (List.mem_of_getElem? (i := 824) (by decide +kernel)) (by decide +kernel)
theorem tw_co_X6_strandedRiders : Cond.code yX6_strandedRiders cX6_strandedRiders 3 (some .int) ∈ lw_good := lw_gm (List.mem_of_getElem? (i := 825) (by decide +kernel)) (by decide +kernel)
theorem tw_ml_X6_160 : Cond.methodLink RX6 160 yX6_waiting ∈ lw_good := lw_gm (List.mem_of_getElem? (i := 826) (by decide +kernel)) (by decide +kernel)
theorem tw_im_X6_waiting : Cond.instanceMethod yX6_waiting ∈ lw_good := lw_gm (List.mem_of_getElem? (i := 828) (by decide +kernel)) (by decide +kernel)
theorem tw_co_X6_waiting : Cond.code yX6_waiting cX6_waiting 3 (some .int) ∈ lw_good := lw_gm (List.mem_of_getElem? (i := 829) (by decide +kernel)) (by decide +kernel)
theorem tw_ml_X6_163 : Cond.methodLink RX6 163 yX6_allFares ∈ lw_good := lw_gm (List.mem_of_getElem? (i := 830) (by decide +kernel)) (by decide +kernel)
theorem tw_im_X6_allFares : Cond.instanceMethod yX6_allFares ∈ lw_good := lw_gm (List.mem_of_getElem? (i := 832) (by decide +kernel)) (by decide +kernel)
theorem tw_co_X6_allFares : Cond.code yX6_allFares cX6_allFares 3 (some .int) ∈ lw_good := lw_gm (List.mem_of_getElem? (i := 833) (by decide +kernel)) (by decide +kernel)
theorem tw_ml_X6_166 : Cond.methodLink RX6 166 yX6_usedVans ∈ lw_good := lw_gm (List.mem_of_getElem? (i := 834) (by decide +kernel)) (by decide +kernel)
theorem tw_im_X6_usedVans : Cond.instanceMethod yX6_usedVans ∈ lw_good := lw_gm (List.mem_of_getElem? (i := 836) (by decide +kernel)) (by decide +kernel)
theorem tw_co_X6_usedVans : Cond.code yX6_usedVans cX6_usedVans 3 (some .int) ∈ lw_good := lw_gm (List.mem_of_getElem? (i := 837) (by decide +kernel)) (by decide +kernel)
theorem tw_ml_X6_169 : Cond.methodLink RX6 169 yX6_allStops ∈ lw_good := lw_gm (List.mem_of_getElem? (i := 838) (by decide +kernel)) (by decide +kernel)
theorem tw_im_X6_allStops : Cond.instanceMethod yX6_allStops ∈ lw_good := lw_gm (List.mem_of_getElem? (i := 840) (by decide +kernel)) (by decide +kernel)
theorem tw_co_X6_allStops : Cond.code yX6_allStops cX6_allStops 3 (some .int) ∈ lw_good := lw_gm (List.mem_of_getElem? (i := 841) (by decide +kernel)) (by decide +kernel)
theorem tw_ml_X6_172 : Cond.methodLink RX6 172 yX6_lastMinute ∈ lw_good := lw_gm (List.mem_of_getElem? (i := 842) (by decide +kernel)) (by decide +kernel)
theorem tw_im_X6_lastMinute : Cond.instanceMethod yX6_lastMinute ∈ lw_good := lw_gm (List.mem_of_getElem? (i := 844) (by decide +kernel)) (by decide +kernel)
theorem tw_co_X6_lastMinute : Cond.code yX6_lastMinute cX6_lastMinute 4 (some .int) ∈ lw_good := lw_gm (List.mem_of_getElem? (i := 845) (by decide +kernel)) (by decide +kernel)
theorem tw_ml_L_73 : Cond.methodLink RL 73 yX6_kerb ∈ lw_good := lw_gm (List.mem_of_getElem? (i := 846) (by decide +kernel)) (by decide +kernel)
theorem tw_im_X6_kerb : Cond.instanceMethod yX6_kerb ∈ lw_good := lw_gm (List.mem_of_getElem? (i := 847) (by decide +kernel)) (by decide +kernel)
theorem tw_se_X6_kerb : Cond.selects RX6 yX6_kerb yX6_kerb ∈ lw_good := lw_gm (List.mem_of_getElem? (i := 848) (by decide +kernel)) (by decide +kernel)
theorem tw_co_X6_kerb : Cond.code yX6_kerb cX6_kerb 7 (some .int) ∈ lw_good := lw_gm (List.mem_of_getElem? (i := 849) (by decide +kernel)) (by decide +kernel)
theorem tw_ml_L_77 : Cond.methodLink RL 77 yX6_ifDelayed ∈ lw_good := lw_gm (List.mem_of_getElem? (i := 850) (by decide +kernel)) (by decide +kernel)
theorem tw_im_X6_ifDelayed : Cond.instanceMethod yX6_ifDelayed ∈ lw_good := lw_gm (List.mem_of_getElem? (i := 851) (by decide +kernel)) (by decide +kernel)
theorem tw_se_X6_ifDelayed : Cond.selects RX6 yX6_ifDelayed yX6_ifDelayed ∈ lw_good := lw_gm (List.mem_of_getElem? (i := 852) (by decide +kernel)) (by decide +kernel)
theorem tw_co_X6_ifDelayed : Cond.code yX6_ifDelayed cX6_ifDelayed 6 (some .int) ∈ lw_good := lw_gm (List.mem_of_getElem? (i := 853) (by decide +kernel)) (by decide +kernel)
theorem tw_ml_L_81 : Cond.methodLink RL 81 yX6_mostDelay ∈ lw_good := lw_gm (List.mem_of_getElem? (i := 854) (by decide +kernel)) (by decide +kernel)
theorem tw_im_X6_mostDelay : Cond.instanceMethod yX6_mostDelay ∈ lw_good := lw_gm (List.mem_of_getElem? (i := 855) (by decide +kernel)) (by decide +kernel)
theorem tw_se_X6_mostDelay : Cond.selects RX6 yX6_mostDelay yX6_mostDelay ∈ lw_good := lw_gm (List.mem_of_getElem? (i := 856) (by decide +kernel)) (by decide +kernel)
theorem tw_co_X6_mostDelay : Cond.code yX6_mostDelay cX6_mostDelay 6 (some .int) ∈ lw_good := lw_gm (List.mem_of_getElem? (i := 857) (by decide +kernel)) (by decide +kernel)
theorem tw_ml_L_85 : Cond.methodLink RL 85 yX6_bestMinute ∈ lw_good := lw_gm (List.mem_of_getElem? (i := 858) (by decide +kernel)) (by decide +kernel)
theorem tw_im_X6_bestMinute : Cond.instanceMethod yX6_bestMinute ∈ lw_good := lw_gm (List.mem_of_getElem? (i := 859) (by decide +kernel)) (by decide +kernel)
theorem tw_se_X6_bestMinute : Cond.selects RX6 yX6_bestMinute yX6_bestMinute ∈ lw_good := lw_gm (List.mem_of_getElem? (i := 860) (by decide +kernel)) (by decide +kernel)
theorem tw_co_X6_bestMinute : Cond.code yX6_bestMinute cX6_bestMinute 9 (some .int) ∈ lw_good := lw_gm (List.mem_of_getElem? (i := 861) (by decide +kernel)) (by decide +kernel)
theorem tw_ml_L_89 : Cond.methodLink RL 89 yX6_fullest ∈ lw_good := lw_gm (List.mem_of_getElem? (i := 862) (by decide +kernel)) (by decide +kernel)
theorem tw_im_X6_fullest : Cond.instanceMethod yX6_fullest ∈ lw_good := lw_gm (List.mem_of_getElem? (i := 863) (by decide +kernel)) (by decide +kernel)
theorem tw_se_X6_fullest : Cond.selects RX6 yX6_fullest yX6_fullest ∈ lw_good := lw_gm (List.mem_of_getElem? (i := 864) (by decide +kernel)) (by decide +kernel)
theorem tw_co_X6_fullest : Cond.code yX6_fullest cX6_fullest 4 (some .int) ∈ lw_good := lw_gm (List.mem_of_getElem? (i := 865) (by decide +kernel)) (by decide +kernel)
theorem tw_ml_L_96 : Cond.methodLink RL 96 yX6_put ∈ lw_good := lw_gm (List.mem_of_getElem? (i := 866) (by decide +kernel)) (by decide +kernel)
theorem tw_im_X6_put : Cond.instanceMethod yX6_put ∈ lw_good := lw_gm (List.mem_of_getElem? (i := 867) (by decide +kernel)) (by decide +kernel)
theorem tw_se_X6_put : Cond.selects RX6 yX6_put yX6_put ∈ lw_good := lw_gm (List.mem_of_getElem? (i := 868) (by decide +kernel)) (by decide +kernel)
theorem tw_co_X6_put : Cond.code yX6_put cX6_put 5 (some .int) ∈ lw_good := lw_gm (List.mem_of_getElem? (i := 869) (by decide +kernel)) (by decide +kernel)
theorem tw_ml_X6_184 : Cond.methodLink RX6 184 yX6_charactersIn ∈ lw_good := lw_gm (List.mem_of_getElem? (i := 870) (by decide +kernel)) (by decide +kernel)
theorem tw_st_X6_charactersIn : Cond.static yX6_charactersIn ∈ lw_good := lw_gm (List.mem_of_getElem? (i := 871) (by decide +kernel)) (by decide +kernel)
theorem tw_co_X6_charactersIn : Cond.code yX6_charactersIn cX6_charactersIn 5 (some .int) ∈ lw_good := lw_gm (List.mem_of_getElem? (i := 872) (by decide +kernel)) (by decide +kernel)
theorem tw_ml_X6_180 : Cond.methodLink RX6 180 yX6_codeAt ∈ lw_good := lw_gm (List.mem_of_getElem? (i := 873) (by decide +kernel)) (by decide +kernel)
theorem tw_st_X6_codeAt : Cond.static yX6_codeAt ∈ lw_good := lw_gm (List.mem_of_getElem? (i := 874) (by decide +kernel)) (by decide +kernel)
theorem tw_co_X6_codeAt : Cond.code yX6_codeAt cX6_codeAt 3 (some .int) ∈ lw_good := lw_gm (List.mem_of_getElem? (i := 875) (by decide +kernel)) (by decide +kernel)
theorem tw_cL_X6_178 : Cond.constantLong RX6 178 (255) ∈ lw_good := lw_gm (List.mem_of_getElem? (i := 876) (by decide +kernel)) (by decide +kernel)
theorem tw_ml_L_100 : Cond.methodLink RL 100 yX6_wipe ∈ lw_good := lw_gm (List.mem_of_getElem? (i := 877) (by decide +kernel)) (by decide +kernel)
theorem tw_im_X6_wipe : Cond.instanceMethod yX6_wipe ∈ lw_good := lw_gm (List.mem_of_getElem? (i := 878) (by decide +kernel)) (by decide +kernel)
theorem tw_se_X6_wipe : Cond.selects RX6 yX6_wipe yX6_wipe ∈ lw_good := lw_gm (List.mem_of_getElem? (i := 879) (by decide +kernel)) (by decide +kernel)
theorem tw_co_X6_wipe : Cond.code yX6_wipe cX6_wipe 2 (some .int) ∈ lw_good := lw_gm (List.mem_of_getElem? (i := 880) (by decide +kernel)) (by decide +kernel)
theorem tw_ml_L_40 : Cond.methodLink RL 40 yX6_read ∈ lw_good := lw_gm (List.mem_of_getElem? (i := 881) (by decide +kernel)) (by decide +kernel)
theorem tw_im_X6_read : Cond.instanceMethod yX6_read ∈ lw_good := lw_gm (List.mem_of_getElem? (i := 882) (by decide +kernel)) (by decide +kernel)
theorem tw_se_X6_read : Cond.selects RX6 yX6_read yX6_read ∈ lw_good := lw_gm (List.mem_of_getElem? (i := 883) (by decide +kernel)) (by decide +kernel)
theorem tw_co_X6_read : Cond.code yX6_read cX6_read 1 (some .int) ∈ lw_good := lw_gm (List.mem_of_getElem? (i := 884) (by decide +kernel)) (by decide +kernel)
theorem tw_ml_X6_201 : Cond.methodLink RX6 201 yX6_findFault ∈ lw_good := lw_gm (List.mem_of_getElem? (i := 885) (by decide +kernel)) (by decide +kernel)
theorem tw_im_X6_findFault : Cond.instanceMethod yX6_findFault ∈ lw_good := lw_gm (List.mem_of_getElem? (i := 887) (by decide +kernel)) (by decide +kernel)
theorem tw_co_X6_findFault : Cond.code yX6_findFault cX6_findFault 1 (some .int) ∈ lw_good := lw_gm (List.mem_of_getElem? (i := 888) (by decide +kernel)) (by decide +kernel)
theorem tw_ml_X6_197 : Cond.methodLink RX6 197 yX6_readsRider ∈ lw_good := lw_gm (List.mem_of_getElem? (i := 889) (by decide +kernel)) (by decide +kernel)
theorem tw_im_X6_readsRider : Cond.instanceMethod yX6_readsRider ∈ lw_good := lw_gm (List.mem_of_getElem? (i := 891) (by decide +kernel)) (by decide +kernel)
theorem tw_co_X6_readsRider : Cond.code yX6_readsRider cX6_readsRider 2 (some .boolean) ∈ lw_good := lw_gm (List.mem_of_getElem? (i := 892) (by decide +kernel)) (by decide +kernel)
theorem tw_ml_X6_194 : Cond.methodLink RX6 194 yX6_readsSign ∈ lw_good := lw_gm (List.mem_of_getElem? (i := 893) (by decide +kernel)) (by decide +kernel)
theorem tw_im_X6_readsSign : Cond.instanceMethod yX6_readsSign ∈ lw_good := lw_gm (List.mem_of_getElem? (i := 895) (by decide +kernel)) (by decide +kernel)
theorem tw_co_X6_readsSign : Cond.code yX6_readsSign cX6_readsSign 5 (some .boolean) ∈ lw_good := lw_gm (List.mem_of_getElem? (i := 896) (by decide +kernel)) (by decide +kernel)
theorem tw_ml_X6_191 : Cond.methodLink RX6 191 yX6_next ∈ lw_good := lw_gm (List.mem_of_getElem? (i := 897) (by decide +kernel)) (by decide +kernel)
theorem tw_im_X6_next : Cond.instanceMethod yX6_next ∈ lw_good := lw_gm (List.mem_of_getElem? (i := 899) (by decide +kernel)) (by decide +kernel)
theorem tw_co_X6_next : Cond.code yX6_next cX6_next 1 (some .int) ∈ lw_good := lw_gm (List.mem_of_getElem? (i := 900) (by decide +kernel)) (by decide +kernel)
theorem tw_ml_X6_204 : Cond.methodLink RX6 204 yX6_ridersOfPad ∈ lw_good := lw_gm (List.mem_of_getElem? (i := 901) (by decide +kernel)) (by decide +kernel)
theorem tw_im_X6_ridersOfPad : Cond.instanceMethod yX6_ridersOfPad ∈ lw_good := lw_gm (List.mem_of_getElem? (i := 903) (by decide +kernel)) (by decide +kernel)
theorem tw_co_X6_ridersOfPad : Cond.code yX6_ridersOfPad cX6_ridersOfPad 3 (some .int) ∈ lw_good := lw_gm (List.mem_of_getElem? (i := 904) (by decide +kernel)) (by decide +kernel)
theorem tw_ml_L_104 : Cond.methodLink RL 104 yX6_fault ∈ lw_good := lw_gm (List.mem_of_getElem? (i := 905) (by decide +kernel)) (by decide +kernel)
theorem tw_im_X6_fault : Cond.instanceMethod yX6_fault ∈ lw_good := lw_gm (List.mem_of_getElem? (i := 906) (by decide +kernel)) (by decide +kernel)
theorem tw_se_X6_fault : Cond.selects RX6 yX6_fault yX6_fault ∈ lw_good := lw_gm (List.mem_of_getElem? (i := 907) (by decide +kernel)) (by decide +kernel)
theorem tw_co_X6_fault : Cond.code yX6_fault cX6_fault 1 (some .int) ∈ lw_good := lw_gm (List.mem_of_getElem? (i := 908) (by decide +kernel)) (by decide +kernel)
theorem tw_cL_L_90 : Cond.constantLong RL 90 (4294967295) ∈ lw_good := lw_gm (List.mem_of_getElem? (i := 909) (by decide +kernel)) (by decide +kernel)
theorem tn_X3_39 : Cond.fieldLinkNest RX3 39 "ShuttleDoors" "SETTING_FIRST" "[I" "ShuttleDoors" ∈ lw_tbl := List.mem_of_getElem? (i := 77) (by decide +kernel)
theorem tn_ls_SETTING_FIRST : Cond.laysStatic "ShuttleDoors" "SETTING_FIRST" "[I" ∈ lw_tbl := List.mem_of_getElem? (i := 78) (by decide +kernel)
theorem tn_X5_18 : Cond.methodLinkNest RX5 18 yX2_init "ShuttleDoors" ∈ lw_tbl := List.mem_of_getElem? (i := 133) (by decide +kernel)
theorem tn_X5_25 : Cond.methodLinkNest RX5 25 yX4_init "ShuttleDoors" ∈ lw_tbl := List.mem_of_getElem? (i := 171) (by decide +kernel)
theorem tn_X5_38 : Cond.methodLinkNest RX5 38 yX1_init "ShuttleDoors" ∈ lw_tbl := List.mem_of_getElem? (i := 194) (by decide +kernel)
theorem tn_ao : Cond.arrayOver (.object RX3) ∈ lw_tbl := List.mem_of_getElem? (i := 213) (by decide +kernel)
theorem tn_ls_SETTING_LEAST : Cond.laysStatic "ShuttleDoors" "SETTING_LEAST" "[I" ∈ lw_tbl := List.mem_of_getElem? (i := 259) (by decide +kernel)
theorem tn_ls_SETTING_MOST : Cond.laysStatic "ShuttleDoors" "SETTING_MOST" "[I" ∈ lw_tbl := List.mem_of_getElem? (i := 261) (by decide +kernel)
theorem tn_X2_81 : Cond.methodLinkNest RX2 81 yX5_isIn "ShuttleDoors" ∈ lw_tbl := List.mem_of_getElem? (i := 305) (by decide +kernel)
theorem tn_X2_64 : Cond.methodLinkNest RX2 64 yX5_isVan "ShuttleDoors" ∈ lw_tbl := List.mem_of_getElem? (i := 312) (by decide +kernel)
theorem tn_X1_17 : Cond.methodLinkNest RX1 17 yX5_isIn "ShuttleDoors" ∈ lw_tbl := List.mem_of_getElem? (i := 354) (by decide +kernel)
theorem inX0 : ∀ w ∈ wsX00, w ∈ lw_good := by decide +kernel
theorem inX1 : ∀ w ∈ wsX10, w ∈ lw_good := by decide +kernel
theorem inX2 : ∀ w ∈ wsX20, w ∈ lw_good := by decide +kernel
theorem inX3 : ∀ w ∈ wsX30, w ∈ lw_good := by decide +kernel
theorem inX4 : ∀ w ∈ wsX40, w ∈ lw_good := by decide +kernel
theorem inX5 : ∀ w ∈ wsX50, w ∈ lw_good := by decide +kernel
theorem inX6 : ∀ w ∈ wsX60, w ∈ lw_good := by decide +kernel
end
section
theorem dX0_init_0 : decode cX0_init 0 = .ok (.aload_n 0, 1) := by decide +kernel
theorem dX0_init_1 : decode cX0_init 1 = .ok (.invokespecial 3, 3) := by decide +kernel
theorem dX0_init_4 : decode cX0_init 4 = .ok (.aload_n 0, 1) := by decide +kernel
theorem dX0_init_5 : decode cX0_init 5 = .ok (.bipush 6, 2) := by decide +kernel
theorem dX0_init_7 : decode cX0_init 7 = .ok (.anewarray 9, 3) := by decide +kernel
theorem dX0_init_10 : decode cX0_init 10 = .ok (.putfield 11, 3) := by decide +kernel
theorem dX0_init_13 : decode cX0_init 13 = .ok (.iconst 0, 1) := by decide +kernel
theorem dX0_init_14 : decode cX0_init 14 = .ok (.istore_n 1, 1) := by decide +kernel
theorem dX0_init_15 : decode cX0_init 15 = .ok (.iload_n 1, 1) := by decide +kernel
theorem dX0_init_16 : decode cX0_init 16 = .ok (.bipush 6, 2) := by decide +kernel
theorem dX0_init_18 : decode cX0_init 18 = .ok (.if_icmp .ge 22, 3) := by decide +kernel
theorem dX0_init_21 : decode cX0_init 21 = .ok (.aload_n 0, 1) := by decide +kernel
theorem dX0_init_22 : decode cX0_init 22 = .ok (.getfield 11, 3) := by decide +kernel
theorem dX0_init_25 : decode cX0_init 25 = .ok (.iload_n 1, 1) := by decide +kernel
theorem dX0_init_26 : decode cX0_init 26 = .ok (.new 9, 3) := by decide +kernel
theorem dX0_init_29 : decode cX0_init 29 = .ok (.dup, 1) := by decide +kernel
theorem dX0_init_30 : decode cX0_init 30 = .ok (.invokespecial 17, 3) := by decide +kernel
theorem dX0_init_33 : decode cX0_init 33 = .ok (.aastore, 1) := by decide +kernel
theorem dX0_init_34 : decode cX0_init 34 = .ok (.iinc 1 1, 3) := by decide +kernel
theorem dX0_init_37 : decode cX0_init 37 = .ok (.goto (-22), 3) := by decide +kernel
theorem dX0_init_40 : decode cX0_init 40 = .ok (.return_, 1) := by decide +kernel
theorem dX0_record_0 : decode cX0_record 0 = .ok (.aload_n 0, 1) := by decide +kernel
theorem dX0_record_1 : decode cX0_record 1 = .ok (.getfield 18, 3) := by decide +kernel
theorem dX0_record_4 : decode cX0_record 4 = .ok (.bipush 6, 2) := by decide +kernel
theorem dX0_record_6 : decode cX0_record 6 = .ok (.if_icmp .lt 26, 3) := by decide +kernel
theorem dX0_record_9 : decode cX0_record 9 = .ok (.aload_n 0, 1) := by decide +kernel
theorem dX0_record_10 : decode cX0_record 10 = .ok (.aload_n 0, 1) := by decide +kernel
theorem dX0_record_11 : decode cX0_record 11 = .ok (.getfield 22, 3) := by decide +kernel
theorem dX0_record_14 : decode cX0_record 14 = .ok (.iconst 1, 1) := by decide +kernel
theorem dX0_record_15 : decode cX0_record 15 = .ok (.iadd, 1) := by decide +kernel
theorem dX0_record_16 : decode cX0_record 16 = .ok (.bipush 6, 2) := by decide +kernel
theorem dX0_record_18 : decode cX0_record 18 = .ok (.irem, 1) := by decide +kernel
theorem dX0_record_19 : decode cX0_record 19 = .ok (.putfield 22, 3) := by decide +kernel
theorem dX0_record_22 : decode cX0_record 22 = .ok (.aload_n 0, 1) := by decide +kernel
theorem dX0_record_23 : decode cX0_record 23 = .ok (.dup, 1) := by decide +kernel
theorem dX0_record_24 : decode cX0_record 24 = .ok (.getfield 18, 3) := by decide +kernel
theorem dX0_record_27 : decode cX0_record 27 = .ok (.iconst 1, 1) := by decide +kernel
theorem dX0_record_28 : decode cX0_record 28 = .ok (.isub, 1) := by decide +kernel
theorem dX0_record_29 : decode cX0_record 29 = .ok (.putfield 18, 3) := by decide +kernel
theorem dX0_record_32 : decode cX0_record 32 = .ok (.aload_n 0, 1) := by decide +kernel
theorem dX0_record_33 : decode cX0_record 33 = .ok (.getfield 11, 3) := by decide +kernel
theorem dX0_record_36 : decode cX0_record 36 = .ok (.aload_n 0, 1) := by decide +kernel
theorem dX0_record_37 : decode cX0_record 37 = .ok (.getfield 22, 3) := by decide +kernel
theorem dX0_record_40 : decode cX0_record 40 = .ok (.aload_n 0, 1) := by decide +kernel
theorem dX0_record_41 : decode cX0_record 41 = .ok (.getfield 18, 3) := by decide +kernel
theorem dX0_record_44 : decode cX0_record 44 = .ok (.iadd, 1) := by decide +kernel
theorem dX0_record_45 : decode cX0_record 45 = .ok (.bipush 6, 2) := by decide +kernel
theorem dX0_record_47 : decode cX0_record 47 = .ok (.irem, 1) := by decide +kernel
theorem dX0_record_48 : decode cX0_record 48 = .ok (.aaload, 1) := by decide +kernel
theorem dX0_record_49 : decode cX0_record 49 = .ok (.aload_n 1, 1) := by decide +kernel
theorem dX0_record_50 : decode cX0_record 50 = .ok (.invokevirtual 25, 3) := by decide +kernel
theorem dX0_record_53 : decode cX0_record 53 = .ok (.aload_n 0, 1) := by decide +kernel
theorem dX0_record_54 : decode cX0_record 54 = .ok (.dup, 1) := by decide +kernel
theorem dX0_record_55 : decode cX0_record 55 = .ok (.getfield 18, 3) := by decide +kernel
theorem dX0_record_58 : decode cX0_record 58 = .ok (.iconst 1, 1) := by decide +kernel
theorem dX0_record_59 : decode cX0_record 59 = .ok (.iadd, 1) := by decide +kernel
theorem dX0_record_60 : decode cX0_record 60 = .ok (.putfield 18, 3) := by decide +kernel
theorem dX0_record_63 : decode cX0_record 63 = .ok (.return_, 1) := by decide +kernel
theorem dX0_takeBack_0 : decode cX0_takeBack 0 = .ok (.aload_n 0, 1) := by decide +kernel
theorem dX0_takeBack_1 : decode cX0_takeBack 1 = .ok (.getfield 18, 3) := by decide +kernel
theorem dX0_takeBack_4 : decode cX0_takeBack 4 = .ok (.ifCond .gt 4, 3) := by decide +kernel
theorem dX0_takeBack_7 : decode cX0_takeBack 7 = .ok (.return_, 1) := by decide +kernel
theorem dX0_takeBack_8 : decode cX0_takeBack 8 = .ok (.aload_n 0, 1) := by decide +kernel
theorem dX0_takeBack_9 : decode cX0_takeBack 9 = .ok (.dup, 1) := by decide +kernel
theorem dX0_takeBack_10 : decode cX0_takeBack 10 = .ok (.getfield 18, 3) := by decide +kernel
theorem dX0_takeBack_13 : decode cX0_takeBack 13 = .ok (.iconst 1, 1) := by decide +kernel
theorem dX0_takeBack_14 : decode cX0_takeBack 14 = .ok (.isub, 1) := by decide +kernel
theorem dX0_takeBack_15 : decode cX0_takeBack 15 = .ok (.putfield 18, 3) := by decide +kernel
theorem dX0_takeBack_18 : decode cX0_takeBack 18 = .ok (.aload_n 1, 1) := by decide +kernel
theorem dX0_takeBack_19 : decode cX0_takeBack 19 = .ok (.aload_n 0, 1) := by decide +kernel
theorem dX0_takeBack_20 : decode cX0_takeBack 20 = .ok (.getfield 11, 3) := by decide +kernel
theorem dX0_takeBack_23 : decode cX0_takeBack 23 = .ok (.aload_n 0, 1) := by decide +kernel
theorem dX0_takeBack_24 : decode cX0_takeBack 24 = .ok (.getfield 22, 3) := by decide +kernel
theorem dX0_takeBack_27 : decode cX0_takeBack 27 = .ok (.aload_n 0, 1) := by decide +kernel
theorem dX0_takeBack_28 : decode cX0_takeBack 28 = .ok (.getfield 18, 3) := by decide +kernel
theorem dX0_takeBack_31 : decode cX0_takeBack 31 = .ok (.iadd, 1) := by decide +kernel
theorem dX0_takeBack_32 : decode cX0_takeBack 32 = .ok (.bipush 6, 2) := by decide +kernel
theorem dX0_takeBack_34 : decode cX0_takeBack 34 = .ok (.irem, 1) := by decide +kernel
theorem dX0_takeBack_35 : decode cX0_takeBack 35 = .ok (.aaload, 1) := by decide +kernel
theorem dX0_takeBack_36 : decode cX0_takeBack 36 = .ok (.invokevirtual 25, 3) := by decide +kernel
theorem dX0_takeBack_39 : decode cX0_takeBack 39 = .ok (.return_, 1) := by decide +kernel
theorem dX1_init_0 : decode cX1_init 0 = .ok (.aload_n 0, 1) := by decide +kernel
theorem dX1_init_1 : decode cX1_init 1 = .ok (.invokespecial 3, 3) := by decide +kernel
theorem dX1_init_4 : decode cX1_init 4 = .ok (.aload_n 0, 1) := by decide +kernel
theorem dX1_init_5 : decode cX1_init 5 = .ok (.bipush 60, 2) := by decide +kernel
theorem dX1_init_7 : decode cX1_init 7 = .ok (.newarray .int, 2) := by decide +kernel
theorem dX1_init_9 : decode cX1_init 9 = .ok (.putfield 9, 3) := by decide +kernel
theorem dX1_init_12 : decode cX1_init 12 = .ok (.return_, 1) := by decide +kernel
theorem dX1_charactersIn_0 : decode cX1_charactersIn 0 = .ok (.iconst 0, 1) := by decide +kernel
theorem dX1_charactersIn_1 : decode cX1_charactersIn 1 = .ok (.istore_n 2, 1) := by decide +kernel
theorem dX1_charactersIn_2 : decode cX1_charactersIn 2 = .ok (.lload_n 0, 1) := by decide +kernel
theorem dX1_charactersIn_3 : decode cX1_charactersIn 3 = .ok (.lstore_n 3, 1) := by decide +kernel
theorem dX1_charactersIn_4 : decode cX1_charactersIn 4 = .ok (.lload_n 3, 1) := by decide +kernel
theorem dX1_charactersIn_5 : decode cX1_charactersIn 5 = .ok (.lconst 0, 1) := by decide +kernel
theorem dX1_charactersIn_6 : decode cX1_charactersIn 6 = .ok (.lcmp, 1) := by decide +kernel
theorem dX1_charactersIn_7 : decode cX1_charactersIn 7 = .ok (.ifCond .eq 38, 3) := by decide +kernel
theorem dX1_charactersIn_10 : decode cX1_charactersIn 10 = .ok (.iload_n 2, 1) := by decide +kernel
theorem dX1_charactersIn_11 : decode cX1_charactersIn 11 = .ok (.bipush 8, 2) := by decide +kernel
theorem dX1_charactersIn_13 : decode cX1_charactersIn 13 = .ok (.if_icmp .ge 32, 3) := by decide +kernel
theorem dX1_charactersIn_16 : decode cX1_charactersIn 16 = .ok (.lload_n 3, 1) := by decide +kernel
theorem dX1_charactersIn_17 : decode cX1_charactersIn 17 = .ok (.ldc2_w 15, 3) := by decide +kernel
theorem dX1_charactersIn_20 : decode cX1_charactersIn 20 = .ok (.land, 1) := by decide +kernel
theorem dX1_charactersIn_21 : decode cX1_charactersIn 21 = .ok (.l2i, 1) := by decide +kernel
theorem dX1_charactersIn_22 : decode cX1_charactersIn 22 = .ok (.bipush 33, 2) := by decide +kernel
theorem dX1_charactersIn_24 : decode cX1_charactersIn 24 = .ok (.bipush 126, 2) := by decide +kernel
theorem dX1_charactersIn_26 : decode cX1_charactersIn 26 = .ok (.invokestatic 17, 3) := by decide +kernel
theorem dX1_charactersIn_29 : decode cX1_charactersIn 29 = .ok (.ifCond .ne 5, 3) := by decide +kernel
theorem dX1_charactersIn_32 : decode cX1_charactersIn 32 = .ok (.iconst 0, 1) := by decide +kernel
theorem dX1_charactersIn_33 : decode cX1_charactersIn 33 = .ok (.ireturn, 1) := by decide +kernel
theorem dX1_charactersIn_34 : decode cX1_charactersIn 34 = .ok (.lload_n 3, 1) := by decide +kernel
theorem dX1_charactersIn_35 : decode cX1_charactersIn 35 = .ok (.bipush 8, 2) := by decide +kernel
theorem dX1_charactersIn_37 : decode cX1_charactersIn 37 = .ok (.lushr, 1) := by decide +kernel
theorem dX1_charactersIn_38 : decode cX1_charactersIn 38 = .ok (.lstore_n 3, 1) := by decide +kernel
theorem dX1_charactersIn_39 : decode cX1_charactersIn 39 = .ok (.iinc 2 1, 3) := by decide +kernel
theorem dX1_charactersIn_42 : decode cX1_charactersIn 42 = .ok (.goto (-38), 3) := by decide +kernel
theorem dX1_charactersIn_45 : decode cX1_charactersIn 45 = .ok (.iload_n 2, 1) := by decide +kernel
theorem dX1_charactersIn_46 : decode cX1_charactersIn 46 = .ok (.ireturn, 1) := by decide +kernel
theorem dX1_append_0 : decode cX1_append 0 = .ok (.iload_n 3, 1) := by decide +kernel
theorem dX1_append_1 : decode cX1_append 1 = .ok (.ifCond .lt 14, 3) := by decide +kernel
theorem dX1_append_4 : decode cX1_append 4 = .ok (.aload_n 0, 1) := by decide +kernel
theorem dX1_append_5 : decode cX1_append 5 = .ok (.getfield 21, 3) := by decide +kernel
theorem dX1_append_8 : decode cX1_append 8 = .ok (.iload_n 3, 1) := by decide +kernel
theorem dX1_append_9 : decode cX1_append 9 = .ok (.iadd, 1) := by decide +kernel
theorem dX1_append_10 : decode cX1_append 10 = .ok (.bipush 60, 2) := by decide +kernel
theorem dX1_append_12 : decode cX1_append 12 = .ok (.if_icmp .le 4, 3) := by decide +kernel
theorem dX1_append_15 : decode cX1_append 15 = .ok (.return_, 1) := by decide +kernel
theorem dX1_append_16 : decode cX1_append 16 = .ok (.lload_n 1, 1) := by decide +kernel
theorem dX1_append_17 : decode cX1_append 17 = .ok (.lstore 4, 2) := by decide +kernel
theorem dX1_append_19 : decode cX1_append 19 = .ok (.aload_n 0, 1) := by decide +kernel
theorem dX1_append_20 : decode cX1_append 20 = .ok (.getfield 21, 3) := by decide +kernel
theorem dX1_append_23 : decode cX1_append 23 = .ok (.iload_n 3, 1) := by decide +kernel
theorem dX1_append_24 : decode cX1_append 24 = .ok (.iadd, 1) := by decide +kernel
theorem dX1_append_25 : decode cX1_append 25 = .ok (.iconst 1, 1) := by decide +kernel
theorem dX1_append_26 : decode cX1_append 26 = .ok (.isub, 1) := by decide +kernel
theorem dX1_append_27 : decode cX1_append 27 = .ok (.istore 6, 2) := by decide +kernel
theorem dX1_append_29 : decode cX1_append 29 = .ok (.iload 6, 2) := by decide +kernel
theorem dX1_append_31 : decode cX1_append 31 = .ok (.aload_n 0, 1) := by decide +kernel
theorem dX1_append_32 : decode cX1_append 32 = .ok (.getfield 21, 3) := by decide +kernel
theorem dX1_append_35 : decode cX1_append 35 = .ok (.if_icmp .lt 30, 3) := by decide +kernel
theorem dX1_append_38 : decode cX1_append 38 = .ok (.aload_n 0, 1) := by decide +kernel
theorem dX1_append_39 : decode cX1_append 39 = .ok (.getfield 9, 3) := by decide +kernel
theorem dX1_append_42 : decode cX1_append 42 = .ok (.iload 6, 2) := by decide +kernel
theorem dX1_append_44 : decode cX1_append 44 = .ok (.lload 4, 2) := by decide +kernel
theorem dX1_append_46 : decode cX1_append 46 = .ok (.ldc2_w 15, 3) := by decide +kernel
theorem dX1_append_49 : decode cX1_append 49 = .ok (.land, 1) := by decide +kernel
theorem dX1_append_50 : decode cX1_append 50 = .ok (.l2i, 1) := by decide +kernel
theorem dX1_append_51 : decode cX1_append 51 = .ok (.iastore, 1) := by decide +kernel
theorem dX1_append_52 : decode cX1_append 52 = .ok (.lload 4, 2) := by decide +kernel
theorem dX1_append_54 : decode cX1_append 54 = .ok (.bipush 8, 2) := by decide +kernel
theorem dX1_append_56 : decode cX1_append 56 = .ok (.lushr, 1) := by decide +kernel
theorem dX1_append_57 : decode cX1_append 57 = .ok (.lstore 4, 2) := by decide +kernel
theorem dX1_append_59 : decode cX1_append 59 = .ok (.iinc 6 (-1), 3) := by decide +kernel
theorem dX1_append_62 : decode cX1_append 62 = .ok (.goto (-33), 3) := by decide +kernel
theorem dX1_append_65 : decode cX1_append 65 = .ok (.aload_n 0, 1) := by decide +kernel
theorem dX1_append_66 : decode cX1_append 66 = .ok (.dup, 1) := by decide +kernel
theorem dX1_append_67 : decode cX1_append 67 = .ok (.getfield 21, 3) := by decide +kernel
theorem dX1_append_70 : decode cX1_append 70 = .ok (.iload_n 3, 1) := by decide +kernel
theorem dX1_append_71 : decode cX1_append 71 = .ok (.iadd, 1) := by decide +kernel
theorem dX1_append_72 : decode cX1_append 72 = .ok (.putfield 21, 3) := by decide +kernel
theorem dX1_append_75 : decode cX1_append 75 = .ok (.return_, 1) := by decide +kernel
theorem dX1_firstFault_0 : decode cX1_firstFault 0 = .ok (.iconst 0, 1) := by decide +kernel
theorem dX1_firstFault_1 : decode cX1_firstFault 1 = .ok (.istore_n 1, 1) := by decide +kernel
theorem dX1_firstFault_2 : decode cX1_firstFault 2 = .ok (.iconst 0, 1) := by decide +kernel
theorem dX1_firstFault_3 : decode cX1_firstFault 3 = .ok (.istore_n 2, 1) := by decide +kernel
theorem dX1_firstFault_4 : decode cX1_firstFault 4 = .ok (.iload_n 2, 1) := by decide +kernel
theorem dX1_firstFault_5 : decode cX1_firstFault 5 = .ok (.aload_n 0, 1) := by decide +kernel
theorem dX1_firstFault_6 : decode cX1_firstFault 6 = .ok (.getfield 21, 3) := by decide +kernel
theorem dX1_firstFault_9 : decode cX1_firstFault 9 = .ok (.if_icmp .ge 28, 3) := by decide +kernel
theorem dX1_firstFault_12 : decode cX1_firstFault 12 = .ok (.iload_n 1, 1) := by decide +kernel
theorem dX1_firstFault_13 : decode cX1_firstFault 13 = .ok (.aload_n 0, 1) := by decide +kernel
theorem dX1_firstFault_14 : decode cX1_firstFault 14 = .ok (.getfield 9, 3) := by decide +kernel
theorem dX1_firstFault_17 : decode cX1_firstFault 17 = .ok (.iload_n 2, 1) := by decide +kernel
theorem dX1_firstFault_18 : decode cX1_firstFault 18 = .ok (.iaload, 1) := by decide +kernel
theorem dX1_firstFault_19 : decode cX1_firstFault 19 = .ok (.invokestatic 25, 3) := by decide +kernel
theorem dX1_firstFault_22 : decode cX1_firstFault 22 = .ok (.istore_n 1, 1) := by decide +kernel
theorem dX1_firstFault_23 : decode cX1_firstFault 23 = .ok (.iload_n 1, 1) := by decide +kernel
theorem dX1_firstFault_24 : decode cX1_firstFault 24 = .ok (.bipush 7, 2) := by decide +kernel
theorem dX1_firstFault_26 : decode cX1_firstFault 26 = .ok (.if_icmp .ne 5, 3) := by decide +kernel
theorem dX1_firstFault_29 : decode cX1_firstFault 29 = .ok (.iload_n 2, 1) := by decide +kernel
theorem dX1_firstFault_30 : decode cX1_firstFault 30 = .ok (.ireturn, 1) := by decide +kernel
theorem dX1_firstFault_31 : decode cX1_firstFault 31 = .ok (.iinc 2 1, 3) := by decide +kernel
theorem dX1_firstFault_34 : decode cX1_firstFault 34 = .ok (.goto (-30), 3) := by decide +kernel
theorem dX1_firstFault_37 : decode cX1_firstFault 37 = .ok (.iload_n 1, 1) := by decide +kernel
theorem dX1_firstFault_38 : decode cX1_firstFault 38 = .ok (.invokestatic 29, 3) := by decide +kernel
theorem dX1_firstFault_41 : decode cX1_firstFault 41 = .ok (.ifCond .eq 8, 3) := by decide +kernel
theorem dX1_firstFault_44 : decode cX1_firstFault 44 = .ok (.bipush (-106), 2) := by decide +kernel
theorem dX1_firstFault_46 : decode cX1_firstFault 46 = .ok (.goto 7, 3) := by decide +kernel
theorem dX1_firstFault_49 : decode cX1_firstFault 49 = .ok (.aload_n 0, 1) := by decide +kernel
theorem dX1_firstFault_50 : decode cX1_firstFault 50 = .ok (.getfield 21, 3) := by decide +kernel
theorem dX1_firstFault_53 : decode cX1_firstFault 53 = .ok (.ireturn, 1) := by decide +kernel
theorem dX1_mayEnd_0 : decode cX1_mayEnd 0 = .ok (.iload_n 0, 1) := by decide +kernel
theorem dX1_mayEnd_1 : decode cX1_mayEnd 1 = .ok (.iconst 3, 1) := by decide +kernel
theorem dX1_mayEnd_2 : decode cX1_mayEnd 2 = .ok (.if_icmp .eq 14, 3) := by decide +kernel
theorem dX1_mayEnd_5 : decode cX1_mayEnd 5 = .ok (.iload_n 0, 1) := by decide +kernel
theorem dX1_mayEnd_6 : decode cX1_mayEnd 6 = .ok (.iconst 4, 1) := by decide +kernel
theorem dX1_mayEnd_7 : decode cX1_mayEnd 7 = .ok (.if_icmp .eq 9, 3) := by decide +kernel
theorem dX1_mayEnd_10 : decode cX1_mayEnd 10 = .ok (.iload_n 0, 1) := by decide +kernel
theorem dX1_mayEnd_11 : decode cX1_mayEnd 11 = .ok (.bipush 6, 2) := by decide +kernel
theorem dX1_mayEnd_13 : decode cX1_mayEnd 13 = .ok (.if_icmp .ne 7, 3) := by decide +kernel
theorem dX1_mayEnd_16 : decode cX1_mayEnd 16 = .ok (.iconst 1, 1) := by decide +kernel
theorem dX1_mayEnd_17 : decode cX1_mayEnd 17 = .ok (.goto 4, 3) := by decide +kernel
theorem dX1_mayEnd_20 : decode cX1_mayEnd 20 = .ok (.iconst 0, 1) := by decide +kernel
theorem dX1_mayEnd_21 : decode cX1_mayEnd 21 = .ok (.ireturn, 1) := by decide +kernel
theorem dX1_after_0 : decode cX1_after 0 = .ok (.iload_n 0, 1) := by decide +kernel
theorem dX1_after_1 : decode cX1_after 1 = .ok (.tableswitch 137 0 6 #[43, 61, 79, 84, 100, 105, 124], 43) := by decide +kernel
theorem dX1_after_44 : decode cX1_after 44 = .ok (.iload_n 1, 1) := by decide +kernel
theorem dX1_after_45 : decode cX1_after 45 = .ok (.bipush 48, 2) := by decide +kernel
theorem dX1_after_47 : decode cX1_after 47 = .ok (.bipush 53, 2) := by decide +kernel
theorem dX1_after_49 : decode cX1_after 49 = .ok (.invokestatic 17, 3) := by decide +kernel
theorem dX1_after_52 : decode cX1_after 52 = .ok (.ifCond .eq 7, 3) := by decide +kernel
theorem dX1_after_55 : decode cX1_after 55 = .ok (.iconst 1, 1) := by decide +kernel
theorem dX1_after_56 : decode cX1_after 56 = .ok (.goto 5, 3) := by decide +kernel
theorem dX1_after_59 : decode cX1_after 59 = .ok (.bipush 7, 2) := by decide +kernel
theorem dX1_after_61 : decode cX1_after 61 = .ok (.ireturn, 1) := by decide +kernel
theorem dX1_after_62 : decode cX1_after 62 = .ok (.iload_n 1, 1) := by decide +kernel
theorem dX1_after_63 : decode cX1_after 63 = .ok (.bipush 97, 2) := by decide +kernel
theorem dX1_after_65 : decode cX1_after 65 = .ok (.bipush 102, 2) := by decide +kernel
theorem dX1_after_67 : decode cX1_after 67 = .ok (.invokestatic 17, 3) := by decide +kernel
theorem dX1_after_70 : decode cX1_after 70 = .ok (.ifCond .eq 7, 3) := by decide +kernel
theorem dX1_after_73 : decode cX1_after 73 = .ok (.iconst 2, 1) := by decide +kernel
theorem dX1_after_74 : decode cX1_after 74 = .ok (.goto 5, 3) := by decide +kernel
theorem dX1_after_77 : decode cX1_after 77 = .ok (.bipush 7, 2) := by decide +kernel
theorem dX1_after_79 : decode cX1_after 79 = .ok (.ireturn, 1) := by decide +kernel
theorem dX1_after_80 : decode cX1_after 80 = .ok (.iload_n 1, 1) := by decide +kernel
theorem dX1_after_81 : decode cX1_after 81 = .ok (.invokestatic 33, 3) := by decide +kernel
theorem dX1_after_84 : decode cX1_after 84 = .ok (.ireturn, 1) := by decide +kernel
theorem dX1_after_85 : decode cX1_after 85 = .ok (.iload_n 1, 1) := by decide +kernel
theorem dX1_after_86 : decode cX1_after 86 = .ok (.invokestatic 37, 3) := by decide +kernel
theorem dX1_after_89 : decode cX1_after 89 = .ok (.ifCond .eq 7, 3) := by decide +kernel
theorem dX1_after_92 : decode cX1_after 92 = .ok (.iconst 4, 1) := by decide +kernel
theorem dX1_after_93 : decode cX1_after 93 = .ok (.goto 7, 3) := by decide +kernel
theorem dX1_after_96 : decode cX1_after 96 = .ok (.iload_n 1, 1) := by decide +kernel
theorem dX1_after_97 : decode cX1_after 97 = .ok (.invokestatic 40, 3) := by decide +kernel
theorem dX1_after_100 : decode cX1_after 100 = .ok (.ireturn, 1) := by decide +kernel
theorem dX1_after_101 : decode cX1_after 101 = .ok (.iload_n 1, 1) := by decide +kernel
theorem dX1_after_102 : decode cX1_after 102 = .ok (.invokestatic 40, 3) := by decide +kernel
theorem dX1_after_105 : decode cX1_after 105 = .ok (.ireturn, 1) := by decide +kernel
theorem dX1_after_106 : decode cX1_after 106 = .ok (.iload_n 1, 1) := by decide +kernel
theorem dX1_after_107 : decode cX1_after 107 = .ok (.bipush 49, 2) := by decide +kernel
theorem dX1_after_109 : decode cX1_after 109 = .ok (.bipush 52, 2) := by decide +kernel
theorem dX1_after_111 : decode cX1_after 111 = .ok (.invokestatic 17, 3) := by decide +kernel
theorem dX1_after_114 : decode cX1_after 114 = .ok (.ifCond .eq 8, 3) := by decide +kernel
theorem dX1_after_117 : decode cX1_after 117 = .ok (.bipush 6, 2) := by decide +kernel
theorem dX1_after_119 : decode cX1_after 119 = .ok (.goto 5, 3) := by decide +kernel
theorem dX1_after_122 : decode cX1_after 122 = .ok (.bipush 7, 2) := by decide +kernel
theorem dX1_after_124 : decode cX1_after 124 = .ok (.ireturn, 1) := by decide +kernel
theorem dX1_after_125 : decode cX1_after 125 = .ok (.iload_n 1, 1) := by decide +kernel
theorem dX1_after_126 : decode cX1_after 126 = .ok (.bipush 44, 2) := by decide +kernel
theorem dX1_after_128 : decode cX1_after 128 = .ok (.if_icmp .ne 7, 3) := by decide +kernel
theorem dX1_after_131 : decode cX1_after 131 = .ok (.iconst 0, 1) := by decide +kernel
theorem dX1_after_132 : decode cX1_after 132 = .ok (.goto 5, 3) := by decide +kernel
theorem dX1_after_135 : decode cX1_after 135 = .ok (.bipush 7, 2) := by decide +kernel
theorem dX1_after_137 : decode cX1_after 137 = .ok (.ireturn, 1) := by decide +kernel
theorem dX1_after_138 : decode cX1_after 138 = .ok (.bipush 7, 2) := by decide +kernel
theorem dX1_after_140 : decode cX1_after 140 = .ok (.ireturn, 1) := by decide +kernel
theorem dX1_afterFirstDigit_0 : decode cX1_afterFirstDigit 0 = .ok (.iload_n 0, 1) := by decide +kernel
theorem dX1_afterFirstDigit_1 : decode cX1_afterFirstDigit 1 = .ok (.invokestatic 37, 3) := by decide +kernel
theorem dX1_afterFirstDigit_4 : decode cX1_afterFirstDigit 4 = .ok (.ifCond .ne 6, 3) := by decide +kernel
theorem dX1_afterFirstDigit_7 : decode cX1_afterFirstDigit 7 = .ok (.bipush 7, 2) := by decide +kernel
theorem dX1_afterFirstDigit_9 : decode cX1_afterFirstDigit 9 = .ok (.ireturn, 1) := by decide +kernel
theorem dX1_afterFirstDigit_10 : decode cX1_afterFirstDigit 10 = .ok (.iload_n 0, 1) := by decide +kernel
theorem dX1_afterFirstDigit_11 : decode cX1_afterFirstDigit 11 = .ok (.bipush 48, 2) := by decide +kernel
theorem dX1_afterFirstDigit_13 : decode cX1_afterFirstDigit 13 = .ok (.if_icmp .ne 7, 3) := by decide +kernel
theorem dX1_afterFirstDigit_16 : decode cX1_afterFirstDigit 16 = .ok (.iconst 4, 1) := by decide +kernel
theorem dX1_afterFirstDigit_17 : decode cX1_afterFirstDigit 17 = .ok (.goto 4, 3) := by decide +kernel
theorem dX1_afterFirstDigit_20 : decode cX1_afterFirstDigit 20 = .ok (.iconst 3, 1) := by decide +kernel
theorem dX1_afterFirstDigit_21 : decode cX1_afterFirstDigit 21 = .ok (.ireturn, 1) := by decide +kernel
theorem dX1_afterDoor_0 : decode cX1_afterDoor 0 = .ok (.iload_n 0, 1) := by decide +kernel
theorem dX1_afterDoor_1 : decode cX1_afterDoor 1 = .ok (.bipush 120, 2) := by decide +kernel
theorem dX1_afterDoor_3 : decode cX1_afterDoor 3 = .ok (.if_icmp .ne 5, 3) := by decide +kernel
theorem dX1_afterDoor_6 : decode cX1_afterDoor 6 = .ok (.iconst 5, 1) := by decide +kernel
theorem dX1_afterDoor_7 : decode cX1_afterDoor 7 = .ok (.ireturn, 1) := by decide +kernel
theorem dX1_afterDoor_8 : decode cX1_afterDoor 8 = .ok (.iload_n 0, 1) := by decide +kernel
theorem dX1_afterDoor_9 : decode cX1_afterDoor 9 = .ok (.bipush 44, 2) := by decide +kernel
theorem dX1_afterDoor_11 : decode cX1_afterDoor 11 = .ok (.if_icmp .ne 7, 3) := by decide +kernel
theorem dX1_afterDoor_14 : decode cX1_afterDoor 14 = .ok (.iconst 0, 1) := by decide +kernel
theorem dX1_afterDoor_15 : decode cX1_afterDoor 15 = .ok (.goto 5, 3) := by decide +kernel
theorem dX1_afterDoor_18 : decode cX1_afterDoor 18 = .ok (.bipush 7, 2) := by decide +kernel
theorem dX1_afterDoor_20 : decode cX1_afterDoor 20 = .ok (.ireturn, 1) := by decide +kernel
theorem dX1_isDigit_0 : decode cX1_isDigit 0 = .ok (.iload_n 0, 1) := by decide +kernel
theorem dX1_isDigit_1 : decode cX1_isDigit 1 = .ok (.bipush 48, 2) := by decide +kernel
theorem dX1_isDigit_3 : decode cX1_isDigit 3 = .ok (.bipush 57, 2) := by decide +kernel
theorem dX1_isDigit_5 : decode cX1_isDigit 5 = .ok (.invokestatic 17, 3) := by decide +kernel
theorem dX1_isDigit_8 : decode cX1_isDigit 8 = .ok (.ireturn, 1) := by decide +kernel
theorem dX1_riderCount_0 : decode cX1_riderCount 0 = .ok (.iconst 1, 1) := by decide +kernel
theorem dX1_riderCount_1 : decode cX1_riderCount 1 = .ok (.istore_n 1, 1) := by decide +kernel
theorem dX1_riderCount_2 : decode cX1_riderCount 2 = .ok (.iconst 0, 1) := by decide +kernel
theorem dX1_riderCount_3 : decode cX1_riderCount 3 = .ok (.istore_n 2, 1) := by decide +kernel
theorem dX1_riderCount_4 : decode cX1_riderCount 4 = .ok (.iload_n 2, 1) := by decide +kernel
theorem dX1_riderCount_5 : decode cX1_riderCount 5 = .ok (.aload_n 0, 1) := by decide +kernel
theorem dX1_riderCount_6 : decode cX1_riderCount 6 = .ok (.getfield 21, 3) := by decide +kernel
theorem dX1_riderCount_9 : decode cX1_riderCount 9 = .ok (.if_icmp .ge 23, 3) := by decide +kernel
theorem dX1_riderCount_12 : decode cX1_riderCount 12 = .ok (.aload_n 0, 1) := by decide +kernel
theorem dX1_riderCount_13 : decode cX1_riderCount 13 = .ok (.getfield 9, 3) := by decide +kernel
theorem dX1_riderCount_16 : decode cX1_riderCount 16 = .ok (.iload_n 2, 1) := by decide +kernel
theorem dX1_riderCount_17 : decode cX1_riderCount 17 = .ok (.iaload, 1) := by decide +kernel
theorem dX1_riderCount_18 : decode cX1_riderCount 18 = .ok (.bipush 44, 2) := by decide +kernel
theorem dX1_riderCount_20 : decode cX1_riderCount 20 = .ok (.if_icmp .ne 6, 3) := by decide +kernel
theorem dX1_riderCount_23 : decode cX1_riderCount 23 = .ok (.iinc 1 1, 3) := by decide +kernel
theorem dX1_riderCount_26 : decode cX1_riderCount 26 = .ok (.iinc 2 1, 3) := by decide +kernel
theorem dX1_riderCount_29 : decode cX1_riderCount 29 = .ok (.goto (-25), 3) := by decide +kernel
theorem dX1_riderCount_32 : decode cX1_riderCount 32 = .ok (.iload_n 1, 1) := by decide +kernel
theorem dX1_riderCount_33 : decode cX1_riderCount 33 = .ok (.ireturn, 1) := by decide +kernel
theorem dX1_addRidersTo_0 : decode cX1_addRidersTo 0 = .ok (.aload_n 0, 1) := by decide +kernel
theorem dX1_addRidersTo_1 : decode cX1_addRidersTo 1 = .ok (.invokevirtual 43, 3) := by decide +kernel
theorem dX1_addRidersTo_4 : decode cX1_addRidersTo 4 = .ok (.istore_n 2, 1) := by decide +kernel
theorem dX1_addRidersTo_5 : decode cX1_addRidersTo 5 = .ok (.iconst 0, 1) := by decide +kernel
theorem dX1_addRidersTo_6 : decode cX1_addRidersTo 6 = .ok (.istore_n 3, 1) := by decide +kernel
theorem dX1_addRidersTo_7 : decode cX1_addRidersTo 7 = .ok (.iconst 0, 1) := by decide +kernel
theorem dX1_addRidersTo_8 : decode cX1_addRidersTo 8 = .ok (.istore 4, 2) := by decide +kernel
theorem dX1_addRidersTo_10 : decode cX1_addRidersTo 10 = .ok (.iload 4, 2) := by decide +kernel
theorem dX1_addRidersTo_12 : decode cX1_addRidersTo 12 = .ok (.iload_n 2, 1) := by decide +kernel
theorem dX1_addRidersTo_13 : decode cX1_addRidersTo 13 = .ok (.if_icmp .ge 18, 3) := by decide +kernel
theorem dX1_addRidersTo_16 : decode cX1_addRidersTo 16 = .ok (.aload_n 0, 1) := by decide +kernel
theorem dX1_addRidersTo_17 : decode cX1_addRidersTo 17 = .ok (.aload_n 1, 1) := by decide +kernel
theorem dX1_addRidersTo_18 : decode cX1_addRidersTo 18 = .ok (.iload_n 3, 1) := by decide +kernel
theorem dX1_addRidersTo_19 : decode cX1_addRidersTo 19 = .ok (.invokevirtual 47, 3) := by decide +kernel
theorem dX1_addRidersTo_22 : decode cX1_addRidersTo 22 = .ok (.iconst 1, 1) := by decide +kernel
theorem dX1_addRidersTo_23 : decode cX1_addRidersTo 23 = .ok (.iadd, 1) := by decide +kernel
theorem dX1_addRidersTo_24 : decode cX1_addRidersTo 24 = .ok (.istore_n 3, 1) := by decide +kernel
theorem dX1_addRidersTo_25 : decode cX1_addRidersTo 25 = .ok (.iinc 4 1, 3) := by decide +kernel
theorem dX1_addRidersTo_28 : decode cX1_addRidersTo 28 = .ok (.goto (-18), 3) := by decide +kernel
theorem dX1_addRidersTo_31 : decode cX1_addRidersTo 31 = .ok (.return_, 1) := by decide +kernel
theorem dX1_addRiderTo_0 : decode cX1_addRiderTo 0 = .ok (.aload_n 0, 1) := by decide +kernel
theorem dX1_addRiderTo_1 : decode cX1_addRiderTo 1 = .ok (.iload_n 2, 1) := by decide +kernel
theorem dX1_addRiderTo_2 : decode cX1_addRiderTo 2 = .ok (.invokevirtual 51, 3) := by decide +kernel
theorem dX1_addRiderTo_5 : decode cX1_addRiderTo 5 = .ok (.bipush 48, 2) := by decide +kernel
theorem dX1_addRiderTo_7 : decode cX1_addRiderTo 7 = .ok (.isub, 1) := by decide +kernel
theorem dX1_addRiderTo_8 : decode cX1_addRiderTo 8 = .ok (.istore_n 3, 1) := by decide +kernel
theorem dX1_addRiderTo_9 : decode cX1_addRiderTo 9 = .ok (.aload_n 0, 1) := by decide +kernel
theorem dX1_addRiderTo_10 : decode cX1_addRiderTo 10 = .ok (.iload_n 2, 1) := by decide +kernel
theorem dX1_addRiderTo_11 : decode cX1_addRiderTo 11 = .ok (.iconst 1, 1) := by decide +kernel
theorem dX1_addRiderTo_12 : decode cX1_addRiderTo 12 = .ok (.iadd, 1) := by decide +kernel
theorem dX1_addRiderTo_13 : decode cX1_addRiderTo 13 = .ok (.invokevirtual 51, 3) := by decide +kernel
theorem dX1_addRiderTo_16 : decode cX1_addRiderTo 16 = .ok (.bipush 97, 2) := by decide +kernel
theorem dX1_addRiderTo_18 : decode cX1_addRiderTo 18 = .ok (.isub, 1) := by decide +kernel
theorem dX1_addRiderTo_19 : decode cX1_addRiderTo 19 = .ok (.istore 4, 2) := by decide +kernel
theorem dX1_addRiderTo_21 : decode cX1_addRiderTo 21 = .ok (.aload_n 0, 1) := by decide +kernel
theorem dX1_addRiderTo_22 : decode cX1_addRiderTo 22 = .ok (.iload_n 2, 1) := by decide +kernel
theorem dX1_addRiderTo_23 : decode cX1_addRiderTo 23 = .ok (.iconst 2, 1) := by decide +kernel
theorem dX1_addRiderTo_24 : decode cX1_addRiderTo 24 = .ok (.iadd, 1) := by decide +kernel
theorem dX1_addRiderTo_25 : decode cX1_addRiderTo 25 = .ok (.invokevirtual 51, 3) := by decide +kernel
theorem dX1_addRiderTo_28 : decode cX1_addRiderTo 28 = .ok (.bipush 48, 2) := by decide +kernel
theorem dX1_addRiderTo_30 : decode cX1_addRiderTo 30 = .ok (.isub, 1) := by decide +kernel
theorem dX1_addRiderTo_31 : decode cX1_addRiderTo 31 = .ok (.istore 5, 2) := by decide +kernel
theorem dX1_addRiderTo_33 : decode cX1_addRiderTo 33 = .ok (.iload_n 2, 1) := by decide +kernel
theorem dX1_addRiderTo_34 : decode cX1_addRiderTo 34 = .ok (.iconst 3, 1) := by decide +kernel
theorem dX1_addRiderTo_35 : decode cX1_addRiderTo 35 = .ok (.iadd, 1) := by decide +kernel
theorem dX1_addRiderTo_36 : decode cX1_addRiderTo 36 = .ok (.istore 6, 2) := by decide +kernel
theorem dX1_addRiderTo_38 : decode cX1_addRiderTo 38 = .ok (.aload_n 0, 1) := by decide +kernel
theorem dX1_addRiderTo_39 : decode cX1_addRiderTo 39 = .ok (.iload 6, 2) := by decide +kernel
theorem dX1_addRiderTo_41 : decode cX1_addRiderTo 41 = .ok (.invokevirtual 51, 3) := by decide +kernel
theorem dX1_addRiderTo_44 : decode cX1_addRiderTo 44 = .ok (.invokestatic 37, 3) := by decide +kernel
theorem dX1_addRiderTo_47 : decode cX1_addRiderTo 47 = .ok (.ifCond .eq 23, 3) := by decide +kernel
theorem dX1_addRiderTo_50 : decode cX1_addRiderTo 50 = .ok (.bipush 10, 2) := by decide +kernel
theorem dX1_addRiderTo_52 : decode cX1_addRiderTo 52 = .ok (.iload 5, 2) := by decide +kernel
theorem dX1_addRiderTo_54 : decode cX1_addRiderTo 54 = .ok (.imul, 1) := by decide +kernel
theorem dX1_addRiderTo_55 : decode cX1_addRiderTo 55 = .ok (.aload_n 0, 1) := by decide +kernel
theorem dX1_addRiderTo_56 : decode cX1_addRiderTo 56 = .ok (.iload 6, 2) := by decide +kernel
theorem dX1_addRiderTo_58 : decode cX1_addRiderTo 58 = .ok (.invokevirtual 51, 3) := by decide +kernel
theorem dX1_addRiderTo_61 : decode cX1_addRiderTo 61 = .ok (.iadd, 1) := by decide +kernel
theorem dX1_addRiderTo_62 : decode cX1_addRiderTo 62 = .ok (.bipush 48, 2) := by decide +kernel
theorem dX1_addRiderTo_64 : decode cX1_addRiderTo 64 = .ok (.isub, 1) := by decide +kernel
theorem dX1_addRiderTo_65 : decode cX1_addRiderTo 65 = .ok (.istore 5, 2) := by decide +kernel
theorem dX1_addRiderTo_67 : decode cX1_addRiderTo 67 = .ok (.iinc 6 1, 3) := by decide +kernel
theorem dX1_addRiderTo_70 : decode cX1_addRiderTo 70 = .ok (.iconst 1, 1) := by decide +kernel
theorem dX1_addRiderTo_71 : decode cX1_addRiderTo 71 = .ok (.istore 7, 2) := by decide +kernel
theorem dX1_addRiderTo_73 : decode cX1_addRiderTo 73 = .ok (.aload_n 0, 1) := by decide +kernel
theorem dX1_addRiderTo_74 : decode cX1_addRiderTo 74 = .ok (.iload 6, 2) := by decide +kernel
theorem dX1_addRiderTo_76 : decode cX1_addRiderTo 76 = .ok (.invokevirtual 51, 3) := by decide +kernel
theorem dX1_addRiderTo_79 : decode cX1_addRiderTo 79 = .ok (.bipush 120, 2) := by decide +kernel
theorem dX1_addRiderTo_81 : decode cX1_addRiderTo 81 = .ok (.if_icmp .ne 19, 3) := by decide +kernel
theorem dX1_addRiderTo_84 : decode cX1_addRiderTo 84 = .ok (.aload_n 0, 1) := by decide +kernel
theorem dX1_addRiderTo_85 : decode cX1_addRiderTo 85 = .ok (.iload 6, 2) := by decide +kernel
theorem dX1_addRiderTo_87 : decode cX1_addRiderTo 87 = .ok (.iconst 1, 1) := by decide +kernel
theorem dX1_addRiderTo_88 : decode cX1_addRiderTo 88 = .ok (.iadd, 1) := by decide +kernel
theorem dX1_addRiderTo_89 : decode cX1_addRiderTo 89 = .ok (.invokevirtual 51, 3) := by decide +kernel
theorem dX1_addRiderTo_92 : decode cX1_addRiderTo 92 = .ok (.bipush 48, 2) := by decide +kernel
theorem dX1_addRiderTo_94 : decode cX1_addRiderTo 94 = .ok (.isub, 1) := by decide +kernel
theorem dX1_addRiderTo_95 : decode cX1_addRiderTo 95 = .ok (.istore 7, 2) := by decide +kernel
theorem dX1_addRiderTo_97 : decode cX1_addRiderTo 97 = .ok (.iinc 6 2, 3) := by decide +kernel
theorem dX1_addRiderTo_100 : decode cX1_addRiderTo 100 = .ok (.aload_n 1, 1) := by decide +kernel
theorem dX1_addRiderTo_101 : decode cX1_addRiderTo 101 = .ok (.iload_n 3, 1) := by decide +kernel
theorem dX1_addRiderTo_102 : decode cX1_addRiderTo 102 = .ok (.iload 4, 2) := by decide +kernel
theorem dX1_addRiderTo_104 : decode cX1_addRiderTo 104 = .ok (.iload 5, 2) := by decide +kernel
theorem dX1_addRiderTo_106 : decode cX1_addRiderTo 106 = .ok (.iload 7, 2) := by decide +kernel
theorem dX1_addRiderTo_108 : decode cX1_addRiderTo 108 = .ok (.invokevirtual 54, 3) := by decide +kernel
theorem dX1_addRiderTo_111 : decode cX1_addRiderTo 111 = .ok (.iload 6, 2) := by decide +kernel
theorem dX1_addRiderTo_113 : decode cX1_addRiderTo 113 = .ok (.ireturn, 1) := by decide +kernel
theorem dX1_codeAt_0 : decode cX1_codeAt 0 = .ok (.iload_n 1, 1) := by decide +kernel
theorem dX1_codeAt_1 : decode cX1_codeAt 1 = .ok (.iconst 0, 1) := by decide +kernel
theorem dX1_codeAt_2 : decode cX1_codeAt 2 = .ok (.aload_n 0, 1) := by decide +kernel
theorem dX1_codeAt_3 : decode cX1_codeAt 3 = .ok (.getfield 21, 3) := by decide +kernel
theorem dX1_codeAt_6 : decode cX1_codeAt 6 = .ok (.iconst 1, 1) := by decide +kernel
theorem dX1_codeAt_7 : decode cX1_codeAt 7 = .ok (.isub, 1) := by decide +kernel
theorem dX1_codeAt_8 : decode cX1_codeAt 8 = .ok (.invokestatic 17, 3) := by decide +kernel
theorem dX1_codeAt_11 : decode cX1_codeAt 11 = .ok (.ifCond .eq 12, 3) := by decide +kernel
theorem dX1_codeAt_14 : decode cX1_codeAt 14 = .ok (.aload_n 0, 1) := by decide +kernel
theorem dX1_codeAt_15 : decode cX1_codeAt 15 = .ok (.getfield 9, 3) := by decide +kernel
theorem dX1_codeAt_18 : decode cX1_codeAt 18 = .ok (.iload_n 1, 1) := by decide +kernel
theorem dX1_codeAt_19 : decode cX1_codeAt 19 = .ok (.iaload, 1) := by decide +kernel
theorem dX1_codeAt_20 : decode cX1_codeAt 20 = .ok (.goto 4, 3) := by decide +kernel
theorem dX1_codeAt_23 : decode cX1_codeAt 23 = .ok (.iconst 0, 1) := by decide +kernel
theorem dX1_codeAt_24 : decode cX1_codeAt 24 = .ok (.ireturn, 1) := by decide +kernel
theorem dX2_init_0 : decode cX2_init 0 = .ok (.aload_n 0, 1) := by decide +kernel
theorem dX2_init_1 : decode cX2_init 1 = .ok (.invokespecial 3, 3) := by decide +kernel
theorem dX2_init_4 : decode cX2_init 4 = .ok (.aload_n 0, 1) := by decide +kernel
theorem dX2_init_5 : decode cX2_init 5 = .ok (.bipush 24, 2) := by decide +kernel
theorem dX2_init_7 : decode cX2_init 7 = .ok (.newarray .int, 2) := by decide +kernel
theorem dX2_init_9 : decode cX2_init 9 = .ok (.putfield 9, 3) := by decide +kernel
theorem dX2_init_12 : decode cX2_init 12 = .ok (.aload_n 0, 1) := by decide +kernel
theorem dX2_init_13 : decode cX2_init 13 = .ok (.bipush 24, 2) := by decide +kernel
theorem dX2_init_15 : decode cX2_init 15 = .ok (.newarray .int, 2) := by decide +kernel
theorem dX2_init_17 : decode cX2_init 17 = .ok (.putfield 15, 3) := by decide +kernel
theorem dX2_init_20 : decode cX2_init 20 = .ok (.aload_n 0, 1) := by decide +kernel
theorem dX2_init_21 : decode cX2_init 21 = .ok (.bipush 24, 2) := by decide +kernel
theorem dX2_init_23 : decode cX2_init 23 = .ok (.newarray .int, 2) := by decide +kernel
theorem dX2_init_25 : decode cX2_init 25 = .ok (.putfield 18, 3) := by decide +kernel
theorem dX2_init_28 : decode cX2_init 28 = .ok (.aload_n 0, 1) := by decide +kernel
theorem dX2_init_29 : decode cX2_init 29 = .ok (.bipush 8, 2) := by decide +kernel
theorem dX2_init_31 : decode cX2_init 31 = .ok (.newarray .int, 2) := by decide +kernel
theorem dX2_init_33 : decode cX2_init 33 = .ok (.putfield 21, 3) := by decide +kernel
theorem dX2_init_36 : decode cX2_init 36 = .ok (.aload_n 0, 1) := by decide +kernel
theorem dX2_init_37 : decode cX2_init 37 = .ok (.bipush 8, 2) := by decide +kernel
theorem dX2_init_39 : decode cX2_init 39 = .ok (.newarray .int, 2) := by decide +kernel
theorem dX2_init_41 : decode cX2_init 41 = .ok (.putfield 24, 3) := by decide +kernel
theorem dX2_init_44 : decode cX2_init 44 = .ok (.return_, 1) := by decide +kernel
theorem dX2_make_0 : decode cX2_make 0 = .ok (.aload_n 0, 1) := by decide +kernel
theorem dX2_make_1 : decode cX2_make 1 = .ok (.aload_n 1, 1) := by decide +kernel
theorem dX2_make_2 : decode cX2_make 2 = .ok (.invokevirtual 27, 3) := by decide +kernel
theorem dX2_make_5 : decode cX2_make 5 = .ok (.aload_n 0, 1) := by decide +kernel
theorem dX2_make_6 : decode cX2_make 6 = .ok (.aload_n 1, 1) := by decide +kernel
theorem dX2_make_7 : decode cX2_make 7 = .ok (.invokevirtual 31, 3) := by decide +kernel
theorem dX2_make_10 : decode cX2_make 10 = .ok (.return_, 1) := by decide +kernel
theorem dX2_lineUp_0 : decode cX2_lineUp 0 = .ok (.iconst 0, 1) := by decide +kernel
theorem dX2_lineUp_1 : decode cX2_lineUp 1 = .ok (.istore_n 2, 1) := by decide +kernel
theorem dX2_lineUp_2 : decode cX2_lineUp 2 = .ok (.iload_n 2, 1) := by decide +kernel
theorem dX2_lineUp_3 : decode cX2_lineUp 3 = .ok (.aload_n 1, 1) := by decide +kernel
theorem dX2_lineUp_4 : decode cX2_lineUp 4 = .ok (.getfield 34, 3) := by decide +kernel
theorem dX2_lineUp_7 : decode cX2_lineUp 7 = .ok (.if_icmp .ge 75, 3) := by decide +kernel
theorem dX2_lineUp_10 : decode cX2_lineUp 10 = .ok (.aload_n 0, 1) := by decide +kernel
theorem dX2_lineUp_11 : decode cX2_lineUp 11 = .ok (.getfield 15, 3) := by decide +kernel
theorem dX2_lineUp_14 : decode cX2_lineUp 14 = .ok (.iload_n 2, 1) := by decide +kernel
theorem dX2_lineUp_15 : decode cX2_lineUp 15 = .ok (.aload_n 1, 1) := by decide +kernel
theorem dX2_lineUp_16 : decode cX2_lineUp 16 = .ok (.iload_n 2, 1) := by decide +kernel
theorem dX2_lineUp_17 : decode cX2_lineUp 17 = .ok (.invokevirtual 40, 3) := by decide +kernel
theorem dX2_lineUp_20 : decode cX2_lineUp 20 = .ok (.iastore, 1) := by decide +kernel
theorem dX2_lineUp_21 : decode cX2_lineUp 21 = .ok (.iload_n 2, 1) := by decide +kernel
theorem dX2_lineUp_22 : decode cX2_lineUp 22 = .ok (.istore_n 3, 1) := by decide +kernel
theorem dX2_lineUp_23 : decode cX2_lineUp 23 = .ok (.iload_n 3, 1) := by decide +kernel
theorem dX2_lineUp_24 : decode cX2_lineUp 24 = .ok (.ifCond .le 45, 3) := by decide +kernel
theorem dX2_lineUp_27 : decode cX2_lineUp 27 = .ok (.aload_n 0, 1) := by decide +kernel
theorem dX2_lineUp_28 : decode cX2_lineUp 28 = .ok (.getfield 15, 3) := by decide +kernel
theorem dX2_lineUp_31 : decode cX2_lineUp 31 = .ok (.aload_n 0, 1) := by decide +kernel
theorem dX2_lineUp_32 : decode cX2_lineUp 32 = .ok (.getfield 9, 3) := by decide +kernel
theorem dX2_lineUp_35 : decode cX2_lineUp 35 = .ok (.iload_n 3, 1) := by decide +kernel
theorem dX2_lineUp_36 : decode cX2_lineUp 36 = .ok (.iconst 1, 1) := by decide +kernel
theorem dX2_lineUp_37 : decode cX2_lineUp 37 = .ok (.isub, 1) := by decide +kernel
theorem dX2_lineUp_38 : decode cX2_lineUp 38 = .ok (.iaload, 1) := by decide +kernel
theorem dX2_lineUp_39 : decode cX2_lineUp 39 = .ok (.iaload, 1) := by decide +kernel
theorem dX2_lineUp_40 : decode cX2_lineUp 40 = .ok (.aload_n 0, 1) := by decide +kernel
theorem dX2_lineUp_41 : decode cX2_lineUp 41 = .ok (.getfield 15, 3) := by decide +kernel
theorem dX2_lineUp_44 : decode cX2_lineUp 44 = .ok (.iload_n 2, 1) := by decide +kernel
theorem dX2_lineUp_45 : decode cX2_lineUp 45 = .ok (.iaload, 1) := by decide +kernel
theorem dX2_lineUp_46 : decode cX2_lineUp 46 = .ok (.if_icmp .le 23, 3) := by decide +kernel
theorem dX2_lineUp_49 : decode cX2_lineUp 49 = .ok (.aload_n 0, 1) := by decide +kernel
theorem dX2_lineUp_50 : decode cX2_lineUp 50 = .ok (.getfield 9, 3) := by decide +kernel
theorem dX2_lineUp_53 : decode cX2_lineUp 53 = .ok (.iload_n 3, 1) := by decide +kernel
theorem dX2_lineUp_54 : decode cX2_lineUp 54 = .ok (.aload_n 0, 1) := by decide +kernel
theorem dX2_lineUp_55 : decode cX2_lineUp 55 = .ok (.getfield 9, 3) := by decide +kernel
theorem dX2_lineUp_58 : decode cX2_lineUp 58 = .ok (.iload_n 3, 1) := by decide +kernel
theorem dX2_lineUp_59 : decode cX2_lineUp 59 = .ok (.iconst 1, 1) := by decide +kernel
theorem dX2_lineUp_60 : decode cX2_lineUp 60 = .ok (.isub, 1) := by decide +kernel
theorem dX2_lineUp_61 : decode cX2_lineUp 61 = .ok (.iaload, 1) := by decide +kernel
theorem dX2_lineUp_62 : decode cX2_lineUp 62 = .ok (.iastore, 1) := by decide +kernel
theorem dX2_lineUp_63 : decode cX2_lineUp 63 = .ok (.iinc 3 (-1), 3) := by decide +kernel
theorem dX2_lineUp_66 : decode cX2_lineUp 66 = .ok (.goto (-43), 3) := by decide +kernel
theorem dX2_lineUp_69 : decode cX2_lineUp 69 = .ok (.aload_n 0, 1) := by decide +kernel
theorem dX2_lineUp_70 : decode cX2_lineUp 70 = .ok (.getfield 9, 3) := by decide +kernel
theorem dX2_lineUp_73 : decode cX2_lineUp 73 = .ok (.iload_n 3, 1) := by decide +kernel
theorem dX2_lineUp_74 : decode cX2_lineUp 74 = .ok (.iload_n 2, 1) := by decide +kernel
theorem dX2_lineUp_75 : decode cX2_lineUp 75 = .ok (.iastore, 1) := by decide +kernel
theorem dX2_lineUp_76 : decode cX2_lineUp 76 = .ok (.iinc 2 1, 3) := by decide +kernel
theorem dX2_lineUp_79 : decode cX2_lineUp 79 = .ok (.goto (-77), 3) := by decide +kernel
theorem dX2_lineUp_82 : decode cX2_lineUp 82 = .ok (.return_, 1) := by decide +kernel
theorem dX2_board_0 : decode cX2_board 0 = .ok (.iconst 0, 1) := by decide +kernel
theorem dX2_board_1 : decode cX2_board 1 = .ok (.istore_n 2, 1) := by decide +kernel
theorem dX2_board_2 : decode cX2_board 2 = .ok (.iload_n 2, 1) := by decide +kernel
theorem dX2_board_3 : decode cX2_board 3 = .ok (.bipush 8, 2) := by decide +kernel
theorem dX2_board_5 : decode cX2_board 5 = .ok (.if_icmp .ge 23, 3) := by decide +kernel
theorem dX2_board_8 : decode cX2_board 8 = .ok (.aload_n 0, 1) := by decide +kernel
theorem dX2_board_9 : decode cX2_board 9 = .ok (.getfield 21, 3) := by decide +kernel
theorem dX2_board_12 : decode cX2_board 12 = .ok (.iload_n 2, 1) := by decide +kernel
theorem dX2_board_13 : decode cX2_board 13 = .ok (.iconst 0, 1) := by decide +kernel
theorem dX2_board_14 : decode cX2_board 14 = .ok (.iastore, 1) := by decide +kernel
theorem dX2_board_15 : decode cX2_board 15 = .ok (.aload_n 0, 1) := by decide +kernel
theorem dX2_board_16 : decode cX2_board 16 = .ok (.getfield 24, 3) := by decide +kernel
theorem dX2_board_19 : decode cX2_board 19 = .ok (.iload_n 2, 1) := by decide +kernel
theorem dX2_board_20 : decode cX2_board 20 = .ok (.iconst 0, 1) := by decide +kernel
theorem dX2_board_21 : decode cX2_board 21 = .ok (.iastore, 1) := by decide +kernel
theorem dX2_board_22 : decode cX2_board 22 = .ok (.iinc 2 1, 3) := by decide +kernel
theorem dX2_board_25 : decode cX2_board 25 = .ok (.goto (-23), 3) := by decide +kernel
theorem dX2_board_28 : decode cX2_board 28 = .ok (.aload_n 0, 1) := by decide +kernel
theorem dX2_board_29 : decode cX2_board 29 = .ok (.iconst 0, 1) := by decide +kernel
theorem dX2_board_30 : decode cX2_board 30 = .ok (.putfield 44, 3) := by decide +kernel
theorem dX2_board_33 : decode cX2_board 33 = .ok (.aload_n 0, 1) := by decide +kernel
theorem dX2_board_34 : decode cX2_board 34 = .ok (.iconst 0, 1) := by decide +kernel
theorem dX2_board_35 : decode cX2_board 35 = .ok (.putfield 47, 3) := by decide +kernel
theorem dX2_board_38 : decode cX2_board 38 = .ok (.aload_n 0, 1) := by decide +kernel
theorem dX2_board_39 : decode cX2_board 39 = .ok (.iconst 0, 1) := by decide +kernel
theorem dX2_board_40 : decode cX2_board 40 = .ok (.putfield 50, 3) := by decide +kernel
theorem dX2_board_43 : decode cX2_board 43 = .ok (.iconst 0, 1) := by decide +kernel
theorem dX2_board_44 : decode cX2_board 44 = .ok (.istore_n 2, 1) := by decide +kernel
theorem dX2_board_45 : decode cX2_board 45 = .ok (.iload_n 2, 1) := by decide +kernel
theorem dX2_board_46 : decode cX2_board 46 = .ok (.aload_n 1, 1) := by decide +kernel
theorem dX2_board_47 : decode cX2_board 47 = .ok (.getfield 34, 3) := by decide +kernel
theorem dX2_board_50 : decode cX2_board 50 = .ok (.if_icmp .ge 20, 3) := by decide +kernel
theorem dX2_board_53 : decode cX2_board 53 = .ok (.aload_n 0, 1) := by decide +kernel
theorem dX2_board_54 : decode cX2_board 54 = .ok (.aload_n 1, 1) := by decide +kernel
theorem dX2_board_55 : decode cX2_board 55 = .ok (.aload_n 0, 1) := by decide +kernel
theorem dX2_board_56 : decode cX2_board 56 = .ok (.getfield 9, 3) := by decide +kernel
theorem dX2_board_59 : decode cX2_board 59 = .ok (.iload_n 2, 1) := by decide +kernel
theorem dX2_board_60 : decode cX2_board 60 = .ok (.iaload, 1) := by decide +kernel
theorem dX2_board_61 : decode cX2_board 61 = .ok (.invokevirtual 53, 3) := by decide +kernel
theorem dX2_board_64 : decode cX2_board 64 = .ok (.iinc 2 1, 3) := by decide +kernel
theorem dX2_board_67 : decode cX2_board 67 = .ok (.goto (-22), 3) := by decide +kernel
theorem dX2_board_70 : decode cX2_board 70 = .ok (.return_, 1) := by decide +kernel
theorem dX2_boardOne_0 : decode cX2_boardOne 0 = .ok (.aload_n 1, 1) := by decide +kernel
theorem dX2_boardOne_1 : decode cX2_boardOne 1 = .ok (.getfield 57, 3) := by decide +kernel
theorem dX2_boardOne_4 : decode cX2_boardOne 4 = .ok (.iload_n 2, 1) := by decide +kernel
theorem dX2_boardOne_5 : decode cX2_boardOne 5 = .ok (.iaload, 1) := by decide +kernel
theorem dX2_boardOne_6 : decode cX2_boardOne 6 = .ok (.istore_n 3, 1) := by decide +kernel
theorem dX2_boardOne_7 : decode cX2_boardOne 7 = .ok (.aload_n 0, 1) := by decide +kernel
theorem dX2_boardOne_8 : decode cX2_boardOne 8 = .ok (.aload_n 1, 1) := by decide +kernel
theorem dX2_boardOne_9 : decode cX2_boardOne 9 = .ok (.iload_n 2, 1) := by decide +kernel
theorem dX2_boardOne_10 : decode cX2_boardOne 10 = .ok (.invokevirtual 60, 3) := by decide +kernel
theorem dX2_boardOne_13 : decode cX2_boardOne 13 = .ok (.istore 4, 2) := by decide +kernel
theorem dX2_boardOne_15 : decode cX2_boardOne 15 = .ok (.aload_n 0, 1) := by decide +kernel
theorem dX2_boardOne_16 : decode cX2_boardOne 16 = .ok (.getfield 18, 3) := by decide +kernel
theorem dX2_boardOne_19 : decode cX2_boardOne 19 = .ok (.iload_n 2, 1) := by decide +kernel
theorem dX2_boardOne_20 : decode cX2_boardOne 20 = .ok (.iload 4, 2) := by decide +kernel
theorem dX2_boardOne_22 : decode cX2_boardOne 22 = .ok (.iastore, 1) := by decide +kernel
theorem dX2_boardOne_23 : decode cX2_boardOne 23 = .ok (.iload 4, 2) := by decide +kernel
theorem dX2_boardOne_25 : decode cX2_boardOne 25 = .ok (.invokestatic 64, 3) := by decide +kernel
theorem dX2_boardOne_28 : decode cX2_boardOne 28 = .ok (.ifCond .ne 24, 3) := by decide +kernel
theorem dX2_boardOne_31 : decode cX2_boardOne 31 = .ok (.aload_n 0, 1) := by decide +kernel
theorem dX2_boardOne_32 : decode cX2_boardOne 32 = .ok (.dup, 1) := by decide +kernel
theorem dX2_boardOne_33 : decode cX2_boardOne 33 = .ok (.getfield 44, 3) := by decide +kernel
theorem dX2_boardOne_36 : decode cX2_boardOne 36 = .ok (.iconst 1, 1) := by decide +kernel
theorem dX2_boardOne_37 : decode cX2_boardOne 37 = .ok (.iadd, 1) := by decide +kernel
theorem dX2_boardOne_38 : decode cX2_boardOne 38 = .ok (.putfield 44, 3) := by decide +kernel
theorem dX2_boardOne_41 : decode cX2_boardOne 41 = .ok (.aload_n 0, 1) := by decide +kernel
theorem dX2_boardOne_42 : decode cX2_boardOne 42 = .ok (.dup, 1) := by decide +kernel
theorem dX2_boardOne_43 : decode cX2_boardOne 43 = .ok (.getfield 47, 3) := by decide +kernel
theorem dX2_boardOne_46 : decode cX2_boardOne 46 = .ok (.iload_n 3, 1) := by decide +kernel
theorem dX2_boardOne_47 : decode cX2_boardOne 47 = .ok (.iadd, 1) := by decide +kernel
theorem dX2_boardOne_48 : decode cX2_boardOne 48 = .ok (.putfield 47, 3) := by decide +kernel
theorem dX2_boardOne_51 : decode cX2_boardOne 51 = .ok (.return_, 1) := by decide +kernel
theorem dX2_boardOne_52 : decode cX2_boardOne 52 = .ok (.aload_n 0, 1) := by decide +kernel
theorem dX2_boardOne_53 : decode cX2_boardOne 53 = .ok (.getfield 21, 3) := by decide +kernel
theorem dX2_boardOne_56 : decode cX2_boardOne 56 = .ok (.iload 4, 2) := by decide +kernel
theorem dX2_boardOne_58 : decode cX2_boardOne 58 = .ok (.dup2, 1) := by decide +kernel
theorem dX2_boardOne_59 : decode cX2_boardOne 59 = .ok (.iaload, 1) := by decide +kernel
theorem dX2_boardOne_60 : decode cX2_boardOne 60 = .ok (.iload_n 3, 1) := by decide +kernel
theorem dX2_boardOne_61 : decode cX2_boardOne 61 = .ok (.iadd, 1) := by decide +kernel
theorem dX2_boardOne_62 : decode cX2_boardOne 62 = .ok (.iastore, 1) := by decide +kernel
theorem dX2_boardOne_63 : decode cX2_boardOne 63 = .ok (.aload_n 0, 1) := by decide +kernel
theorem dX2_boardOne_64 : decode cX2_boardOne 64 = .ok (.getfield 24, 3) := by decide +kernel
theorem dX2_boardOne_67 : decode cX2_boardOne 67 = .ok (.iload 4, 2) := by decide +kernel
theorem dX2_boardOne_69 : decode cX2_boardOne 69 = .ok (.dup2, 1) := by decide +kernel
theorem dX2_boardOne_70 : decode cX2_boardOne 70 = .ok (.iaload, 1) := by decide +kernel
theorem dX2_boardOne_71 : decode cX2_boardOne 71 = .ok (.iconst 1, 1) := by decide +kernel
theorem dX2_boardOne_72 : decode cX2_boardOne 72 = .ok (.aload_n 1, 1) := by decide +kernel
theorem dX2_boardOne_73 : decode cX2_boardOne 73 = .ok (.getfield 68, 3) := by decide +kernel
theorem dX2_boardOne_76 : decode cX2_boardOne 76 = .ok (.iload_n 2, 1) := by decide +kernel
theorem dX2_boardOne_77 : decode cX2_boardOne 77 = .ok (.iaload, 1) := by decide +kernel
theorem dX2_boardOne_78 : decode cX2_boardOne 78 = .ok (.ishl, 1) := by decide +kernel
theorem dX2_boardOne_79 : decode cX2_boardOne 79 = .ok (.ior, 1) := by decide +kernel
theorem dX2_boardOne_80 : decode cX2_boardOne 80 = .ok (.iastore, 1) := by decide +kernel
theorem dX2_boardOne_81 : decode cX2_boardOne 81 = .ok (.aload_n 0, 1) := by decide +kernel
theorem dX2_boardOne_82 : decode cX2_boardOne 82 = .ok (.dup, 1) := by decide +kernel
theorem dX2_boardOne_83 : decode cX2_boardOne 83 = .ok (.getfield 50, 3) := by decide +kernel
theorem dX2_boardOne_86 : decode cX2_boardOne 86 = .ok (.iload_n 3, 1) := by decide +kernel
theorem dX2_boardOne_87 : decode cX2_boardOne 87 = .ok (.aload_n 1, 1) := by decide +kernel
theorem dX2_boardOne_88 : decode cX2_boardOne 88 = .ok (.getfield 71, 3) := by decide +kernel
theorem dX2_boardOne_91 : decode cX2_boardOne 91 = .ok (.iload 4, 2) := by decide +kernel
theorem dX2_boardOne_93 : decode cX2_boardOne 93 = .ok (.iaload, 1) := by decide +kernel
theorem dX2_boardOne_94 : decode cX2_boardOne 94 = .ok (.aload_n 0, 1) := by decide +kernel
theorem dX2_boardOne_95 : decode cX2_boardOne 95 = .ok (.getfield 15, 3) := by decide +kernel
theorem dX2_boardOne_98 : decode cX2_boardOne 98 = .ok (.iload_n 2, 1) := by decide +kernel
theorem dX2_boardOne_99 : decode cX2_boardOne 99 = .ok (.iaload, 1) := by decide +kernel
theorem dX2_boardOne_100 : decode cX2_boardOne 100 = .ok (.isub, 1) := by decide +kernel
theorem dX2_boardOne_101 : decode cX2_boardOne 101 = .ok (.imul, 1) := by decide +kernel
theorem dX2_boardOne_102 : decode cX2_boardOne 102 = .ok (.iadd, 1) := by decide +kernel
theorem dX2_boardOne_103 : decode cX2_boardOne 103 = .ok (.putfield 50, 3) := by decide +kernel
theorem dX2_boardOne_106 : decode cX2_boardOne 106 = .ok (.return_, 1) := by decide +kernel
theorem dX2_firstVanFor_0 : decode cX2_firstVanFor 0 = .ok (.bipush (-106), 2) := by decide +kernel
theorem dX2_firstVanFor_2 : decode cX2_firstVanFor 2 = .ok (.istore_n 3, 1) := by decide +kernel
theorem dX2_firstVanFor_3 : decode cX2_firstVanFor 3 = .ok (.iconst 0, 1) := by decide +kernel
theorem dX2_firstVanFor_4 : decode cX2_firstVanFor 4 = .ok (.istore 4, 2) := by decide +kernel
theorem dX2_firstVanFor_6 : decode cX2_firstVanFor 6 = .ok (.iconst 0, 1) := by decide +kernel
theorem dX2_firstVanFor_7 : decode cX2_firstVanFor 7 = .ok (.istore 5, 2) := by decide +kernel
theorem dX2_firstVanFor_9 : decode cX2_firstVanFor 9 = .ok (.iload 5, 2) := by decide +kernel
theorem dX2_firstVanFor_11 : decode cX2_firstVanFor 11 = .ok (.bipush 8, 2) := by decide +kernel
theorem dX2_firstVanFor_13 : decode cX2_firstVanFor 13 = .ok (.if_icmp .ge 62, 3) := by decide +kernel
theorem dX2_firstVanFor_16 : decode cX2_firstVanFor 16 = .ok (.iload_n 3, 1) := by decide +kernel
theorem dX2_firstVanFor_17 : decode cX2_firstVanFor 17 = .ok (.bipush (-106), 2) := by decide +kernel
theorem dX2_firstVanFor_19 : decode cX2_firstVanFor 19 = .ok (.if_icmp .eq 15, 3) := by decide +kernel
theorem dX2_firstVanFor_22 : decode cX2_firstVanFor 22 = .ok (.aload_n 1, 1) := by decide +kernel
theorem dX2_firstVanFor_23 : decode cX2_firstVanFor 23 = .ok (.getfield 71, 3) := by decide +kernel
theorem dX2_firstVanFor_26 : decode cX2_firstVanFor 26 = .ok (.iload 5, 2) := by decide +kernel
theorem dX2_firstVanFor_28 : decode cX2_firstVanFor 28 = .ok (.iaload, 1) := by decide +kernel
theorem dX2_firstVanFor_29 : decode cX2_firstVanFor 29 = .ok (.iload 4, 2) := by decide +kernel
theorem dX2_firstVanFor_31 : decode cX2_firstVanFor 31 = .ok (.if_icmp .ge 7, 3) := by decide +kernel
theorem dX2_firstVanFor_34 : decode cX2_firstVanFor 34 = .ok (.iconst 1, 1) := by decide +kernel
theorem dX2_firstVanFor_35 : decode cX2_firstVanFor 35 = .ok (.goto 4, 3) := by decide +kernel
theorem dX2_firstVanFor_38 : decode cX2_firstVanFor 38 = .ok (.iconst 0, 1) := by decide +kernel
theorem dX2_firstVanFor_39 : decode cX2_firstVanFor 39 = .ok (.istore 6, 2) := by decide +kernel
theorem dX2_firstVanFor_41 : decode cX2_firstVanFor 41 = .ok (.iload 6, 2) := by decide +kernel
theorem dX2_firstVanFor_43 : decode cX2_firstVanFor 43 = .ok (.ifCond .eq 26, 3) := by decide +kernel
theorem dX2_firstVanFor_46 : decode cX2_firstVanFor 46 = .ok (.aload_n 0, 1) := by decide +kernel
theorem dX2_firstVanFor_47 : decode cX2_firstVanFor 47 = .ok (.aload_n 1, 1) := by decide +kernel
theorem dX2_firstVanFor_48 : decode cX2_firstVanFor 48 = .ok (.iload 5, 2) := by decide +kernel
theorem dX2_firstVanFor_50 : decode cX2_firstVanFor 50 = .ok (.iload_n 2, 1) := by decide +kernel
theorem dX2_firstVanFor_51 : decode cX2_firstVanFor 51 = .ok (.invokevirtual 74, 3) := by decide +kernel
theorem dX2_firstVanFor_54 : decode cX2_firstVanFor 54 = .ok (.ifCond .eq 15, 3) := by decide +kernel
theorem dX2_firstVanFor_57 : decode cX2_firstVanFor 57 = .ok (.iload 5, 2) := by decide +kernel
theorem dX2_firstVanFor_59 : decode cX2_firstVanFor 59 = .ok (.istore_n 3, 1) := by decide +kernel
theorem dX2_firstVanFor_60 : decode cX2_firstVanFor 60 = .ok (.aload_n 1, 1) := by decide +kernel
theorem dX2_firstVanFor_61 : decode cX2_firstVanFor 61 = .ok (.getfield 71, 3) := by decide +kernel
theorem dX2_firstVanFor_64 : decode cX2_firstVanFor 64 = .ok (.iload 5, 2) := by decide +kernel
theorem dX2_firstVanFor_66 : decode cX2_firstVanFor 66 = .ok (.iaload, 1) := by decide +kernel
theorem dX2_firstVanFor_67 : decode cX2_firstVanFor 67 = .ok (.istore 4, 2) := by decide +kernel
theorem dX2_firstVanFor_69 : decode cX2_firstVanFor 69 = .ok (.iinc 5 1, 3) := by decide +kernel
theorem dX2_firstVanFor_72 : decode cX2_firstVanFor 72 = .ok (.goto (-63), 3) := by decide +kernel
theorem dX2_firstVanFor_75 : decode cX2_firstVanFor 75 = .ok (.iload_n 3, 1) := by decide +kernel
theorem dX2_firstVanFor_76 : decode cX2_firstVanFor 76 = .ok (.ireturn, 1) := by decide +kernel
theorem dX2_takes_0 : decode cX2_takes 0 = .ok (.aload_n 1, 1) := by decide +kernel
theorem dX2_takes_1 : decode cX2_takes 1 = .ok (.getfield 71, 3) := by decide +kernel
theorem dX2_takes_4 : decode cX2_takes 4 = .ok (.iload_n 2, 1) := by decide +kernel
theorem dX2_takes_5 : decode cX2_takes 5 = .ok (.iaload, 1) := by decide +kernel
theorem dX2_takes_6 : decode cX2_takes 6 = .ok (.aload_n 0, 1) := by decide +kernel
theorem dX2_takes_7 : decode cX2_takes 7 = .ok (.getfield 15, 3) := by decide +kernel
theorem dX2_takes_10 : decode cX2_takes 10 = .ok (.iload_n 3, 1) := by decide +kernel
theorem dX2_takes_11 : decode cX2_takes 11 = .ok (.iaload, 1) := by decide +kernel
theorem dX2_takes_12 : decode cX2_takes 12 = .ok (.isub, 1) := by decide +kernel
theorem dX2_takes_13 : decode cX2_takes 13 = .ok (.istore 4, 2) := by decide +kernel
theorem dX2_takes_15 : decode cX2_takes 15 = .ok (.iload 4, 2) := by decide +kernel
theorem dX2_takes_17 : decode cX2_takes 17 = .ok (.iconst 0, 1) := by decide +kernel
theorem dX2_takes_18 : decode cX2_takes 18 = .ok (.aload_n 1, 1) := by decide +kernel
theorem dX2_takes_19 : decode cX2_takes 19 = .ok (.getfield 78, 3) := by decide +kernel
theorem dX2_takes_22 : decode cX2_takes 22 = .ok (.iconst 1, 1) := by decide +kernel
theorem dX2_takes_23 : decode cX2_takes 23 = .ok (.iaload, 1) := by decide +kernel
theorem dX2_takes_24 : decode cX2_takes 24 = .ok (.invokestatic 81, 3) := by decide +kernel
theorem dX2_takes_27 : decode cX2_takes 27 = .ok (.ifCond .ne 5, 3) := by decide +kernel
theorem dX2_takes_30 : decode cX2_takes 30 = .ok (.iconst 0, 1) := by decide +kernel
theorem dX2_takes_31 : decode cX2_takes 31 = .ok (.ireturn, 1) := by decide +kernel
theorem dX2_takes_32 : decode cX2_takes 32 = .ok (.aload_n 0, 1) := by decide +kernel
theorem dX2_takes_33 : decode cX2_takes 33 = .ok (.getfield 21, 3) := by decide +kernel
theorem dX2_takes_36 : decode cX2_takes 36 = .ok (.iload_n 2, 1) := by decide +kernel
theorem dX2_takes_37 : decode cX2_takes 37 = .ok (.iaload, 1) := by decide +kernel
theorem dX2_takes_38 : decode cX2_takes 38 = .ok (.aload_n 1, 1) := by decide +kernel
theorem dX2_takes_39 : decode cX2_takes 39 = .ok (.getfield 57, 3) := by decide +kernel
theorem dX2_takes_42 : decode cX2_takes 42 = .ok (.iload_n 3, 1) := by decide +kernel
theorem dX2_takes_43 : decode cX2_takes 43 = .ok (.iaload, 1) := by decide +kernel
theorem dX2_takes_44 : decode cX2_takes 44 = .ok (.iadd, 1) := by decide +kernel
theorem dX2_takes_45 : decode cX2_takes 45 = .ok (.aload_n 1, 1) := by decide +kernel
theorem dX2_takes_46 : decode cX2_takes 46 = .ok (.getfield 85, 3) := by decide +kernel
theorem dX2_takes_49 : decode cX2_takes 49 = .ok (.iload_n 2, 1) := by decide +kernel
theorem dX2_takes_50 : decode cX2_takes 50 = .ok (.iaload, 1) := by decide +kernel
theorem dX2_takes_51 : decode cX2_takes 51 = .ok (.if_icmp .le 5, 3) := by decide +kernel
theorem dX2_takes_54 : decode cX2_takes 54 = .ok (.iconst 0, 1) := by decide +kernel
theorem dX2_takes_55 : decode cX2_takes 55 = .ok (.ireturn, 1) := by decide +kernel
theorem dX2_takes_56 : decode cX2_takes 56 = .ok (.aload_n 0, 1) := by decide +kernel
theorem dX2_takes_57 : decode cX2_takes 57 = .ok (.getfield 24, 3) := by decide +kernel
theorem dX2_takes_60 : decode cX2_takes 60 = .ok (.iload_n 2, 1) := by decide +kernel
theorem dX2_takes_61 : decode cX2_takes 61 = .ok (.iaload, 1) := by decide +kernel
theorem dX2_takes_62 : decode cX2_takes 62 = .ok (.iconst 1, 1) := by decide +kernel
theorem dX2_takes_63 : decode cX2_takes 63 = .ok (.aload_n 1, 1) := by decide +kernel
theorem dX2_takes_64 : decode cX2_takes 64 = .ok (.getfield 68, 3) := by decide +kernel
theorem dX2_takes_67 : decode cX2_takes 67 = .ok (.iload_n 3, 1) := by decide +kernel
theorem dX2_takes_68 : decode cX2_takes 68 = .ok (.iaload, 1) := by decide +kernel
theorem dX2_takes_69 : decode cX2_takes 69 = .ok (.ishl, 1) := by decide +kernel
theorem dX2_takes_70 : decode cX2_takes 70 = .ok (.ior, 1) := by decide +kernel
theorem dX2_takes_71 : decode cX2_takes 71 = .ok (.istore 5, 2) := by decide +kernel
theorem dX2_takes_73 : decode cX2_takes 73 = .ok (.iload 5, 2) := by decide +kernel
theorem dX2_takes_75 : decode cX2_takes 75 = .ok (.invokestatic 88, 3) := by decide +kernel
theorem dX2_takes_78 : decode cX2_takes 78 = .ok (.aload_n 1, 1) := by decide +kernel
theorem dX2_takes_79 : decode cX2_takes 79 = .ok (.getfield 78, 3) := by decide +kernel
theorem dX2_takes_82 : decode cX2_takes 82 = .ok (.iconst 2, 1) := by decide +kernel
theorem dX2_takes_83 : decode cX2_takes 83 = .ok (.iaload, 1) := by decide +kernel
theorem dX2_takes_84 : decode cX2_takes 84 = .ok (.if_icmp .gt 7, 3) := by decide +kernel
theorem dX2_takes_87 : decode cX2_takes 87 = .ok (.iconst 1, 1) := by decide +kernel
theorem dX2_takes_88 : decode cX2_takes 88 = .ok (.goto 4, 3) := by decide +kernel
theorem dX2_takes_91 : decode cX2_takes 91 = .ok (.iconst 0, 1) := by decide +kernel
theorem dX2_takes_92 : decode cX2_takes 92 = .ok (.ireturn, 1) := by decide +kernel
theorem dX2_waitOf_0 : decode cX2_waitOf 0 = .ok (.aload_n 0, 1) := by decide +kernel
theorem dX2_waitOf_1 : decode cX2_waitOf 1 = .ok (.getfield 18, 3) := by decide +kernel
theorem dX2_waitOf_4 : decode cX2_waitOf 4 = .ok (.iload_n 2, 1) := by decide +kernel
theorem dX2_waitOf_5 : decode cX2_waitOf 5 = .ok (.iaload, 1) := by decide +kernel
theorem dX2_waitOf_6 : decode cX2_waitOf 6 = .ok (.istore_n 3, 1) := by decide +kernel
theorem dX2_waitOf_7 : decode cX2_waitOf 7 = .ok (.iload_n 3, 1) := by decide +kernel
theorem dX2_waitOf_8 : decode cX2_waitOf 8 = .ok (.invokestatic 64, 3) := by decide +kernel
theorem dX2_waitOf_11 : decode cX2_waitOf 11 = .ok (.ifCond .eq 19, 3) := by decide +kernel
theorem dX2_waitOf_14 : decode cX2_waitOf 14 = .ok (.aload_n 1, 1) := by decide +kernel
theorem dX2_waitOf_15 : decode cX2_waitOf 15 = .ok (.getfield 71, 3) := by decide +kernel
theorem dX2_waitOf_18 : decode cX2_waitOf 18 = .ok (.iload_n 3, 1) := by decide +kernel
theorem dX2_waitOf_19 : decode cX2_waitOf 19 = .ok (.iaload, 1) := by decide +kernel
theorem dX2_waitOf_20 : decode cX2_waitOf 20 = .ok (.aload_n 0, 1) := by decide +kernel
theorem dX2_waitOf_21 : decode cX2_waitOf 21 = .ok (.getfield 15, 3) := by decide +kernel
theorem dX2_waitOf_24 : decode cX2_waitOf 24 = .ok (.iload_n 2, 1) := by decide +kernel
theorem dX2_waitOf_25 : decode cX2_waitOf 25 = .ok (.iaload, 1) := by decide +kernel
theorem dX2_waitOf_26 : decode cX2_waitOf 26 = .ok (.isub, 1) := by decide +kernel
theorem dX2_waitOf_27 : decode cX2_waitOf 27 = .ok (.goto 5, 3) := by decide +kernel
theorem dX2_waitOf_30 : decode cX2_waitOf 30 = .ok (.bipush (-106), 2) := by decide +kernel
theorem dX2_waitOf_32 : decode cX2_waitOf 32 = .ok (.ireturn, 1) := by decide +kernel
theorem dX2_isAtKerb_0 : decode cX2_isAtKerb 0 = .ok (.aload_n 0, 1) := by decide +kernel
theorem dX2_isAtKerb_1 : decode cX2_isAtKerb 1 = .ok (.getfield 15, 3) := by decide +kernel
theorem dX2_isAtKerb_4 : decode cX2_isAtKerb 4 = .ok (.iload_n 2, 1) := by decide +kernel
theorem dX2_isAtKerb_5 : decode cX2_isAtKerb 5 = .ok (.iaload, 1) := by decide +kernel
theorem dX2_isAtKerb_6 : decode cX2_isAtKerb 6 = .ok (.iload_n 3, 1) := by decide +kernel
theorem dX2_isAtKerb_7 : decode cX2_isAtKerb 7 = .ok (.if_icmp .le 5, 3) := by decide +kernel
theorem dX2_isAtKerb_10 : decode cX2_isAtKerb 10 = .ok (.iconst 0, 1) := by decide +kernel
theorem dX2_isAtKerb_11 : decode cX2_isAtKerb 11 = .ok (.ireturn, 1) := by decide +kernel
theorem dX2_isAtKerb_12 : decode cX2_isAtKerb 12 = .ok (.aload_n 0, 1) := by decide +kernel
theorem dX2_isAtKerb_13 : decode cX2_isAtKerb 13 = .ok (.getfield 18, 3) := by decide +kernel
theorem dX2_isAtKerb_16 : decode cX2_isAtKerb 16 = .ok (.iload_n 2, 1) := by decide +kernel
theorem dX2_isAtKerb_17 : decode cX2_isAtKerb 17 = .ok (.iaload, 1) := by decide +kernel
theorem dX2_isAtKerb_18 : decode cX2_isAtKerb 18 = .ok (.istore 4, 2) := by decide +kernel
theorem dX2_isAtKerb_20 : decode cX2_isAtKerb 20 = .ok (.iload 4, 2) := by decide +kernel
theorem dX2_isAtKerb_22 : decode cX2_isAtKerb 22 = .ok (.invokestatic 64, 3) := by decide +kernel
end
section
theorem dX2_isAtKerb_25 : decode cX2_isAtKerb 25 = .ok (.ifCond .eq 20, 3) := by decide +kernel
theorem dX2_isAtKerb_28 : decode cX2_isAtKerb 28 = .ok (.aload_n 1, 1) := by decide +kernel
theorem dX2_isAtKerb_29 : decode cX2_isAtKerb 29 = .ok (.getfield 71, 3) := by decide +kernel
theorem dX2_isAtKerb_32 : decode cX2_isAtKerb 32 = .ok (.iload 4, 2) := by decide +kernel
theorem dX2_isAtKerb_34 : decode cX2_isAtKerb 34 = .ok (.iaload, 1) := by decide +kernel
theorem dX2_isAtKerb_35 : decode cX2_isAtKerb 35 = .ok (.iload_n 3, 1) := by decide +kernel
theorem dX2_isAtKerb_36 : decode cX2_isAtKerb 36 = .ok (.if_icmp .le 7, 3) := by decide +kernel
theorem dX2_isAtKerb_39 : decode cX2_isAtKerb 39 = .ok (.iconst 1, 1) := by decide +kernel
theorem dX2_isAtKerb_40 : decode cX2_isAtKerb 40 = .ok (.goto 4, 3) := by decide +kernel
theorem dX2_isAtKerb_43 : decode cX2_isAtKerb 43 = .ok (.iconst 0, 1) := by decide +kernel
theorem dX2_isAtKerb_44 : decode cX2_isAtKerb 44 = .ok (.ireturn, 1) := by decide +kernel
theorem dX2_isAtKerb_45 : decode cX2_isAtKerb 45 = .ok (.iload_n 3, 1) := by decide +kernel
theorem dX2_isAtKerb_46 : decode cX2_isAtKerb 46 = .ok (.aload_n 0, 1) := by decide +kernel
theorem dX2_isAtKerb_47 : decode cX2_isAtKerb 47 = .ok (.getfield 15, 3) := by decide +kernel
theorem dX2_isAtKerb_50 : decode cX2_isAtKerb 50 = .ok (.iload_n 2, 1) := by decide +kernel
theorem dX2_isAtKerb_51 : decode cX2_isAtKerb 51 = .ok (.iaload, 1) := by decide +kernel
theorem dX2_isAtKerb_52 : decode cX2_isAtKerb 52 = .ok (.isub, 1) := by decide +kernel
theorem dX2_isAtKerb_53 : decode cX2_isAtKerb 53 = .ok (.aload_n 1, 1) := by decide +kernel
theorem dX2_isAtKerb_54 : decode cX2_isAtKerb 54 = .ok (.getfield 78, 3) := by decide +kernel
theorem dX2_isAtKerb_57 : decode cX2_isAtKerb 57 = .ok (.iconst 1, 1) := by decide +kernel
theorem dX2_isAtKerb_58 : decode cX2_isAtKerb 58 = .ok (.iaload, 1) := by decide +kernel
theorem dX2_isAtKerb_59 : decode cX2_isAtKerb 59 = .ok (.if_icmp .gt 7, 3) := by decide +kernel
theorem dX2_isAtKerb_62 : decode cX2_isAtKerb 62 = .ok (.iconst 1, 1) := by decide +kernel
theorem dX2_isAtKerb_63 : decode cX2_isAtKerb 63 = .ok (.goto 4, 3) := by decide +kernel
theorem dX2_isAtKerb_66 : decode cX2_isAtKerb 66 = .ok (.iconst 0, 1) := by decide +kernel
theorem dX2_isAtKerb_67 : decode cX2_isAtKerb 67 = .ok (.ireturn, 1) := by decide +kernel
theorem dX2_ridersIn_0 : decode cX2_ridersIn 0 = .ok (.iconst 0, 1) := by decide +kernel
theorem dX2_ridersIn_1 : decode cX2_ridersIn 1 = .ok (.istore_n 3, 1) := by decide +kernel
theorem dX2_ridersIn_2 : decode cX2_ridersIn 2 = .ok (.iconst 0, 1) := by decide +kernel
theorem dX2_ridersIn_3 : decode cX2_ridersIn 3 = .ok (.istore 4, 2) := by decide +kernel
theorem dX2_ridersIn_5 : decode cX2_ridersIn 5 = .ok (.iload 4, 2) := by decide +kernel
theorem dX2_ridersIn_7 : decode cX2_ridersIn 7 = .ok (.aload_n 1, 1) := by decide +kernel
theorem dX2_ridersIn_8 : decode cX2_ridersIn 8 = .ok (.getfield 34, 3) := by decide +kernel
theorem dX2_ridersIn_11 : decode cX2_ridersIn 11 = .ok (.if_icmp .ge 27, 3) := by decide +kernel
theorem dX2_ridersIn_14 : decode cX2_ridersIn 14 = .ok (.aload_n 0, 1) := by decide +kernel
theorem dX2_ridersIn_15 : decode cX2_ridersIn 15 = .ok (.getfield 18, 3) := by decide +kernel
theorem dX2_ridersIn_18 : decode cX2_ridersIn 18 = .ok (.iload 4, 2) := by decide +kernel
theorem dX2_ridersIn_20 : decode cX2_ridersIn 20 = .ok (.iaload, 1) := by decide +kernel
theorem dX2_ridersIn_21 : decode cX2_ridersIn 21 = .ok (.iload_n 2, 1) := by decide +kernel
theorem dX2_ridersIn_22 : decode cX2_ridersIn 22 = .ok (.if_icmp .ne 10, 3) := by decide +kernel
theorem dX2_ridersIn_25 : decode cX2_ridersIn 25 = .ok (.iload_n 3, 1) := by decide +kernel
theorem dX2_ridersIn_26 : decode cX2_ridersIn 26 = .ok (.iconst 1, 1) := by decide +kernel
theorem dX2_ridersIn_27 : decode cX2_ridersIn 27 = .ok (.iload 4, 2) := by decide +kernel
theorem dX2_ridersIn_29 : decode cX2_ridersIn 29 = .ok (.ishl, 1) := by decide +kernel
theorem dX2_ridersIn_30 : decode cX2_ridersIn 30 = .ok (.ior, 1) := by decide +kernel
theorem dX2_ridersIn_31 : decode cX2_ridersIn 31 = .ok (.istore_n 3, 1) := by decide +kernel
theorem dX2_ridersIn_32 : decode cX2_ridersIn 32 = .ok (.iinc 4 1, 3) := by decide +kernel
theorem dX2_ridersIn_35 : decode cX2_ridersIn 35 = .ok (.goto (-30), 3) := by decide +kernel
theorem dX2_ridersIn_38 : decode cX2_ridersIn 38 = .ok (.iload_n 3, 1) := by decide +kernel
theorem dX2_ridersIn_39 : decode cX2_ridersIn 39 = .ok (.ireturn, 1) := by decide +kernel
theorem dX2_vansWithRiders_0 : decode cX2_vansWithRiders 0 = .ok (.iconst 0, 1) := by decide +kernel
theorem dX2_vansWithRiders_1 : decode cX2_vansWithRiders 1 = .ok (.istore_n 1, 1) := by decide +kernel
theorem dX2_vansWithRiders_2 : decode cX2_vansWithRiders 2 = .ok (.iconst 0, 1) := by decide +kernel
theorem dX2_vansWithRiders_3 : decode cX2_vansWithRiders 3 = .ok (.istore_n 2, 1) := by decide +kernel
theorem dX2_vansWithRiders_4 : decode cX2_vansWithRiders 4 = .ok (.iload_n 2, 1) := by decide +kernel
theorem dX2_vansWithRiders_5 : decode cX2_vansWithRiders 5 = .ok (.bipush 8, 2) := by decide +kernel
theorem dX2_vansWithRiders_7 : decode cX2_vansWithRiders 7 = .ok (.if_icmp .ge 21, 3) := by decide +kernel
theorem dX2_vansWithRiders_10 : decode cX2_vansWithRiders 10 = .ok (.aload_n 0, 1) := by decide +kernel
theorem dX2_vansWithRiders_11 : decode cX2_vansWithRiders 11 = .ok (.getfield 21, 3) := by decide +kernel
theorem dX2_vansWithRiders_14 : decode cX2_vansWithRiders 14 = .ok (.iload_n 2, 1) := by decide +kernel
theorem dX2_vansWithRiders_15 : decode cX2_vansWithRiders 15 = .ok (.iaload, 1) := by decide +kernel
theorem dX2_vansWithRiders_16 : decode cX2_vansWithRiders 16 = .ok (.ifCond .le 6, 3) := by decide +kernel
theorem dX2_vansWithRiders_19 : decode cX2_vansWithRiders 19 = .ok (.iinc 1 1, 3) := by decide +kernel
theorem dX2_vansWithRiders_22 : decode cX2_vansWithRiders 22 = .ok (.iinc 2 1, 3) := by decide +kernel
theorem dX2_vansWithRiders_25 : decode cX2_vansWithRiders 25 = .ok (.goto (-21), 3) := by decide +kernel
theorem dX2_vansWithRiders_28 : decode cX2_vansWithRiders 28 = .ok (.iload_n 1, 1) := by decide +kernel
theorem dX2_vansWithRiders_29 : decode cX2_vansWithRiders 29 = .ok (.ireturn, 1) := by decide +kernel
theorem dX2_peopleOfFlight_0 : decode cX2_peopleOfFlight 0 = .ok (.iconst 0, 1) := by decide +kernel
theorem dX2_peopleOfFlight_1 : decode cX2_peopleOfFlight 1 = .ok (.istore 4, 2) := by decide +kernel
theorem dX2_peopleOfFlight_3 : decode cX2_peopleOfFlight 3 = .ok (.iconst 0, 1) := by decide +kernel
theorem dX2_peopleOfFlight_4 : decode cX2_peopleOfFlight 4 = .ok (.istore 5, 2) := by decide +kernel
theorem dX2_peopleOfFlight_6 : decode cX2_peopleOfFlight 6 = .ok (.iload 5, 2) := by decide +kernel
theorem dX2_peopleOfFlight_8 : decode cX2_peopleOfFlight 8 = .ok (.aload_n 1, 1) := by decide +kernel
theorem dX2_peopleOfFlight_9 : decode cX2_peopleOfFlight 9 = .ok (.getfield 34, 3) := by decide +kernel
theorem dX2_peopleOfFlight_12 : decode cX2_peopleOfFlight 12 = .ok (.if_icmp .ge 60, 3) := by decide +kernel
theorem dX2_peopleOfFlight_15 : decode cX2_peopleOfFlight 15 = .ok (.iload_n 3, 1) := by decide +kernel
theorem dX2_peopleOfFlight_16 : decode cX2_peopleOfFlight 16 = .ok (.ifCond .eq 15, 3) := by decide +kernel
theorem dX2_peopleOfFlight_19 : decode cX2_peopleOfFlight 19 = .ok (.aload_n 0, 1) := by decide +kernel
theorem dX2_peopleOfFlight_20 : decode cX2_peopleOfFlight 20 = .ok (.getfield 18, 3) := by decide +kernel
theorem dX2_peopleOfFlight_23 : decode cX2_peopleOfFlight 23 = .ok (.iload 5, 2) := by decide +kernel
theorem dX2_peopleOfFlight_25 : decode cX2_peopleOfFlight 25 = .ok (.iaload, 1) := by decide +kernel
theorem dX2_peopleOfFlight_26 : decode cX2_peopleOfFlight 26 = .ok (.bipush (-106), 2) := by decide +kernel
theorem dX2_peopleOfFlight_28 : decode cX2_peopleOfFlight 28 = .ok (.if_icmp .ne 7, 3) := by decide +kernel
theorem dX2_peopleOfFlight_31 : decode cX2_peopleOfFlight 31 = .ok (.iconst 1, 1) := by decide +kernel
theorem dX2_peopleOfFlight_32 : decode cX2_peopleOfFlight 32 = .ok (.goto 4, 3) := by decide +kernel
theorem dX2_peopleOfFlight_35 : decode cX2_peopleOfFlight 35 = .ok (.iconst 0, 1) := by decide +kernel
theorem dX2_peopleOfFlight_36 : decode cX2_peopleOfFlight 36 = .ok (.istore 6, 2) := by decide +kernel
theorem dX2_peopleOfFlight_38 : decode cX2_peopleOfFlight 38 = .ok (.iload 6, 2) := by decide +kernel
theorem dX2_peopleOfFlight_40 : decode cX2_peopleOfFlight 40 = .ok (.ifCond .eq 26, 3) := by decide +kernel
theorem dX2_peopleOfFlight_43 : decode cX2_peopleOfFlight 43 = .ok (.aload_n 1, 1) := by decide +kernel
theorem dX2_peopleOfFlight_44 : decode cX2_peopleOfFlight 44 = .ok (.getfield 93, 3) := by decide +kernel
theorem dX2_peopleOfFlight_47 : decode cX2_peopleOfFlight 47 = .ok (.iload 5, 2) := by decide +kernel
theorem dX2_peopleOfFlight_49 : decode cX2_peopleOfFlight 49 = .ok (.iaload, 1) := by decide +kernel
theorem dX2_peopleOfFlight_50 : decode cX2_peopleOfFlight 50 = .ok (.iload_n 2, 1) := by decide +kernel
theorem dX2_peopleOfFlight_51 : decode cX2_peopleOfFlight 51 = .ok (.if_icmp .ne 15, 3) := by decide +kernel
theorem dX2_peopleOfFlight_54 : decode cX2_peopleOfFlight 54 = .ok (.iload 4, 2) := by decide +kernel
theorem dX2_peopleOfFlight_56 : decode cX2_peopleOfFlight 56 = .ok (.aload_n 1, 1) := by decide +kernel
theorem dX2_peopleOfFlight_57 : decode cX2_peopleOfFlight 57 = .ok (.getfield 57, 3) := by decide +kernel
theorem dX2_peopleOfFlight_60 : decode cX2_peopleOfFlight 60 = .ok (.iload 5, 2) := by decide +kernel
theorem dX2_peopleOfFlight_62 : decode cX2_peopleOfFlight 62 = .ok (.iaload, 1) := by decide +kernel
theorem dX2_peopleOfFlight_63 : decode cX2_peopleOfFlight 63 = .ok (.iadd, 1) := by decide +kernel
theorem dX2_peopleOfFlight_64 : decode cX2_peopleOfFlight 64 = .ok (.istore 4, 2) := by decide +kernel
theorem dX2_peopleOfFlight_66 : decode cX2_peopleOfFlight 66 = .ok (.iinc 5 1, 3) := by decide +kernel
theorem dX2_peopleOfFlight_69 : decode cX2_peopleOfFlight 69 = .ok (.goto (-63), 3) := by decide +kernel
theorem dX2_peopleOfFlight_72 : decode cX2_peopleOfFlight 72 = .ok (.iload 4, 2) := by decide +kernel
theorem dX2_peopleOfFlight_74 : decode cX2_peopleOfFlight 74 = .ok (.ireturn, 1) := by decide +kernel
theorem dX2_othersAtStop_0 : decode cX2_othersAtStop 0 = .ok (.aload_n 0, 1) := by decide +kernel
theorem dX2_othersAtStop_1 : decode cX2_othersAtStop 1 = .ok (.getfield 18, 3) := by decide +kernel
theorem dX2_othersAtStop_4 : decode cX2_othersAtStop 4 = .ok (.iload_n 2, 1) := by decide +kernel
theorem dX2_othersAtStop_5 : decode cX2_othersAtStop 5 = .ok (.iaload, 1) := by decide +kernel
theorem dX2_othersAtStop_6 : decode cX2_othersAtStop 6 = .ok (.bipush (-106), 2) := by decide +kernel
theorem dX2_othersAtStop_8 : decode cX2_othersAtStop 8 = .ok (.if_icmp .ne 5, 3) := by decide +kernel
theorem dX2_othersAtStop_11 : decode cX2_othersAtStop 11 = .ok (.iconst 0, 1) := by decide +kernel
theorem dX2_othersAtStop_12 : decode cX2_othersAtStop 12 = .ok (.ireturn, 1) := by decide +kernel
theorem dX2_othersAtStop_13 : decode cX2_othersAtStop 13 = .ok (.iconst 0, 1) := by decide +kernel
theorem dX2_othersAtStop_14 : decode cX2_othersAtStop 14 = .ok (.istore_n 3, 1) := by decide +kernel
theorem dX2_othersAtStop_15 : decode cX2_othersAtStop 15 = .ok (.iconst 0, 1) := by decide +kernel
theorem dX2_othersAtStop_16 : decode cX2_othersAtStop 16 = .ok (.istore 4, 2) := by decide +kernel
theorem dX2_othersAtStop_18 : decode cX2_othersAtStop 18 = .ok (.iload 4, 2) := by decide +kernel
theorem dX2_othersAtStop_20 : decode cX2_othersAtStop 20 = .ok (.aload_n 1, 1) := by decide +kernel
theorem dX2_othersAtStop_21 : decode cX2_othersAtStop 21 = .ok (.getfield 34, 3) := by decide +kernel
theorem dX2_othersAtStop_24 : decode cX2_othersAtStop 24 = .ok (.if_icmp .ge 30, 3) := by decide +kernel
theorem dX2_othersAtStop_27 : decode cX2_othersAtStop 27 = .ok (.iload 4, 2) := by decide +kernel
theorem dX2_othersAtStop_29 : decode cX2_othersAtStop 29 = .ok (.iload_n 2, 1) := by decide +kernel
theorem dX2_othersAtStop_30 : decode cX2_othersAtStop 30 = .ok (.if_icmp .eq 18, 3) := by decide +kernel
theorem dX2_othersAtStop_33 : decode cX2_othersAtStop 33 = .ok (.aload_n 0, 1) := by decide +kernel
theorem dX2_othersAtStop_34 : decode cX2_othersAtStop 34 = .ok (.aload_n 1, 1) := by decide +kernel
theorem dX2_othersAtStop_35 : decode cX2_othersAtStop 35 = .ok (.iload_n 2, 1) := by decide +kernel
theorem dX2_othersAtStop_36 : decode cX2_othersAtStop 36 = .ok (.iload 4, 2) := by decide +kernel
theorem dX2_othersAtStop_38 : decode cX2_othersAtStop 38 = .ok (.iconst 1, 1) := by decide +kernel
theorem dX2_othersAtStop_39 : decode cX2_othersAtStop 39 = .ok (.invokevirtual 96, 3) := by decide +kernel
theorem dX2_othersAtStop_42 : decode cX2_othersAtStop 42 = .ok (.ifCond .eq 6, 3) := by decide +kernel
theorem dX2_othersAtStop_45 : decode cX2_othersAtStop 45 = .ok (.iinc 3 1, 3) := by decide +kernel
theorem dX2_othersAtStop_48 : decode cX2_othersAtStop 48 = .ok (.iinc 4 1, 3) := by decide +kernel
theorem dX2_othersAtStop_51 : decode cX2_othersAtStop 51 = .ok (.goto (-33), 3) := by decide +kernel
theorem dX2_othersAtStop_54 : decode cX2_othersAtStop 54 = .ok (.iload_n 3, 1) := by decide +kernel
theorem dX2_othersAtStop_55 : decode cX2_othersAtStop 55 = .ok (.ireturn, 1) := by decide +kernel
theorem dX2_faresOf_0 : decode cX2_faresOf 0 = .ok (.iconst 0, 1) := by decide +kernel
theorem dX2_faresOf_1 : decode cX2_faresOf 1 = .ok (.istore_n 3, 1) := by decide +kernel
theorem dX2_faresOf_2 : decode cX2_faresOf 2 = .ok (.iconst 0, 1) := by decide +kernel
theorem dX2_faresOf_3 : decode cX2_faresOf 3 = .ok (.istore 4, 2) := by decide +kernel
theorem dX2_faresOf_5 : decode cX2_faresOf 5 = .ok (.iload 4, 2) := by decide +kernel
theorem dX2_faresOf_7 : decode cX2_faresOf 7 = .ok (.aload_n 1, 1) := by decide +kernel
theorem dX2_faresOf_8 : decode cX2_faresOf 8 = .ok (.getfield 34, 3) := by decide +kernel
theorem dX2_faresOf_11 : decode cX2_faresOf 11 = .ok (.if_icmp .ge 30, 3) := by decide +kernel
theorem dX2_faresOf_14 : decode cX2_faresOf 14 = .ok (.aload_n 0, 1) := by decide +kernel
theorem dX2_faresOf_15 : decode cX2_faresOf 15 = .ok (.getfield 18, 3) := by decide +kernel
theorem dX2_faresOf_18 : decode cX2_faresOf 18 = .ok (.iload 4, 2) := by decide +kernel
theorem dX2_faresOf_20 : decode cX2_faresOf 20 = .ok (.iaload, 1) := by decide +kernel
theorem dX2_faresOf_21 : decode cX2_faresOf 21 = .ok (.iload_n 2, 1) := by decide +kernel
theorem dX2_faresOf_22 : decode cX2_faresOf 22 = .ok (.if_icmp .ne 13, 3) := by decide +kernel
theorem dX2_faresOf_25 : decode cX2_faresOf 25 = .ok (.iload_n 3, 1) := by decide +kernel
theorem dX2_faresOf_26 : decode cX2_faresOf 26 = .ok (.aload_n 0, 1) := by decide +kernel
theorem dX2_faresOf_27 : decode cX2_faresOf 27 = .ok (.aload_n 1, 1) := by decide +kernel
theorem dX2_faresOf_28 : decode cX2_faresOf 28 = .ok (.iload 4, 2) := by decide +kernel
theorem dX2_faresOf_30 : decode cX2_faresOf 30 = .ok (.invokevirtual 100, 3) := by decide +kernel
theorem dX2_faresOf_33 : decode cX2_faresOf 33 = .ok (.iadd, 1) := by decide +kernel
theorem dX2_faresOf_34 : decode cX2_faresOf 34 = .ok (.istore_n 3, 1) := by decide +kernel
theorem dX2_faresOf_35 : decode cX2_faresOf 35 = .ok (.iinc 4 1, 3) := by decide +kernel
theorem dX2_faresOf_38 : decode cX2_faresOf 38 = .ok (.goto (-33), 3) := by decide +kernel
theorem dX2_faresOf_41 : decode cX2_faresOf 41 = .ok (.iload_n 3, 1) := by decide +kernel
theorem dX2_faresOf_42 : decode cX2_faresOf 42 = .ok (.ireturn, 1) := by decide +kernel
theorem dX2_fare_0 : decode cX2_fare 0 = .ok (.aload_n 0, 1) := by decide +kernel
theorem dX2_fare_1 : decode cX2_fare 1 = .ok (.getfield 18, 3) := by decide +kernel
theorem dX2_fare_4 : decode cX2_fare 4 = .ok (.iload_n 2, 1) := by decide +kernel
theorem dX2_fare_5 : decode cX2_fare 5 = .ok (.iaload, 1) := by decide +kernel
theorem dX2_fare_6 : decode cX2_fare 6 = .ok (.bipush (-106), 2) := by decide +kernel
theorem dX2_fare_8 : decode cX2_fare 8 = .ok (.if_icmp .ne 5, 3) := by decide +kernel
theorem dX2_fare_11 : decode cX2_fare 11 = .ok (.iconst 0, 1) := by decide +kernel
theorem dX2_fare_12 : decode cX2_fare 12 = .ok (.ireturn, 1) := by decide +kernel
theorem dX2_fare_13 : decode cX2_fare 13 = .ok (.aload_n 0, 1) := by decide +kernel
theorem dX2_fare_14 : decode cX2_fare 14 = .ok (.aload_n 1, 1) := by decide +kernel
theorem dX2_fare_15 : decode cX2_fare 15 = .ok (.iload_n 2, 1) := by decide +kernel
theorem dX2_fare_16 : decode cX2_fare 16 = .ok (.iconst 3, 1) := by decide +kernel
theorem dX2_fare_17 : decode cX2_fare 17 = .ok (.iconst 0, 1) := by decide +kernel
theorem dX2_fare_18 : decode cX2_fare 18 = .ok (.invokevirtual 103, 3) := by decide +kernel
theorem dX2_fare_21 : decode cX2_fare 21 = .ok (.aload_n 0, 1) := by decide +kernel
theorem dX2_fare_22 : decode cX2_fare 22 = .ok (.aload_n 1, 1) := by decide +kernel
theorem dX2_fare_23 : decode cX2_fare 23 = .ok (.iload_n 2, 1) := by decide +kernel
theorem dX2_fare_24 : decode cX2_fare 24 = .ok (.iconst 4, 1) := by decide +kernel
theorem dX2_fare_25 : decode cX2_fare 25 = .ok (.iconst 1, 1) := by decide +kernel
theorem dX2_fare_26 : decode cX2_fare 26 = .ok (.invokevirtual 103, 3) := by decide +kernel
theorem dX2_fare_29 : decode cX2_fare 29 = .ok (.iadd, 1) := by decide +kernel
theorem dX2_fare_30 : decode cX2_fare 30 = .ok (.ireturn, 1) := by decide +kernel
theorem dX2_share_0 : decode cX2_share 0 = .ok (.aload_n 1, 1) := by decide +kernel
theorem dX2_share_1 : decode cX2_share 1 = .ok (.getfield 78, 3) := by decide +kernel
theorem dX2_share_4 : decode cX2_share 4 = .ok (.iload_n 3, 1) := by decide +kernel
theorem dX2_share_5 : decode cX2_share 5 = .ok (.iaload, 1) := by decide +kernel
theorem dX2_share_6 : decode cX2_share 6 = .ok (.istore 5, 2) := by decide +kernel
theorem dX2_share_8 : decode cX2_share 8 = .ok (.iconst 0, 1) := by decide +kernel
theorem dX2_share_9 : decode cX2_share 9 = .ok (.istore 6, 2) := by decide +kernel
theorem dX2_share_11 : decode cX2_share 11 = .ok (.iconst 0, 1) := by decide +kernel
theorem dX2_share_12 : decode cX2_share 12 = .ok (.istore 7, 2) := by decide +kernel
theorem dX2_share_14 : decode cX2_share 14 = .ok (.iload 7, 2) := by decide +kernel
theorem dX2_share_16 : decode cX2_share 16 = .ok (.aload_n 1, 1) := by decide +kernel
theorem dX2_share_17 : decode cX2_share 17 = .ok (.getfield 34, 3) := by decide +kernel
theorem dX2_share_20 : decode cX2_share 20 = .ok (.if_icmp .ge 34, 3) := by decide +kernel
theorem dX2_share_23 : decode cX2_share 23 = .ok (.aload_n 0, 1) := by decide +kernel
theorem dX2_share_24 : decode cX2_share 24 = .ok (.aload_n 1, 1) := by decide +kernel
theorem dX2_share_25 : decode cX2_share 25 = .ok (.iload_n 2, 1) := by decide +kernel
theorem dX2_share_26 : decode cX2_share 26 = .ok (.iload 7, 2) := by decide +kernel
theorem dX2_share_28 : decode cX2_share 28 = .ok (.iload 4, 2) := by decide +kernel
theorem dX2_share_30 : decode cX2_share 30 = .ok (.invokevirtual 96, 3) := by decide +kernel
theorem dX2_share_33 : decode cX2_share 33 = .ok (.ifCond .eq 15, 3) := by decide +kernel
theorem dX2_share_36 : decode cX2_share 36 = .ok (.iload 6, 2) := by decide +kernel
theorem dX2_share_38 : decode cX2_share 38 = .ok (.aload_n 1, 1) := by decide +kernel
theorem dX2_share_39 : decode cX2_share 39 = .ok (.getfield 57, 3) := by decide +kernel
theorem dX2_share_42 : decode cX2_share 42 = .ok (.iload 7, 2) := by decide +kernel
theorem dX2_share_44 : decode cX2_share 44 = .ok (.iaload, 1) := by decide +kernel
theorem dX2_share_45 : decode cX2_share 45 = .ok (.iadd, 1) := by decide +kernel
theorem dX2_share_46 : decode cX2_share 46 = .ok (.istore 6, 2) := by decide +kernel
theorem dX2_share_48 : decode cX2_share 48 = .ok (.iinc 7 1, 3) := by decide +kernel
theorem dX2_share_51 : decode cX2_share 51 = .ok (.goto (-37), 3) := by decide +kernel
theorem dX2_share_54 : decode cX2_share 54 = .ok (.iload 6, 2) := by decide +kernel
theorem dX2_share_56 : decode cX2_share 56 = .ok (.ifCond .gt 5, 3) := by decide +kernel
theorem dX2_share_59 : decode cX2_share 59 = .ok (.iconst 0, 1) := by decide +kernel
theorem dX2_share_60 : decode cX2_share 60 = .ok (.ireturn, 1) := by decide +kernel
theorem dX2_share_61 : decode cX2_share 61 = .ok (.iload 5, 2) := by decide +kernel
theorem dX2_share_63 : decode cX2_share 63 = .ok (.istore 7, 2) := by decide +kernel
theorem dX2_share_65 : decode cX2_share 65 = .ok (.iconst 0, 1) := by decide +kernel
theorem dX2_share_66 : decode cX2_share 66 = .ok (.istore 8, 2) := by decide +kernel
theorem dX2_share_68 : decode cX2_share 68 = .ok (.iconst 0, 1) := by decide +kernel
theorem dX2_share_69 : decode cX2_share 69 = .ok (.istore 9, 2) := by decide +kernel
theorem dX2_share_71 : decode cX2_share 71 = .ok (.iload 9, 2) := by decide +kernel
theorem dX2_share_73 : decode cX2_share 73 = .ok (.aload_n 1, 1) := by decide +kernel
theorem dX2_share_74 : decode cX2_share 74 = .ok (.getfield 34, 3) := by decide +kernel
theorem dX2_share_77 : decode cX2_share 77 = .ok (.if_icmp .ge 56, 3) := by decide +kernel
theorem dX2_share_80 : decode cX2_share 80 = .ok (.aload_n 0, 1) := by decide +kernel
theorem dX2_share_81 : decode cX2_share 81 = .ok (.aload_n 1, 1) := by decide +kernel
theorem dX2_share_82 : decode cX2_share 82 = .ok (.iload_n 2, 1) := by decide +kernel
theorem dX2_share_83 : decode cX2_share 83 = .ok (.iload 9, 2) := by decide +kernel
theorem dX2_share_85 : decode cX2_share 85 = .ok (.iload 4, 2) := by decide +kernel
theorem dX2_share_87 : decode cX2_share 87 = .ok (.invokevirtual 96, 3) := by decide +kernel
theorem dX2_share_90 : decode cX2_share 90 = .ok (.ifCond .eq 37, 3) := by decide +kernel
theorem dX2_share_93 : decode cX2_share 93 = .ok (.iload 7, 2) := by decide +kernel
theorem dX2_share_95 : decode cX2_share 95 = .ok (.iload 5, 2) := by decide +kernel
theorem dX2_share_97 : decode cX2_share 97 = .ok (.aload_n 1, 1) := by decide +kernel
theorem dX2_share_98 : decode cX2_share 98 = .ok (.getfield 57, 3) := by decide +kernel
theorem dX2_share_101 : decode cX2_share 101 = .ok (.iload 9, 2) := by decide +kernel
theorem dX2_share_103 : decode cX2_share 103 = .ok (.iaload, 1) := by decide +kernel
theorem dX2_share_104 : decode cX2_share 104 = .ok (.imul, 1) := by decide +kernel
theorem dX2_share_105 : decode cX2_share 105 = .ok (.iload 6, 2) := by decide +kernel
theorem dX2_share_107 : decode cX2_share 107 = .ok (.idiv, 1) := by decide +kernel
theorem dX2_share_108 : decode cX2_share 108 = .ok (.isub, 1) := by decide +kernel
theorem dX2_share_109 : decode cX2_share 109 = .ok (.istore 7, 2) := by decide +kernel
theorem dX2_share_111 : decode cX2_share 111 = .ok (.iload 8, 2) := by decide +kernel
theorem dX2_share_113 : decode cX2_share 113 = .ok (.iload 9, 2) := by decide +kernel
theorem dX2_share_115 : decode cX2_share 115 = .ok (.iload_n 2, 1) := by decide +kernel
theorem dX2_share_116 : decode cX2_share 116 = .ok (.if_icmp .ge 7, 3) := by decide +kernel
theorem dX2_share_119 : decode cX2_share 119 = .ok (.iconst 1, 1) := by decide +kernel
theorem dX2_share_120 : decode cX2_share 120 = .ok (.goto 4, 3) := by decide +kernel
theorem dX2_share_123 : decode cX2_share 123 = .ok (.iconst 0, 1) := by decide +kernel
theorem dX2_share_124 : decode cX2_share 124 = .ok (.iadd, 1) := by decide +kernel
theorem dX2_share_125 : decode cX2_share 125 = .ok (.istore 8, 2) := by decide +kernel
theorem dX2_share_127 : decode cX2_share 127 = .ok (.iinc 9 1, 3) := by decide +kernel
theorem dX2_share_130 : decode cX2_share 130 = .ok (.goto (-59), 3) := by decide +kernel
theorem dX2_share_133 : decode cX2_share 133 = .ok (.iload 5, 2) := by decide +kernel
theorem dX2_share_135 : decode cX2_share 135 = .ok (.aload_n 1, 1) := by decide +kernel
theorem dX2_share_136 : decode cX2_share 136 = .ok (.getfield 57, 3) := by decide +kernel
theorem dX2_share_139 : decode cX2_share 139 = .ok (.iload_n 2, 1) := by decide +kernel
theorem dX2_share_140 : decode cX2_share 140 = .ok (.iaload, 1) := by decide +kernel
theorem dX2_share_141 : decode cX2_share 141 = .ok (.imul, 1) := by decide +kernel
theorem dX2_share_142 : decode cX2_share 142 = .ok (.iload 6, 2) := by decide +kernel
theorem dX2_share_144 : decode cX2_share 144 = .ok (.idiv, 1) := by decide +kernel
theorem dX2_share_145 : decode cX2_share 145 = .ok (.istore 9, 2) := by decide +kernel
theorem dX2_share_147 : decode cX2_share 147 = .ok (.iload 8, 2) := by decide +kernel
theorem dX2_share_149 : decode cX2_share 149 = .ok (.iload 7, 2) := by decide +kernel
theorem dX2_share_151 : decode cX2_share 151 = .ok (.if_icmp .ge 10, 3) := by decide +kernel
theorem dX2_share_154 : decode cX2_share 154 = .ok (.iload 9, 2) := by decide +kernel
theorem dX2_share_156 : decode cX2_share 156 = .ok (.iconst 1, 1) := by decide +kernel
theorem dX2_share_157 : decode cX2_share 157 = .ok (.iadd, 1) := by decide +kernel
theorem dX2_share_158 : decode cX2_share 158 = .ok (.goto 5, 3) := by decide +kernel
theorem dX2_share_161 : decode cX2_share 161 = .ok (.iload 9, 2) := by decide +kernel
theorem dX2_share_163 : decode cX2_share 163 = .ok (.ireturn, 1) := by decide +kernel
theorem dX2_shares_0 : decode cX2_shares 0 = .ok (.aload_n 0, 1) := by decide +kernel
theorem dX2_shares_1 : decode cX2_shares 1 = .ok (.getfield 18, 3) := by decide +kernel
theorem dX2_shares_4 : decode cX2_shares 4 = .ok (.iload_n 2, 1) := by decide +kernel
theorem dX2_shares_5 : decode cX2_shares 5 = .ok (.iaload, 1) := by decide +kernel
theorem dX2_shares_6 : decode cX2_shares 6 = .ok (.aload_n 0, 1) := by decide +kernel
theorem dX2_shares_7 : decode cX2_shares 7 = .ok (.getfield 18, 3) := by decide +kernel
theorem dX2_shares_10 : decode cX2_shares 10 = .ok (.iload_n 3, 1) := by decide +kernel
theorem dX2_shares_11 : decode cX2_shares 11 = .ok (.iaload, 1) := by decide +kernel
theorem dX2_shares_12 : decode cX2_shares 12 = .ok (.if_icmp .ne 25, 3) := by decide +kernel
theorem dX2_shares_15 : decode cX2_shares 15 = .ok (.iload 4, 2) := by decide +kernel
theorem dX2_shares_17 : decode cX2_shares 17 = .ok (.ifCond .eq 16, 3) := by decide +kernel
theorem dX2_shares_20 : decode cX2_shares 20 = .ok (.aload_n 1, 1) := by decide +kernel
theorem dX2_shares_21 : decode cX2_shares 21 = .ok (.iload_n 2, 1) := by decide +kernel
theorem dX2_shares_22 : decode cX2_shares 22 = .ok (.invokevirtual 107, 3) := by decide +kernel
theorem dX2_shares_25 : decode cX2_shares 25 = .ok (.aload_n 1, 1) := by decide +kernel
theorem dX2_shares_26 : decode cX2_shares 26 = .ok (.iload_n 3, 1) := by decide +kernel
theorem dX2_shares_27 : decode cX2_shares 27 = .ok (.invokevirtual 107, 3) := by decide +kernel
theorem dX2_shares_30 : decode cX2_shares 30 = .ok (.if_icmp .ne 7, 3) := by decide +kernel
theorem dX2_shares_33 : decode cX2_shares 33 = .ok (.iconst 1, 1) := by decide +kernel
theorem dX2_shares_34 : decode cX2_shares 34 = .ok (.goto 4, 3) := by decide +kernel
theorem dX2_shares_37 : decode cX2_shares 37 = .ok (.iconst 0, 1) := by decide +kernel
theorem dX2_shares_38 : decode cX2_shares 38 = .ok (.ireturn, 1) := by decide +kernel
theorem dX3_init_0 : decode cX3_init 0 = .ok (.aload_n 0, 1) := by decide +kernel
theorem dX3_init_1 : decode cX3_init 1 = .ok (.invokespecial 3, 3) := by decide +kernel
theorem dX3_init_4 : decode cX3_init 4 = .ok (.aload_n 0, 1) := by decide +kernel
theorem dX3_init_5 : decode cX3_init 5 = .ok (.iconst 5, 1) := by decide +kernel
theorem dX3_init_6 : decode cX3_init 6 = .ok (.newarray .int, 2) := by decide +kernel
theorem dX3_init_8 : decode cX3_init 8 = .ok (.putfield 9, 3) := by decide +kernel
theorem dX3_init_11 : decode cX3_init 11 = .ok (.aload_n 0, 1) := by decide +kernel
theorem dX3_init_12 : decode cX3_init 12 = .ok (.bipush 6, 2) := by decide +kernel
theorem dX3_init_14 : decode cX3_init 14 = .ok (.newarray .int, 2) := by decide +kernel
theorem dX3_init_16 : decode cX3_init 16 = .ok (.putfield 15, 3) := by decide +kernel
theorem dX3_init_19 : decode cX3_init 19 = .ok (.aload_n 0, 1) := by decide +kernel
theorem dX3_init_20 : decode cX3_init 20 = .ok (.bipush 6, 2) := by decide +kernel
theorem dX3_init_22 : decode cX3_init 22 = .ok (.newarray .int, 2) := by decide +kernel
theorem dX3_init_24 : decode cX3_init 24 = .ok (.putfield 18, 3) := by decide +kernel
theorem dX3_init_27 : decode cX3_init 27 = .ok (.aload_n 0, 1) := by decide +kernel
theorem dX3_init_28 : decode cX3_init 28 = .ok (.bipush 8, 2) := by decide +kernel
theorem dX3_init_30 : decode cX3_init 30 = .ok (.newarray .int, 2) := by decide +kernel
theorem dX3_init_32 : decode cX3_init 32 = .ok (.putfield 21, 3) := by decide +kernel
theorem dX3_init_35 : decode cX3_init 35 = .ok (.aload_n 0, 1) := by decide +kernel
theorem dX3_init_36 : decode cX3_init 36 = .ok (.bipush 8, 2) := by decide +kernel
theorem dX3_init_38 : decode cX3_init 38 = .ok (.newarray .int, 2) := by decide +kernel
theorem dX3_init_40 : decode cX3_init 40 = .ok (.putfield 24, 3) := by decide +kernel
theorem dX3_init_43 : decode cX3_init 43 = .ok (.aload_n 0, 1) := by decide +kernel
theorem dX3_init_44 : decode cX3_init 44 = .ok (.bipush 24, 2) := by decide +kernel
theorem dX3_init_46 : decode cX3_init 46 = .ok (.newarray .int, 2) := by decide +kernel
theorem dX3_init_48 : decode cX3_init 48 = .ok (.putfield 27, 3) := by decide +kernel
theorem dX3_init_51 : decode cX3_init 51 = .ok (.aload_n 0, 1) := by decide +kernel
theorem dX3_init_52 : decode cX3_init 52 = .ok (.bipush 24, 2) := by decide +kernel
theorem dX3_init_54 : decode cX3_init 54 = .ok (.newarray .int, 2) := by decide +kernel
theorem dX3_init_56 : decode cX3_init 56 = .ok (.putfield 30, 3) := by decide +kernel
theorem dX3_init_59 : decode cX3_init 59 = .ok (.aload_n 0, 1) := by decide +kernel
theorem dX3_init_60 : decode cX3_init 60 = .ok (.bipush 24, 2) := by decide +kernel
theorem dX3_init_62 : decode cX3_init 62 = .ok (.newarray .int, 2) := by decide +kernel
theorem dX3_init_64 : decode cX3_init 64 = .ok (.putfield 33, 3) := by decide +kernel
theorem dX3_init_67 : decode cX3_init 67 = .ok (.aload_n 0, 1) := by decide +kernel
theorem dX3_init_68 : decode cX3_init 68 = .ok (.bipush 24, 2) := by decide +kernel
theorem dX3_init_70 : decode cX3_init 70 = .ok (.newarray .int, 2) := by decide +kernel
theorem dX3_init_72 : decode cX3_init 72 = .ok (.putfield 36, 3) := by decide +kernel
theorem dX3_init_75 : decode cX3_init 75 = .ok (.iconst 0, 1) := by decide +kernel
theorem dX3_init_76 : decode cX3_init 76 = .ok (.istore_n 1, 1) := by decide +kernel
theorem dX3_init_77 : decode cX3_init 77 = .ok (.iload_n 1, 1) := by decide +kernel
theorem dX3_init_78 : decode cX3_init 78 = .ok (.iconst 5, 1) := by decide +kernel
theorem dX3_init_79 : decode cX3_init 79 = .ok (.if_icmp .ge 20, 3) := by decide +kernel
theorem dX3_init_82 : decode cX3_init 82 = .ok (.aload_n 0, 1) := by decide +kernel
theorem dX3_init_83 : decode cX3_init 83 = .ok (.getfield 9, 3) := by decide +kernel
theorem dX3_init_86 : decode cX3_init 86 = .ok (.iload_n 1, 1) := by decide +kernel
theorem dX3_init_87 : decode cX3_init 87 = .ok (.getstatic 39, 3) := by decide +kernel
theorem dX3_init_90 : decode cX3_init 90 = .ok (.iload_n 1, 1) := by decide +kernel
theorem dX3_init_91 : decode cX3_init 91 = .ok (.iaload, 1) := by decide +kernel
theorem dX3_init_92 : decode cX3_init 92 = .ok (.iastore, 1) := by decide +kernel
theorem dX3_init_93 : decode cX3_init 93 = .ok (.iinc 1 1, 3) := by decide +kernel
theorem dX3_init_96 : decode cX3_init 96 = .ok (.goto (-19), 3) := by decide +kernel
theorem dX3_init_99 : decode cX3_init 99 = .ok (.iconst 0, 1) := by decide +kernel
theorem dX3_init_100 : decode cX3_init 100 = .ok (.istore_n 1, 1) := by decide +kernel
theorem dX3_init_101 : decode cX3_init 101 = .ok (.iload_n 1, 1) := by decide +kernel
theorem dX3_init_102 : decode cX3_init 102 = .ok (.bipush 6, 2) := by decide +kernel
theorem dX3_init_104 : decode cX3_init 104 = .ok (.if_icmp .ge 19, 3) := by decide +kernel
theorem dX3_init_107 : decode cX3_init 107 = .ok (.aload_n 0, 1) := by decide +kernel
theorem dX3_init_108 : decode cX3_init 108 = .ok (.getfield 15, 3) := by decide +kernel
theorem dX3_init_111 : decode cX3_init 111 = .ok (.iload_n 1, 1) := by decide +kernel
theorem dX3_init_112 : decode cX3_init 112 = .ok (.bipush 60, 2) := by decide +kernel
theorem dX3_init_114 : decode cX3_init 114 = .ok (.iload_n 1, 1) := by decide +kernel
theorem dX3_init_115 : decode cX3_init 115 = .ok (.imul, 1) := by decide +kernel
theorem dX3_init_116 : decode cX3_init 116 = .ok (.iastore, 1) := by decide +kernel
theorem dX3_init_117 : decode cX3_init 117 = .ok (.iinc 1 1, 3) := by decide +kernel
theorem dX3_init_120 : decode cX3_init 120 = .ok (.goto (-19), 3) := by decide +kernel
theorem dX3_init_123 : decode cX3_init 123 = .ok (.iconst 0, 1) := by decide +kernel
theorem dX3_init_124 : decode cX3_init 124 = .ok (.istore_n 1, 1) := by decide +kernel
theorem dX3_init_125 : decode cX3_init 125 = .ok (.iload_n 1, 1) := by decide +kernel
theorem dX3_init_126 : decode cX3_init 126 = .ok (.bipush 8, 2) := by decide +kernel
theorem dX3_init_128 : decode cX3_init 128 = .ok (.if_icmp .ge 30, 3) := by decide +kernel
theorem dX3_init_131 : decode cX3_init 131 = .ok (.aload_n 0, 1) := by decide +kernel
theorem dX3_init_132 : decode cX3_init 132 = .ok (.getfield 21, 3) := by decide +kernel
theorem dX3_init_135 : decode cX3_init 135 = .ok (.iload_n 1, 1) := by decide +kernel
theorem dX3_init_136 : decode cX3_init 136 = .ok (.bipush 60, 2) := by decide +kernel
theorem dX3_init_138 : decode cX3_init 138 = .ok (.iload_n 1, 1) := by decide +kernel
theorem dX3_init_139 : decode cX3_init 139 = .ok (.imul, 1) := by decide +kernel
theorem dX3_init_140 : decode cX3_init 140 = .ok (.bipush 60, 2) := by decide +kernel
theorem dX3_init_142 : decode cX3_init 142 = .ok (.iadd, 1) := by decide +kernel
theorem dX3_init_143 : decode cX3_init 143 = .ok (.iastore, 1) := by decide +kernel
theorem dX3_init_144 : decode cX3_init 144 = .ok (.aload_n 0, 1) := by decide +kernel
theorem dX3_init_145 : decode cX3_init 145 = .ok (.getfield 24, 3) := by decide +kernel
theorem dX3_init_148 : decode cX3_init 148 = .ok (.iload_n 1, 1) := by decide +kernel
theorem dX3_init_149 : decode cX3_init 149 = .ok (.bipush 6, 2) := by decide +kernel
theorem dX3_init_151 : decode cX3_init 151 = .ok (.iastore, 1) := by decide +kernel
theorem dX3_init_152 : decode cX3_init 152 = .ok (.iinc 1 1, 3) := by decide +kernel
theorem dX3_init_155 : decode cX3_init 155 = .ok (.goto (-30), 3) := by decide +kernel
theorem dX3_init_158 : decode cX3_init 158 = .ok (.return_, 1) := by decide +kernel
theorem dX3_copyFrom_0 : decode cX3_copyFrom 0 = .ok (.aload_n 1, 1) := by decide +kernel
theorem dX3_copyFrom_1 : decode cX3_copyFrom 1 = .ok (.getfield 9, 3) := by decide +kernel
theorem dX3_copyFrom_4 : decode cX3_copyFrom 4 = .ok (.iconst 0, 1) := by decide +kernel
theorem dX3_copyFrom_5 : decode cX3_copyFrom 5 = .ok (.aload_n 0, 1) := by decide +kernel
theorem dX3_copyFrom_6 : decode cX3_copyFrom 6 = .ok (.getfield 9, 3) := by decide +kernel
theorem dX3_copyFrom_9 : decode cX3_copyFrom 9 = .ok (.iconst 0, 1) := by decide +kernel
theorem dX3_copyFrom_10 : decode cX3_copyFrom 10 = .ok (.iconst 5, 1) := by decide +kernel
theorem dX3_copyFrom_11 : decode cX3_copyFrom 11 = .ok (.invokestatic 42, 3) := by decide +kernel
theorem dX3_copyFrom_14 : decode cX3_copyFrom 14 = .ok (.aload_n 1, 1) := by decide +kernel
theorem dX3_copyFrom_15 : decode cX3_copyFrom 15 = .ok (.getfield 15, 3) := by decide +kernel
theorem dX3_copyFrom_18 : decode cX3_copyFrom 18 = .ok (.iconst 0, 1) := by decide +kernel
theorem dX3_copyFrom_19 : decode cX3_copyFrom 19 = .ok (.aload_n 0, 1) := by decide +kernel
theorem dX3_copyFrom_20 : decode cX3_copyFrom 20 = .ok (.getfield 15, 3) := by decide +kernel
theorem dX3_copyFrom_23 : decode cX3_copyFrom 23 = .ok (.iconst 0, 1) := by decide +kernel
theorem dX3_copyFrom_24 : decode cX3_copyFrom 24 = .ok (.bipush 6, 2) := by decide +kernel
theorem dX3_copyFrom_26 : decode cX3_copyFrom 26 = .ok (.invokestatic 42, 3) := by decide +kernel
theorem dX3_copyFrom_29 : decode cX3_copyFrom 29 = .ok (.aload_n 1, 1) := by decide +kernel
theorem dX3_copyFrom_30 : decode cX3_copyFrom 30 = .ok (.getfield 18, 3) := by decide +kernel
theorem dX3_copyFrom_33 : decode cX3_copyFrom 33 = .ok (.iconst 0, 1) := by decide +kernel
theorem dX3_copyFrom_34 : decode cX3_copyFrom 34 = .ok (.aload_n 0, 1) := by decide +kernel
theorem dX3_copyFrom_35 : decode cX3_copyFrom 35 = .ok (.getfield 18, 3) := by decide +kernel
theorem dX3_copyFrom_38 : decode cX3_copyFrom 38 = .ok (.iconst 0, 1) := by decide +kernel
theorem dX3_copyFrom_39 : decode cX3_copyFrom 39 = .ok (.bipush 6, 2) := by decide +kernel
theorem dX3_copyFrom_41 : decode cX3_copyFrom 41 = .ok (.invokestatic 42, 3) := by decide +kernel
theorem dX3_copyFrom_44 : decode cX3_copyFrom 44 = .ok (.aload_n 1, 1) := by decide +kernel
theorem dX3_copyFrom_45 : decode cX3_copyFrom 45 = .ok (.getfield 21, 3) := by decide +kernel
theorem dX3_copyFrom_48 : decode cX3_copyFrom 48 = .ok (.iconst 0, 1) := by decide +kernel
theorem dX3_copyFrom_49 : decode cX3_copyFrom 49 = .ok (.aload_n 0, 1) := by decide +kernel
theorem dX3_copyFrom_50 : decode cX3_copyFrom 50 = .ok (.getfield 21, 3) := by decide +kernel
theorem dX3_copyFrom_53 : decode cX3_copyFrom 53 = .ok (.iconst 0, 1) := by decide +kernel
theorem dX3_copyFrom_54 : decode cX3_copyFrom 54 = .ok (.bipush 8, 2) := by decide +kernel
theorem dX3_copyFrom_56 : decode cX3_copyFrom 56 = .ok (.invokestatic 42, 3) := by decide +kernel
theorem dX3_copyFrom_59 : decode cX3_copyFrom 59 = .ok (.aload_n 1, 1) := by decide +kernel
theorem dX3_copyFrom_60 : decode cX3_copyFrom 60 = .ok (.getfield 24, 3) := by decide +kernel
theorem dX3_copyFrom_63 : decode cX3_copyFrom 63 = .ok (.iconst 0, 1) := by decide +kernel
theorem dX3_copyFrom_64 : decode cX3_copyFrom 64 = .ok (.aload_n 0, 1) := by decide +kernel
theorem dX3_copyFrom_65 : decode cX3_copyFrom 65 = .ok (.getfield 24, 3) := by decide +kernel
theorem dX3_copyFrom_68 : decode cX3_copyFrom 68 = .ok (.iconst 0, 1) := by decide +kernel
theorem dX3_copyFrom_69 : decode cX3_copyFrom 69 = .ok (.bipush 8, 2) := by decide +kernel
theorem dX3_copyFrom_71 : decode cX3_copyFrom 71 = .ok (.invokestatic 42, 3) := by decide +kernel
theorem dX3_copyFrom_74 : decode cX3_copyFrom 74 = .ok (.aload_n 1, 1) := by decide +kernel
theorem dX3_copyFrom_75 : decode cX3_copyFrom 75 = .ok (.getfield 27, 3) := by decide +kernel
theorem dX3_copyFrom_78 : decode cX3_copyFrom 78 = .ok (.iconst 0, 1) := by decide +kernel
theorem dX3_copyFrom_79 : decode cX3_copyFrom 79 = .ok (.aload_n 0, 1) := by decide +kernel
theorem dX3_copyFrom_80 : decode cX3_copyFrom 80 = .ok (.getfield 27, 3) := by decide +kernel
theorem dX3_copyFrom_83 : decode cX3_copyFrom 83 = .ok (.iconst 0, 1) := by decide +kernel
theorem dX3_copyFrom_84 : decode cX3_copyFrom 84 = .ok (.bipush 24, 2) := by decide +kernel
theorem dX3_copyFrom_86 : decode cX3_copyFrom 86 = .ok (.invokestatic 42, 3) := by decide +kernel
theorem dX3_copyFrom_89 : decode cX3_copyFrom 89 = .ok (.aload_n 1, 1) := by decide +kernel
theorem dX3_copyFrom_90 : decode cX3_copyFrom 90 = .ok (.getfield 30, 3) := by decide +kernel
theorem dX3_copyFrom_93 : decode cX3_copyFrom 93 = .ok (.iconst 0, 1) := by decide +kernel
theorem dX3_copyFrom_94 : decode cX3_copyFrom 94 = .ok (.aload_n 0, 1) := by decide +kernel
theorem dX3_copyFrom_95 : decode cX3_copyFrom 95 = .ok (.getfield 30, 3) := by decide +kernel
theorem dX3_copyFrom_98 : decode cX3_copyFrom 98 = .ok (.iconst 0, 1) := by decide +kernel
theorem dX3_copyFrom_99 : decode cX3_copyFrom 99 = .ok (.bipush 24, 2) := by decide +kernel
theorem dX3_copyFrom_101 : decode cX3_copyFrom 101 = .ok (.invokestatic 42, 3) := by decide +kernel
theorem dX3_copyFrom_104 : decode cX3_copyFrom 104 = .ok (.aload_n 1, 1) := by decide +kernel
theorem dX3_copyFrom_105 : decode cX3_copyFrom 105 = .ok (.getfield 33, 3) := by decide +kernel
theorem dX3_copyFrom_108 : decode cX3_copyFrom 108 = .ok (.iconst 0, 1) := by decide +kernel
theorem dX3_copyFrom_109 : decode cX3_copyFrom 109 = .ok (.aload_n 0, 1) := by decide +kernel
theorem dX3_copyFrom_110 : decode cX3_copyFrom 110 = .ok (.getfield 33, 3) := by decide +kernel
theorem dX3_copyFrom_113 : decode cX3_copyFrom 113 = .ok (.iconst 0, 1) := by decide +kernel
theorem dX3_copyFrom_114 : decode cX3_copyFrom 114 = .ok (.bipush 24, 2) := by decide +kernel
theorem dX3_copyFrom_116 : decode cX3_copyFrom 116 = .ok (.invokestatic 42, 3) := by decide +kernel
theorem dX3_copyFrom_119 : decode cX3_copyFrom 119 = .ok (.aload_n 1, 1) := by decide +kernel
theorem dX3_copyFrom_120 : decode cX3_copyFrom 120 = .ok (.getfield 36, 3) := by decide +kernel
theorem dX3_copyFrom_123 : decode cX3_copyFrom 123 = .ok (.iconst 0, 1) := by decide +kernel
theorem dX3_copyFrom_124 : decode cX3_copyFrom 124 = .ok (.aload_n 0, 1) := by decide +kernel
theorem dX3_copyFrom_125 : decode cX3_copyFrom 125 = .ok (.getfield 36, 3) := by decide +kernel
theorem dX3_copyFrom_128 : decode cX3_copyFrom 128 = .ok (.iconst 0, 1) := by decide +kernel
theorem dX3_copyFrom_129 : decode cX3_copyFrom 129 = .ok (.bipush 24, 2) := by decide +kernel
theorem dX3_copyFrom_131 : decode cX3_copyFrom 131 = .ok (.invokestatic 42, 3) := by decide +kernel
theorem dX3_copyFrom_134 : decode cX3_copyFrom 134 = .ok (.aload_n 0, 1) := by decide +kernel
theorem dX3_copyFrom_135 : decode cX3_copyFrom 135 = .ok (.aload_n 1, 1) := by decide +kernel
theorem dX3_copyFrom_136 : decode cX3_copyFrom 136 = .ok (.getfield 48, 3) := by decide +kernel
theorem dX3_copyFrom_139 : decode cX3_copyFrom 139 = .ok (.putfield 48, 3) := by decide +kernel
theorem dX3_copyFrom_142 : decode cX3_copyFrom 142 = .ok (.return_, 1) := by decide +kernel
theorem dX3_addRider_0 : decode cX3_addRider 0 = .ok (.aload_n 0, 1) := by decide +kernel
theorem dX3_addRider_1 : decode cX3_addRider 1 = .ok (.getfield 48, 3) := by decide +kernel
theorem dX3_addRider_4 : decode cX3_addRider 4 = .ok (.bipush 24, 2) := by decide +kernel
theorem dX3_addRider_6 : decode cX3_addRider 6 = .ok (.if_icmp .lt 4, 3) := by decide +kernel
theorem dX3_addRider_9 : decode cX3_addRider 9 = .ok (.return_, 1) := by decide +kernel
theorem dX3_addRider_10 : decode cX3_addRider 10 = .ok (.aload_n 0, 1) := by decide +kernel
theorem dX3_addRider_11 : decode cX3_addRider 11 = .ok (.getfield 27, 3) := by decide +kernel
theorem dX3_addRider_14 : decode cX3_addRider 14 = .ok (.aload_n 0, 1) := by decide +kernel
theorem dX3_addRider_15 : decode cX3_addRider 15 = .ok (.getfield 48, 3) := by decide +kernel
theorem dX3_addRider_18 : decode cX3_addRider 18 = .ok (.iload_n 1, 1) := by decide +kernel
theorem dX3_addRider_19 : decode cX3_addRider 19 = .ok (.iastore, 1) := by decide +kernel
theorem dX3_addRider_20 : decode cX3_addRider 20 = .ok (.aload_n 0, 1) := by decide +kernel
theorem dX3_addRider_21 : decode cX3_addRider 21 = .ok (.getfield 30, 3) := by decide +kernel
theorem dX3_addRider_24 : decode cX3_addRider 24 = .ok (.aload_n 0, 1) := by decide +kernel
theorem dX3_addRider_25 : decode cX3_addRider 25 = .ok (.getfield 48, 3) := by decide +kernel
theorem dX3_addRider_28 : decode cX3_addRider 28 = .ok (.iload_n 2, 1) := by decide +kernel
theorem dX3_addRider_29 : decode cX3_addRider 29 = .ok (.iastore, 1) := by decide +kernel
theorem dX3_addRider_30 : decode cX3_addRider 30 = .ok (.aload_n 0, 1) := by decide +kernel
theorem dX3_addRider_31 : decode cX3_addRider 31 = .ok (.getfield 33, 3) := by decide +kernel
theorem dX3_addRider_34 : decode cX3_addRider 34 = .ok (.aload_n 0, 1) := by decide +kernel
theorem dX3_addRider_35 : decode cX3_addRider 35 = .ok (.getfield 48, 3) := by decide +kernel
theorem dX3_addRider_38 : decode cX3_addRider 38 = .ok (.iload_n 3, 1) := by decide +kernel
theorem dX3_addRider_39 : decode cX3_addRider 39 = .ok (.iastore, 1) := by decide +kernel
theorem dX3_addRider_40 : decode cX3_addRider 40 = .ok (.aload_n 0, 1) := by decide +kernel
theorem dX3_addRider_41 : decode cX3_addRider 41 = .ok (.getfield 36, 3) := by decide +kernel
theorem dX3_addRider_44 : decode cX3_addRider 44 = .ok (.aload_n 0, 1) := by decide +kernel
theorem dX3_addRider_45 : decode cX3_addRider 45 = .ok (.getfield 48, 3) := by decide +kernel
theorem dX3_addRider_48 : decode cX3_addRider 48 = .ok (.iload 4, 2) := by decide +kernel
theorem dX3_addRider_50 : decode cX3_addRider 50 = .ok (.iastore, 1) := by decide +kernel
theorem dX3_addRider_51 : decode cX3_addRider 51 = .ok (.aload_n 0, 1) := by decide +kernel
theorem dX3_addRider_52 : decode cX3_addRider 52 = .ok (.dup, 1) := by decide +kernel
theorem dX3_addRider_53 : decode cX3_addRider 53 = .ok (.getfield 48, 3) := by decide +kernel
theorem dX3_addRider_56 : decode cX3_addRider 56 = .ok (.iconst 1, 1) := by decide +kernel
theorem dX3_addRider_57 : decode cX3_addRider 57 = .ok (.iadd, 1) := by decide +kernel
theorem dX3_addRider_58 : decode cX3_addRider 58 = .ok (.putfield 48, 3) := by decide +kernel
theorem dX3_addRider_61 : decode cX3_addRider 61 = .ok (.return_, 1) := by decide +kernel
theorem dX3_removeRider_0 : decode cX3_removeRider 0 = .ok (.iload_n 1, 1) := by decide +kernel
theorem dX3_removeRider_1 : decode cX3_removeRider 1 = .ok (.istore_n 2, 1) := by decide +kernel
theorem dX3_removeRider_2 : decode cX3_removeRider 2 = .ok (.iload_n 2, 1) := by decide +kernel
theorem dX3_removeRider_3 : decode cX3_removeRider 3 = .ok (.aload_n 0, 1) := by decide +kernel
theorem dX3_removeRider_4 : decode cX3_removeRider 4 = .ok (.getfield 48, 3) := by decide +kernel
theorem dX3_removeRider_7 : decode cX3_removeRider 7 = .ok (.iconst 1, 1) := by decide +kernel
theorem dX3_removeRider_8 : decode cX3_removeRider 8 = .ok (.isub, 1) := by decide +kernel
theorem dX3_removeRider_9 : decode cX3_removeRider 9 = .ok (.if_icmp .ge 65, 3) := by decide +kernel
theorem dX3_removeRider_12 : decode cX3_removeRider 12 = .ok (.aload_n 0, 1) := by decide +kernel
theorem dX3_removeRider_13 : decode cX3_removeRider 13 = .ok (.getfield 27, 3) := by decide +kernel
theorem dX3_removeRider_16 : decode cX3_removeRider 16 = .ok (.iload_n 2, 1) := by decide +kernel
theorem dX3_removeRider_17 : decode cX3_removeRider 17 = .ok (.aload_n 0, 1) := by decide +kernel
theorem dX3_removeRider_18 : decode cX3_removeRider 18 = .ok (.getfield 27, 3) := by decide +kernel
theorem dX3_removeRider_21 : decode cX3_removeRider 21 = .ok (.iload_n 2, 1) := by decide +kernel
theorem dX3_removeRider_22 : decode cX3_removeRider 22 = .ok (.iconst 1, 1) := by decide +kernel
theorem dX3_removeRider_23 : decode cX3_removeRider 23 = .ok (.iadd, 1) := by decide +kernel
theorem dX3_removeRider_24 : decode cX3_removeRider 24 = .ok (.iaload, 1) := by decide +kernel
theorem dX3_removeRider_25 : decode cX3_removeRider 25 = .ok (.iastore, 1) := by decide +kernel
theorem dX3_removeRider_26 : decode cX3_removeRider 26 = .ok (.aload_n 0, 1) := by decide +kernel
theorem dX3_removeRider_27 : decode cX3_removeRider 27 = .ok (.getfield 30, 3) := by decide +kernel
theorem dX3_removeRider_30 : decode cX3_removeRider 30 = .ok (.iload_n 2, 1) := by decide +kernel
theorem dX3_removeRider_31 : decode cX3_removeRider 31 = .ok (.aload_n 0, 1) := by decide +kernel
theorem dX3_removeRider_32 : decode cX3_removeRider 32 = .ok (.getfield 30, 3) := by decide +kernel
theorem dX3_removeRider_35 : decode cX3_removeRider 35 = .ok (.iload_n 2, 1) := by decide +kernel
theorem dX3_removeRider_36 : decode cX3_removeRider 36 = .ok (.iconst 1, 1) := by decide +kernel
theorem dX3_removeRider_37 : decode cX3_removeRider 37 = .ok (.iadd, 1) := by decide +kernel
theorem dX3_removeRider_38 : decode cX3_removeRider 38 = .ok (.iaload, 1) := by decide +kernel
theorem dX3_removeRider_39 : decode cX3_removeRider 39 = .ok (.iastore, 1) := by decide +kernel
theorem dX3_removeRider_40 : decode cX3_removeRider 40 = .ok (.aload_n 0, 1) := by decide +kernel
theorem dX3_removeRider_41 : decode cX3_removeRider 41 = .ok (.getfield 33, 3) := by decide +kernel
theorem dX3_removeRider_44 : decode cX3_removeRider 44 = .ok (.iload_n 2, 1) := by decide +kernel
theorem dX3_removeRider_45 : decode cX3_removeRider 45 = .ok (.aload_n 0, 1) := by decide +kernel
theorem dX3_removeRider_46 : decode cX3_removeRider 46 = .ok (.getfield 33, 3) := by decide +kernel
theorem dX3_removeRider_49 : decode cX3_removeRider 49 = .ok (.iload_n 2, 1) := by decide +kernel
theorem dX3_removeRider_50 : decode cX3_removeRider 50 = .ok (.iconst 1, 1) := by decide +kernel
theorem dX3_removeRider_51 : decode cX3_removeRider 51 = .ok (.iadd, 1) := by decide +kernel
theorem dX3_removeRider_52 : decode cX3_removeRider 52 = .ok (.iaload, 1) := by decide +kernel
theorem dX3_removeRider_53 : decode cX3_removeRider 53 = .ok (.iastore, 1) := by decide +kernel
theorem dX3_removeRider_54 : decode cX3_removeRider 54 = .ok (.aload_n 0, 1) := by decide +kernel
theorem dX3_removeRider_55 : decode cX3_removeRider 55 = .ok (.getfield 36, 3) := by decide +kernel
theorem dX3_removeRider_58 : decode cX3_removeRider 58 = .ok (.iload_n 2, 1) := by decide +kernel
theorem dX3_removeRider_59 : decode cX3_removeRider 59 = .ok (.aload_n 0, 1) := by decide +kernel
theorem dX3_removeRider_60 : decode cX3_removeRider 60 = .ok (.getfield 36, 3) := by decide +kernel
theorem dX3_removeRider_63 : decode cX3_removeRider 63 = .ok (.iload_n 2, 1) := by decide +kernel
theorem dX3_removeRider_64 : decode cX3_removeRider 64 = .ok (.iconst 1, 1) := by decide +kernel
theorem dX3_removeRider_65 : decode cX3_removeRider 65 = .ok (.iadd, 1) := by decide +kernel
theorem dX3_removeRider_66 : decode cX3_removeRider 66 = .ok (.iaload, 1) := by decide +kernel
theorem dX3_removeRider_67 : decode cX3_removeRider 67 = .ok (.iastore, 1) := by decide +kernel
theorem dX3_removeRider_68 : decode cX3_removeRider 68 = .ok (.iinc 2 1, 3) := by decide +kernel
theorem dX3_removeRider_71 : decode cX3_removeRider 71 = .ok (.goto (-69), 3) := by decide +kernel
theorem dX3_removeRider_74 : decode cX3_removeRider 74 = .ok (.aload_n 0, 1) := by decide +kernel
theorem dX3_removeRider_75 : decode cX3_removeRider 75 = .ok (.dup, 1) := by decide +kernel
theorem dX3_removeRider_76 : decode cX3_removeRider 76 = .ok (.getfield 48, 3) := by decide +kernel
theorem dX3_removeRider_79 : decode cX3_removeRider 79 = .ok (.iconst 1, 1) := by decide +kernel
theorem dX3_removeRider_80 : decode cX3_removeRider 80 = .ok (.isub, 1) := by decide +kernel
theorem dX3_removeRider_81 : decode cX3_removeRider 81 = .ok (.putfield 48, 3) := by decide +kernel
theorem dX3_removeRider_84 : decode cX3_removeRider 84 = .ok (.return_, 1) := by decide +kernel
theorem dX3_flightReady_0 : decode cX3_flightReady 0 = .ok (.aload_n 0, 1) := by decide +kernel
theorem dX3_flightReady_1 : decode cX3_flightReady 1 = .ok (.getfield 15, 3) := by decide +kernel
theorem dX3_flightReady_4 : decode cX3_flightReady 4 = .ok (.iload_n 1, 1) := by decide +kernel
theorem dX3_flightReady_5 : decode cX3_flightReady 5 = .ok (.iaload, 1) := by decide +kernel
theorem dX3_flightReady_6 : decode cX3_flightReady 6 = .ok (.aload_n 0, 1) := by decide +kernel
theorem dX3_flightReady_7 : decode cX3_flightReady 7 = .ok (.getfield 18, 3) := by decide +kernel
theorem dX3_flightReady_10 : decode cX3_flightReady 10 = .ok (.iload_n 1, 1) := by decide +kernel
theorem dX3_flightReady_11 : decode cX3_flightReady 11 = .ok (.iaload, 1) := by decide +kernel
theorem dX3_flightReady_12 : decode cX3_flightReady 12 = .ok (.iadd, 1) := by decide +kernel
theorem dX3_flightReady_13 : decode cX3_flightReady 13 = .ok (.aload_n 0, 1) := by decide +kernel
theorem dX3_flightReady_14 : decode cX3_flightReady 14 = .ok (.getfield 9, 3) := by decide +kernel
theorem dX3_flightReady_17 : decode cX3_flightReady 17 = .ok (.iconst 0, 1) := by decide +kernel
theorem dX3_flightReady_18 : decode cX3_flightReady 18 = .ok (.iaload, 1) := by decide +kernel
theorem dX3_flightReady_19 : decode cX3_flightReady 19 = .ok (.iadd, 1) := by decide +kernel
theorem dX3_flightReady_20 : decode cX3_flightReady 20 = .ok (.ireturn, 1) := by decide +kernel
theorem dX3_riderReady_0 : decode cX3_riderReady 0 = .ok (.aload_n 0, 1) := by decide +kernel
theorem dX3_riderReady_1 : decode cX3_riderReady 1 = .ok (.aload_n 0, 1) := by decide +kernel
theorem dX3_riderReady_2 : decode cX3_riderReady 2 = .ok (.getfield 27, 3) := by decide +kernel
theorem dX3_riderReady_5 : decode cX3_riderReady 5 = .ok (.iload_n 1, 1) := by decide +kernel
theorem dX3_riderReady_6 : decode cX3_riderReady 6 = .ok (.iaload, 1) := by decide +kernel
theorem dX3_riderReady_7 : decode cX3_riderReady 7 = .ok (.invokevirtual 52, 3) := by decide +kernel
theorem dX3_riderReady_10 : decode cX3_riderReady 10 = .ok (.ireturn, 1) := by decide +kernel
theorem dX3_allPeople_0 : decode cX3_allPeople 0 = .ok (.iconst 0, 1) := by decide +kernel
theorem dX3_allPeople_1 : decode cX3_allPeople 1 = .ok (.istore_n 1, 1) := by decide +kernel
theorem dX3_allPeople_2 : decode cX3_allPeople 2 = .ok (.iconst 0, 1) := by decide +kernel
theorem dX3_allPeople_3 : decode cX3_allPeople 3 = .ok (.istore_n 2, 1) := by decide +kernel
theorem dX3_allPeople_4 : decode cX3_allPeople 4 = .ok (.iload_n 2, 1) := by decide +kernel
theorem dX3_allPeople_5 : decode cX3_allPeople 5 = .ok (.aload_n 0, 1) := by decide +kernel
theorem dX3_allPeople_6 : decode cX3_allPeople 6 = .ok (.getfield 48, 3) := by decide +kernel
theorem dX3_allPeople_9 : decode cX3_allPeople 9 = .ok (.if_icmp .ge 18, 3) := by decide +kernel
theorem dX3_allPeople_12 : decode cX3_allPeople 12 = .ok (.iload_n 1, 1) := by decide +kernel
theorem dX3_allPeople_13 : decode cX3_allPeople 13 = .ok (.aload_n 0, 1) := by decide +kernel
theorem dX3_allPeople_14 : decode cX3_allPeople 14 = .ok (.getfield 36, 3) := by decide +kernel
theorem dX3_allPeople_17 : decode cX3_allPeople 17 = .ok (.iload_n 2, 1) := by decide +kernel
theorem dX3_allPeople_18 : decode cX3_allPeople 18 = .ok (.iaload, 1) := by decide +kernel
theorem dX3_allPeople_19 : decode cX3_allPeople 19 = .ok (.iadd, 1) := by decide +kernel
theorem dX3_allPeople_20 : decode cX3_allPeople 20 = .ok (.istore_n 1, 1) := by decide +kernel
theorem dX3_allPeople_21 : decode cX3_allPeople 21 = .ok (.iinc 2 1, 3) := by decide +kernel
theorem dX3_allPeople_24 : decode cX3_allPeople 24 = .ok (.goto (-20), 3) := by decide +kernel
theorem dX3_allPeople_27 : decode cX3_allPeople 27 = .ok (.iload_n 1, 1) := by decide +kernel
theorem dX3_allPeople_28 : decode cX3_allPeople 28 = .ok (.ireturn, 1) := by decide +kernel
theorem dX3_stopKey_0 : decode cX3_stopKey 0 = .ok (.aload_n 0, 1) := by decide +kernel
theorem dX3_stopKey_1 : decode cX3_stopKey 1 = .ok (.getfield 30, 3) := by decide +kernel
theorem dX3_stopKey_4 : decode cX3_stopKey 4 = .ok (.iload_n 1, 1) := by decide +kernel
theorem dX3_stopKey_5 : decode cX3_stopKey 5 = .ok (.iaload, 1) := by decide +kernel
theorem dX3_stopKey_6 : decode cX3_stopKey 6 = .ok (.bipush 100, 2) := by decide +kernel
theorem dX3_stopKey_8 : decode cX3_stopKey 8 = .ok (.imul, 1) := by decide +kernel
theorem dX3_stopKey_9 : decode cX3_stopKey 9 = .ok (.aload_n 0, 1) := by decide +kernel
theorem dX3_stopKey_10 : decode cX3_stopKey 10 = .ok (.getfield 33, 3) := by decide +kernel
theorem dX3_stopKey_13 : decode cX3_stopKey 13 = .ok (.iload_n 1, 1) := by decide +kernel
theorem dX3_stopKey_14 : decode cX3_stopKey 14 = .ok (.iaload, 1) := by decide +kernel
theorem dX3_stopKey_15 : decode cX3_stopKey 15 = .ok (.iadd, 1) := by decide +kernel
theorem dX3_stopKey_16 : decode cX3_stopKey 16 = .ok (.ireturn, 1) := by decide +kernel
theorem dX3_areaOfStop_0 : decode cX3_areaOfStop 0 = .ok (.iload_n 0, 1) := by decide +kernel
theorem dX3_areaOfStop_1 : decode cX3_areaOfStop 1 = .ok (.bipush 100, 2) := by decide +kernel
theorem dX3_areaOfStop_3 : decode cX3_areaOfStop 3 = .ok (.idiv, 1) := by decide +kernel
theorem dX3_areaOfStop_4 : decode cX3_areaOfStop 4 = .ok (.ireturn, 1) := by decide +kernel
theorem dX3_doorOfStop_0 : decode cX3_doorOfStop 0 = .ok (.iload_n 0, 1) := by decide +kernel
theorem dX3_doorOfStop_1 : decode cX3_doorOfStop 1 = .ok (.bipush 100, 2) := by decide +kernel
theorem dX3_doorOfStop_3 : decode cX3_doorOfStop 3 = .ok (.irem, 1) := by decide +kernel
theorem dX3_doorOfStop_4 : decode cX3_doorOfStop 4 = .ok (.ireturn, 1) := by decide +kernel
theorem dX4_init_0 : decode cX4_init 0 = .ok (.aload_n 0, 1) := by decide +kernel
theorem dX4_init_1 : decode cX4_init 1 = .ok (.invokespecial 3, 3) := by decide +kernel
theorem dX4_init_4 : decode cX4_init 4 = .ok (.aload_n 0, 1) := by decide +kernel
theorem dX4_init_5 : decode cX4_init 5 = .ok (.bipush 24, 2) := by decide +kernel
theorem dX4_init_7 : decode cX4_init 7 = .ok (.newarray .int, 2) := by decide +kernel
theorem dX4_init_9 : decode cX4_init 9 = .ok (.putfield 9, 3) := by decide +kernel
theorem dX4_init_12 : decode cX4_init 12 = .ok (.aload_n 0, 1) := by decide +kernel
theorem dX4_init_13 : decode cX4_init 13 = .ok (.bipush 24, 2) := by decide +kernel
theorem dX4_init_15 : decode cX4_init 15 = .ok (.newarray .int, 2) := by decide +kernel
theorem dX4_init_17 : decode cX4_init 17 = .ok (.putfield 15, 3) := by decide +kernel
theorem dX4_init_20 : decode cX4_init 20 = .ok (.aload_n 0, 1) := by decide +kernel
theorem dX4_init_21 : decode cX4_init 21 = .ok (.bipush 24, 2) := by decide +kernel
theorem dX4_init_23 : decode cX4_init 23 = .ok (.newarray .int, 2) := by decide +kernel
theorem dX4_init_25 : decode cX4_init 25 = .ok (.putfield 18, 3) := by decide +kernel
theorem dX4_init_28 : decode cX4_init 28 = .ok (.return_, 1) := by decide +kernel
theorem dX4_follow_0 : decode cX4_follow 0 = .ok (.aload_n 0, 1) := by decide +kernel
theorem dX4_follow_1 : decode cX4_follow 1 = .ok (.iconst 0, 1) := by decide +kernel
theorem dX4_follow_2 : decode cX4_follow 2 = .ok (.putfield 21, 3) := by decide +kernel
theorem dX4_follow_5 : decode cX4_follow 5 = .ok (.iconst 0, 1) := by decide +kernel
theorem dX4_follow_6 : decode cX4_follow 6 = .ok (.istore 4, 2) := by decide +kernel
theorem dX4_follow_8 : decode cX4_follow 8 = .ok (.iload 4, 2) := by decide +kernel
theorem dX4_follow_10 : decode cX4_follow 10 = .ok (.aload_n 1, 1) := by decide +kernel
theorem dX4_follow_11 : decode cX4_follow 11 = .ok (.getfield 25, 3) := by decide +kernel
theorem dX4_follow_14 : decode cX4_follow 14 = .ok (.if_icmp .ge 37, 3) := by decide +kernel
theorem dX4_follow_17 : decode cX4_follow 17 = .ok (.aload_n 2, 1) := by decide +kernel
theorem dX4_follow_18 : decode cX4_follow 18 = .ok (.getfield 30, 3) := by decide +kernel
theorem dX4_follow_21 : decode cX4_follow 21 = .ok (.iload 4, 2) := by decide +kernel
theorem dX4_follow_23 : decode cX4_follow 23 = .ok (.iaload, 1) := by decide +kernel
theorem dX4_follow_24 : decode cX4_follow 24 = .ok (.iload_n 3, 1) := by decide +kernel
theorem dX4_follow_25 : decode cX4_follow 25 = .ok (.if_icmp .ne 20, 3) := by decide +kernel
theorem dX4_follow_28 : decode cX4_follow 28 = .ok (.aload_n 0, 1) := by decide +kernel
theorem dX4_follow_29 : decode cX4_follow 29 = .ok (.aload_n 1, 1) := by decide +kernel
theorem dX4_follow_30 : decode cX4_follow 30 = .ok (.iload 4, 2) := by decide +kernel
theorem dX4_follow_32 : decode cX4_follow 32 = .ok (.invokevirtual 35, 3) := by decide +kernel
theorem dX4_follow_35 : decode cX4_follow 35 = .ok (.aload_n 1, 1) := by decide +kernel
theorem dX4_follow_36 : decode cX4_follow 36 = .ok (.getfield 39, 3) := by decide +kernel
theorem dX4_follow_39 : decode cX4_follow 39 = .ok (.iload 4, 2) := by decide +kernel
theorem dX4_follow_41 : decode cX4_follow 41 = .ok (.iaload, 1) := by decide +kernel
theorem dX4_follow_42 : decode cX4_follow 42 = .ok (.invokevirtual 40, 3) := by decide +kernel
theorem dX4_follow_45 : decode cX4_follow 45 = .ok (.iinc 4 1, 3) := by decide +kernel
theorem dX4_follow_48 : decode cX4_follow 48 = .ok (.goto (-40), 3) := by decide +kernel
theorem dX4_follow_51 : decode cX4_follow 51 = .ok (.aload_n 0, 1) := by decide +kernel
theorem dX4_follow_52 : decode cX4_follow 52 = .ok (.aload_n 1, 1) := by decide +kernel
theorem dX4_follow_53 : decode cX4_follow 53 = .ok (.getfield 44, 3) := by decide +kernel
theorem dX4_follow_56 : decode cX4_follow 56 = .ok (.iload_n 3, 1) := by decide +kernel
theorem dX4_follow_57 : decode cX4_follow 57 = .ok (.iaload, 1) := by decide +kernel
theorem dX4_follow_58 : decode cX4_follow 58 = .ok (.invokevirtual 47, 3) := by decide +kernel
theorem dX4_follow_61 : decode cX4_follow 61 = .ok (.return_, 1) := by decide +kernel
theorem dX4_letOut_0 : decode cX4_letOut 0 = .ok (.aload_n 0, 1) := by decide +kernel
theorem dX4_letOut_1 : decode cX4_letOut 1 = .ok (.iload_n 1, 1) := by decide +kernel
theorem dX4_letOut_2 : decode cX4_letOut 2 = .ok (.invokevirtual 51, 3) := by decide +kernel
theorem dX4_letOut_5 : decode cX4_letOut 5 = .ok (.istore_n 3, 1) := by decide +kernel
theorem dX4_letOut_6 : decode cX4_letOut 6 = .ok (.iload_n 3, 1) := by decide +kernel
theorem dX4_letOut_7 : decode cX4_letOut 7 = .ok (.bipush 24, 2) := by decide +kernel
theorem dX4_letOut_9 : decode cX4_letOut 9 = .ok (.if_icmp .lt 4, 3) := by decide +kernel
theorem dX4_letOut_12 : decode cX4_letOut 12 = .ok (.return_, 1) := by decide +kernel
theorem dX4_letOut_13 : decode cX4_letOut 13 = .ok (.iload_n 3, 1) := by decide +kernel
theorem dX4_letOut_14 : decode cX4_letOut 14 = .ok (.aload_n 0, 1) := by decide +kernel
theorem dX4_letOut_15 : decode cX4_letOut 15 = .ok (.getfield 21, 3) := by decide +kernel
theorem dX4_letOut_18 : decode cX4_letOut 18 = .ok (.if_icmp .eq 13, 3) := by decide +kernel
theorem dX4_letOut_21 : decode cX4_letOut 21 = .ok (.aload_n 0, 1) := by decide +kernel
theorem dX4_letOut_22 : decode cX4_letOut 22 = .ok (.getfield 9, 3) := by decide +kernel
theorem dX4_letOut_25 : decode cX4_letOut 25 = .ok (.iload_n 3, 1) := by decide +kernel
theorem dX4_letOut_26 : decode cX4_letOut 26 = .ok (.iaload, 1) := by decide +kernel
theorem dX4_letOut_27 : decode cX4_letOut 27 = .ok (.iload_n 1, 1) := by decide +kernel
theorem dX4_letOut_28 : decode cX4_letOut 28 = .ok (.if_icmp .eq 9, 3) := by decide +kernel
theorem dX4_letOut_31 : decode cX4_letOut 31 = .ok (.aload_n 0, 1) := by decide +kernel
theorem dX4_letOut_32 : decode cX4_letOut 32 = .ok (.iload_n 3, 1) := by decide +kernel
theorem dX4_letOut_33 : decode cX4_letOut 33 = .ok (.iload_n 1, 1) := by decide +kernel
theorem dX4_letOut_34 : decode cX4_letOut 34 = .ok (.invokevirtual 54, 3) := by decide +kernel
theorem dX4_letOut_37 : decode cX4_letOut 37 = .ok (.aload_n 0, 1) := by decide +kernel
theorem dX4_letOut_38 : decode cX4_letOut 38 = .ok (.getfield 15, 3) := by decide +kernel
theorem dX4_letOut_41 : decode cX4_letOut 41 = .ok (.iload_n 3, 1) := by decide +kernel
theorem dX4_letOut_42 : decode cX4_letOut 42 = .ok (.dup2, 1) := by decide +kernel
theorem dX4_letOut_43 : decode cX4_letOut 43 = .ok (.iaload, 1) := by decide +kernel
theorem dX4_letOut_44 : decode cX4_letOut 44 = .ok (.iload_n 2, 1) := by decide +kernel
theorem dX4_letOut_45 : decode cX4_letOut 45 = .ok (.iadd, 1) := by decide +kernel
theorem dX4_letOut_46 : decode cX4_letOut 46 = .ok (.iastore, 1) := by decide +kernel
theorem dX4_letOut_47 : decode cX4_letOut 47 = .ok (.return_, 1) := by decide +kernel
theorem dX4_placeFor_0 : decode cX4_placeFor 0 = .ok (.iconst 0, 1) := by decide +kernel
theorem dX4_placeFor_1 : decode cX4_placeFor 1 = .ok (.istore_n 2, 1) := by decide +kernel
theorem dX4_placeFor_2 : decode cX4_placeFor 2 = .ok (.iload_n 2, 1) := by decide +kernel
theorem dX4_placeFor_3 : decode cX4_placeFor 3 = .ok (.aload_n 0, 1) := by decide +kernel
theorem dX4_placeFor_4 : decode cX4_placeFor 4 = .ok (.getfield 21, 3) := by decide +kernel
theorem dX4_placeFor_7 : decode cX4_placeFor 7 = .ok (.if_icmp .ge 19, 3) := by decide +kernel
theorem dX4_placeFor_10 : decode cX4_placeFor 10 = .ok (.aload_n 0, 1) := by decide +kernel
theorem dX4_placeFor_11 : decode cX4_placeFor 11 = .ok (.getfield 9, 3) := by decide +kernel
theorem dX4_placeFor_14 : decode cX4_placeFor 14 = .ok (.iload_n 2, 1) := by decide +kernel
theorem dX4_placeFor_15 : decode cX4_placeFor 15 = .ok (.iaload, 1) := by decide +kernel
theorem dX4_placeFor_16 : decode cX4_placeFor 16 = .ok (.iload_n 1, 1) := by decide +kernel
theorem dX4_placeFor_17 : decode cX4_placeFor 17 = .ok (.if_icmp .ge 9, 3) := by decide +kernel
theorem dX4_placeFor_20 : decode cX4_placeFor 20 = .ok (.iinc 2 1, 3) := by decide +kernel
theorem dX4_placeFor_23 : decode cX4_placeFor 23 = .ok (.goto (-21), 3) := by decide +kernel
theorem dX4_placeFor_26 : decode cX4_placeFor 26 = .ok (.iload_n 2, 1) := by decide +kernel
theorem dX4_placeFor_27 : decode cX4_placeFor 27 = .ok (.ireturn, 1) := by decide +kernel
theorem dX4_openStop_0 : decode cX4_openStop 0 = .ok (.aload_n 0, 1) := by decide +kernel
theorem dX4_openStop_1 : decode cX4_openStop 1 = .ok (.getfield 21, 3) := by decide +kernel
theorem dX4_openStop_4 : decode cX4_openStop 4 = .ok (.bipush 24, 2) := by decide +kernel
theorem dX4_openStop_6 : decode cX4_openStop 6 = .ok (.if_icmp .lt 4, 3) := by decide +kernel
theorem dX4_openStop_9 : decode cX4_openStop 9 = .ok (.return_, 1) := by decide +kernel
theorem dX4_openStop_10 : decode cX4_openStop 10 = .ok (.aload_n 0, 1) := by decide +kernel
theorem dX4_openStop_11 : decode cX4_openStop 11 = .ok (.getfield 21, 3) := by decide +kernel
theorem dX4_openStop_14 : decode cX4_openStop 14 = .ok (.istore_n 3, 1) := by decide +kernel
theorem dX4_openStop_15 : decode cX4_openStop 15 = .ok (.iload_n 3, 1) := by decide +kernel
theorem dX4_openStop_16 : decode cX4_openStop 16 = .ok (.iload_n 1, 1) := by decide +kernel
theorem dX4_openStop_17 : decode cX4_openStop 17 = .ok (.if_icmp .le 37, 3) := by decide +kernel
theorem dX4_openStop_20 : decode cX4_openStop 20 = .ok (.aload_n 0, 1) := by decide +kernel
theorem dX4_openStop_21 : decode cX4_openStop 21 = .ok (.getfield 9, 3) := by decide +kernel
theorem dX4_openStop_24 : decode cX4_openStop 24 = .ok (.iload_n 3, 1) := by decide +kernel
theorem dX4_openStop_25 : decode cX4_openStop 25 = .ok (.aload_n 0, 1) := by decide +kernel
theorem dX4_openStop_26 : decode cX4_openStop 26 = .ok (.getfield 9, 3) := by decide +kernel
theorem dX4_openStop_29 : decode cX4_openStop 29 = .ok (.iload_n 3, 1) := by decide +kernel
theorem dX4_openStop_30 : decode cX4_openStop 30 = .ok (.iconst 1, 1) := by decide +kernel
theorem dX4_openStop_31 : decode cX4_openStop 31 = .ok (.isub, 1) := by decide +kernel
theorem dX4_openStop_32 : decode cX4_openStop 32 = .ok (.iaload, 1) := by decide +kernel
theorem dX4_openStop_33 : decode cX4_openStop 33 = .ok (.iastore, 1) := by decide +kernel
end
section
theorem dX4_openStop_34 : decode cX4_openStop 34 = .ok (.aload_n 0, 1) := by decide +kernel
theorem dX4_openStop_35 : decode cX4_openStop 35 = .ok (.getfield 15, 3) := by decide +kernel
theorem dX4_openStop_38 : decode cX4_openStop 38 = .ok (.iload_n 3, 1) := by decide +kernel
theorem dX4_openStop_39 : decode cX4_openStop 39 = .ok (.aload_n 0, 1) := by decide +kernel
theorem dX4_openStop_40 : decode cX4_openStop 40 = .ok (.getfield 15, 3) := by decide +kernel
theorem dX4_openStop_43 : decode cX4_openStop 43 = .ok (.iload_n 3, 1) := by decide +kernel
theorem dX4_openStop_44 : decode cX4_openStop 44 = .ok (.iconst 1, 1) := by decide +kernel
theorem dX4_openStop_45 : decode cX4_openStop 45 = .ok (.isub, 1) := by decide +kernel
theorem dX4_openStop_46 : decode cX4_openStop 46 = .ok (.iaload, 1) := by decide +kernel
theorem dX4_openStop_47 : decode cX4_openStop 47 = .ok (.iastore, 1) := by decide +kernel
theorem dX4_openStop_48 : decode cX4_openStop 48 = .ok (.iinc 3 (-1), 3) := by decide +kernel
theorem dX4_openStop_51 : decode cX4_openStop 51 = .ok (.goto (-36), 3) := by decide +kernel
theorem dX4_openStop_54 : decode cX4_openStop 54 = .ok (.aload_n 0, 1) := by decide +kernel
theorem dX4_openStop_55 : decode cX4_openStop 55 = .ok (.getfield 9, 3) := by decide +kernel
theorem dX4_openStop_58 : decode cX4_openStop 58 = .ok (.iload_n 1, 1) := by decide +kernel
theorem dX4_openStop_59 : decode cX4_openStop 59 = .ok (.iload_n 2, 1) := by decide +kernel
theorem dX4_openStop_60 : decode cX4_openStop 60 = .ok (.iastore, 1) := by decide +kernel
theorem dX4_openStop_61 : decode cX4_openStop 61 = .ok (.aload_n 0, 1) := by decide +kernel
theorem dX4_openStop_62 : decode cX4_openStop 62 = .ok (.getfield 15, 3) := by decide +kernel
theorem dX4_openStop_65 : decode cX4_openStop 65 = .ok (.iload_n 1, 1) := by decide +kernel
theorem dX4_openStop_66 : decode cX4_openStop 66 = .ok (.iconst 0, 1) := by decide +kernel
theorem dX4_openStop_67 : decode cX4_openStop 67 = .ok (.iastore, 1) := by decide +kernel
theorem dX4_openStop_68 : decode cX4_openStop 68 = .ok (.aload_n 0, 1) := by decide +kernel
theorem dX4_openStop_69 : decode cX4_openStop 69 = .ok (.dup, 1) := by decide +kernel
theorem dX4_openStop_70 : decode cX4_openStop 70 = .ok (.getfield 21, 3) := by decide +kernel
theorem dX4_openStop_73 : decode cX4_openStop 73 = .ok (.iconst 1, 1) := by decide +kernel
theorem dX4_openStop_74 : decode cX4_openStop 74 = .ok (.iadd, 1) := by decide +kernel
theorem dX4_openStop_75 : decode cX4_openStop 75 = .ok (.putfield 21, 3) := by decide +kernel
theorem dX4_openStop_78 : decode cX4_openStop 78 = .ok (.return_, 1) := by decide +kernel
theorem dX4_tellMinutes_0 : decode cX4_tellMinutes 0 = .ok (.iconst 0, 1) := by decide +kernel
theorem dX4_tellMinutes_1 : decode cX4_tellMinutes 1 = .ok (.istore_n 2, 1) := by decide +kernel
theorem dX4_tellMinutes_2 : decode cX4_tellMinutes 2 = .ok (.iload_n 2, 1) := by decide +kernel
theorem dX4_tellMinutes_3 : decode cX4_tellMinutes 3 = .ok (.aload_n 0, 1) := by decide +kernel
theorem dX4_tellMinutes_4 : decode cX4_tellMinutes 4 = .ok (.getfield 21, 3) := by decide +kernel
theorem dX4_tellMinutes_7 : decode cX4_tellMinutes 7 = .ok (.if_icmp .ge 83, 3) := by decide +kernel
theorem dX4_tellMinutes_10 : decode cX4_tellMinutes 10 = .ok (.aload_n 0, 1) := by decide +kernel
theorem dX4_tellMinutes_11 : decode cX4_tellMinutes 11 = .ok (.getfield 9, 3) := by decide +kernel
theorem dX4_tellMinutes_14 : decode cX4_tellMinutes 14 = .ok (.iload_n 2, 1) := by decide +kernel
theorem dX4_tellMinutes_15 : decode cX4_tellMinutes 15 = .ok (.iaload, 1) := by decide +kernel
theorem dX4_tellMinutes_16 : decode cX4_tellMinutes 16 = .ok (.invokestatic 57, 3) := by decide +kernel
theorem dX4_tellMinutes_19 : decode cX4_tellMinutes 19 = .ok (.istore_n 3, 1) := by decide +kernel
theorem dX4_tellMinutes_20 : decode cX4_tellMinutes 20 = .ok (.iload_n 2, 1) := by decide +kernel
theorem dX4_tellMinutes_21 : decode cX4_tellMinutes 21 = .ok (.ifCond .ne 20, 3) := by decide +kernel
theorem dX4_tellMinutes_24 : decode cX4_tellMinutes 24 = .ok (.aload_n 0, 1) := by decide +kernel
theorem dX4_tellMinutes_25 : decode cX4_tellMinutes 25 = .ok (.getfield 18, 3) := by decide +kernel
theorem dX4_tellMinutes_28 : decode cX4_tellMinutes 28 = .ok (.iload_n 2, 1) := by decide +kernel
theorem dX4_tellMinutes_29 : decode cX4_tellMinutes 29 = .ok (.iload_n 1, 1) := by decide +kernel
theorem dX4_tellMinutes_30 : decode cX4_tellMinutes 30 = .ok (.bipush 10, 2) := by decide +kernel
theorem dX4_tellMinutes_32 : decode cX4_tellMinutes 32 = .ok (.iadd, 1) := by decide +kernel
theorem dX4_tellMinutes_33 : decode cX4_tellMinutes 33 = .ok (.iconst 5, 1) := by decide +kernel
theorem dX4_tellMinutes_34 : decode cX4_tellMinutes 34 = .ok (.iload_n 3, 1) := by decide +kernel
theorem dX4_tellMinutes_35 : decode cX4_tellMinutes 35 = .ok (.imul, 1) := by decide +kernel
theorem dX4_tellMinutes_36 : decode cX4_tellMinutes 36 = .ok (.iadd, 1) := by decide +kernel
theorem dX4_tellMinutes_37 : decode cX4_tellMinutes 37 = .ok (.iastore, 1) := by decide +kernel
theorem dX4_tellMinutes_38 : decode cX4_tellMinutes 38 = .ok (.goto 46, 3) := by decide +kernel
theorem dX4_tellMinutes_41 : decode cX4_tellMinutes 41 = .ok (.iload_n 3, 1) := by decide +kernel
theorem dX4_tellMinutes_42 : decode cX4_tellMinutes 42 = .ok (.aload_n 0, 1) := by decide +kernel
theorem dX4_tellMinutes_43 : decode cX4_tellMinutes 43 = .ok (.getfield 9, 3) := by decide +kernel
theorem dX4_tellMinutes_46 : decode cX4_tellMinutes 46 = .ok (.iload_n 2, 1) := by decide +kernel
theorem dX4_tellMinutes_47 : decode cX4_tellMinutes 47 = .ok (.iconst 1, 1) := by decide +kernel
theorem dX4_tellMinutes_48 : decode cX4_tellMinutes 48 = .ok (.isub, 1) := by decide +kernel
theorem dX4_tellMinutes_49 : decode cX4_tellMinutes 49 = .ok (.iaload, 1) := by decide +kernel
theorem dX4_tellMinutes_50 : decode cX4_tellMinutes 50 = .ok (.invokestatic 57, 3) := by decide +kernel
theorem dX4_tellMinutes_53 : decode cX4_tellMinutes 53 = .ok (.isub, 1) := by decide +kernel
theorem dX4_tellMinutes_54 : decode cX4_tellMinutes 54 = .ok (.istore 4, 2) := by decide +kernel
theorem dX4_tellMinutes_56 : decode cX4_tellMinutes 56 = .ok (.aload_n 0, 1) := by decide +kernel
theorem dX4_tellMinutes_57 : decode cX4_tellMinutes 57 = .ok (.getfield 18, 3) := by decide +kernel
theorem dX4_tellMinutes_60 : decode cX4_tellMinutes 60 = .ok (.iload_n 2, 1) := by decide +kernel
theorem dX4_tellMinutes_61 : decode cX4_tellMinutes 61 = .ok (.aload_n 0, 1) := by decide +kernel
theorem dX4_tellMinutes_62 : decode cX4_tellMinutes 62 = .ok (.getfield 18, 3) := by decide +kernel
theorem dX4_tellMinutes_65 : decode cX4_tellMinutes 65 = .ok (.iload_n 2, 1) := by decide +kernel
theorem dX4_tellMinutes_66 : decode cX4_tellMinutes 66 = .ok (.iconst 1, 1) := by decide +kernel
theorem dX4_tellMinutes_67 : decode cX4_tellMinutes 67 = .ok (.isub, 1) := by decide +kernel
theorem dX4_tellMinutes_68 : decode cX4_tellMinutes 68 = .ok (.iaload, 1) := by decide +kernel
theorem dX4_tellMinutes_69 : decode cX4_tellMinutes 69 = .ok (.iload 4, 2) := by decide +kernel
theorem dX4_tellMinutes_71 : decode cX4_tellMinutes 71 = .ok (.ifCond .le 10, 3) := by decide +kernel
theorem dX4_tellMinutes_74 : decode cX4_tellMinutes 74 = .ok (.iconst 5, 1) := by decide +kernel
theorem dX4_tellMinutes_75 : decode cX4_tellMinutes 75 = .ok (.iload 4, 2) := by decide +kernel
theorem dX4_tellMinutes_77 : decode cX4_tellMinutes 77 = .ok (.imul, 1) := by decide +kernel
theorem dX4_tellMinutes_78 : decode cX4_tellMinutes 78 = .ok (.goto 4, 3) := by decide +kernel
theorem dX4_tellMinutes_81 : decode cX4_tellMinutes 81 = .ok (.iconst 3, 1) := by decide +kernel
theorem dX4_tellMinutes_82 : decode cX4_tellMinutes 82 = .ok (.iadd, 1) := by decide +kernel
theorem dX4_tellMinutes_83 : decode cX4_tellMinutes 83 = .ok (.iastore, 1) := by decide +kernel
theorem dX4_tellMinutes_84 : decode cX4_tellMinutes 84 = .ok (.iinc 2 1, 3) := by decide +kernel
theorem dX4_tellMinutes_87 : decode cX4_tellMinutes 87 = .ok (.goto (-85), 3) := by decide +kernel
theorem dX4_tellMinutes_90 : decode cX4_tellMinutes 90 = .ok (.return_, 1) := by decide +kernel
theorem dX4_lastMinute_0 : decode cX4_lastMinute 0 = .ok (.aload_n 0, 1) := by decide +kernel
theorem dX4_lastMinute_1 : decode cX4_lastMinute 1 = .ok (.getfield 21, 3) := by decide +kernel
theorem dX4_lastMinute_4 : decode cX4_lastMinute 4 = .ok (.ifCond .le 17, 3) := by decide +kernel
theorem dX4_lastMinute_7 : decode cX4_lastMinute 7 = .ok (.aload_n 0, 1) := by decide +kernel
theorem dX4_lastMinute_8 : decode cX4_lastMinute 8 = .ok (.getfield 18, 3) := by decide +kernel
theorem dX4_lastMinute_11 : decode cX4_lastMinute 11 = .ok (.aload_n 0, 1) := by decide +kernel
theorem dX4_lastMinute_12 : decode cX4_lastMinute 12 = .ok (.getfield 21, 3) := by decide +kernel
theorem dX4_lastMinute_15 : decode cX4_lastMinute 15 = .ok (.iconst 1, 1) := by decide +kernel
theorem dX4_lastMinute_16 : decode cX4_lastMinute 16 = .ok (.isub, 1) := by decide +kernel
theorem dX4_lastMinute_17 : decode cX4_lastMinute 17 = .ok (.iaload, 1) := by decide +kernel
theorem dX4_lastMinute_18 : decode cX4_lastMinute 18 = .ok (.goto 5, 3) := by decide +kernel
theorem dX4_lastMinute_21 : decode cX4_lastMinute 21 = .ok (.bipush (-106), 2) := by decide +kernel
theorem dX4_lastMinute_23 : decode cX4_lastMinute 23 = .ok (.ireturn, 1) := by decide +kernel
theorem dX4_minuteAt_0 : decode cX4_minuteAt 0 = .ok (.aload_n 0, 1) := by decide +kernel
theorem dX4_minuteAt_1 : decode cX4_minuteAt 1 = .ok (.iload_n 1, 1) := by decide +kernel
theorem dX4_minuteAt_2 : decode cX4_minuteAt 2 = .ok (.invokevirtual 51, 3) := by decide +kernel
theorem dX4_minuteAt_5 : decode cX4_minuteAt 5 = .ok (.istore_n 2, 1) := by decide +kernel
theorem dX4_minuteAt_6 : decode cX4_minuteAt 6 = .ok (.iload_n 2, 1) := by decide +kernel
theorem dX4_minuteAt_7 : decode cX4_minuteAt 7 = .ok (.aload_n 0, 1) := by decide +kernel
theorem dX4_minuteAt_8 : decode cX4_minuteAt 8 = .ok (.getfield 21, 3) := by decide +kernel
theorem dX4_minuteAt_11 : decode cX4_minuteAt 11 = .ok (.if_icmp .ge 12, 3) := by decide +kernel
theorem dX4_minuteAt_14 : decode cX4_minuteAt 14 = .ok (.aload_n 0, 1) := by decide +kernel
theorem dX4_minuteAt_15 : decode cX4_minuteAt 15 = .ok (.getfield 18, 3) := by decide +kernel
theorem dX4_minuteAt_18 : decode cX4_minuteAt 18 = .ok (.iload_n 2, 1) := by decide +kernel
theorem dX4_minuteAt_19 : decode cX4_minuteAt 19 = .ok (.iaload, 1) := by decide +kernel
theorem dX4_minuteAt_20 : decode cX4_minuteAt 20 = .ok (.goto 5, 3) := by decide +kernel
theorem dX4_minuteAt_23 : decode cX4_minuteAt 23 = .ok (.bipush (-106), 2) := by decide +kernel
theorem dX4_minuteAt_25 : decode cX4_minuteAt 25 = .ok (.ireturn, 1) := by decide +kernel
theorem dX5_init_0 : decode cX5_init 0 = .ok (.aload_n 0, 1) := by decide +kernel
theorem dX5_init_1 : decode cX5_init 1 = .ok (.invokespecial 1, 3) := by decide +kernel
theorem dX5_init_4 : decode cX5_init 4 = .ok (.aload_n 0, 1) := by decide +kernel
theorem dX5_init_5 : decode cX5_init 5 = .ok (.new 7, 3) := by decide +kernel
theorem dX5_init_8 : decode cX5_init 8 = .ok (.dup, 1) := by decide +kernel
theorem dX5_init_9 : decode cX5_init 9 = .ok (.invokespecial 9, 3) := by decide +kernel
theorem dX5_init_12 : decode cX5_init 12 = .ok (.putfield 10, 3) := by decide +kernel
theorem dX5_init_15 : decode cX5_init 15 = .ok (.aload_n 0, 1) := by decide +kernel
theorem dX5_init_16 : decode cX5_init 16 = .ok (.new 16, 3) := by decide +kernel
theorem dX5_init_19 : decode cX5_init 19 = .ok (.dup, 1) := by decide +kernel
theorem dX5_init_20 : decode cX5_init 20 = .ok (.invokespecial 18, 3) := by decide +kernel
theorem dX5_init_23 : decode cX5_init 23 = .ok (.putfield 19, 3) := by decide +kernel
theorem dX5_init_26 : decode cX5_init 26 = .ok (.aload_n 0, 1) := by decide +kernel
theorem dX5_init_27 : decode cX5_init 27 = .ok (.new 23, 3) := by decide +kernel
theorem dX5_init_30 : decode cX5_init 30 = .ok (.dup, 1) := by decide +kernel
theorem dX5_init_31 : decode cX5_init 31 = .ok (.invokespecial 25, 3) := by decide +kernel
theorem dX5_init_34 : decode cX5_init 34 = .ok (.putfield 26, 3) := by decide +kernel
theorem dX5_init_37 : decode cX5_init 37 = .ok (.aload_n 0, 1) := by decide +kernel
theorem dX5_init_38 : decode cX5_init 38 = .ok (.new 7, 3) := by decide +kernel
theorem dX5_init_41 : decode cX5_init 41 = .ok (.dup, 1) := by decide +kernel
theorem dX5_init_42 : decode cX5_init 42 = .ok (.invokespecial 9, 3) := by decide +kernel
theorem dX5_init_45 : decode cX5_init 45 = .ok (.putfield 30, 3) := by decide +kernel
theorem dX5_init_48 : decode cX5_init 48 = .ok (.aload_n 0, 1) := by decide +kernel
theorem dX5_init_49 : decode cX5_init 49 = .ok (.new 16, 3) := by decide +kernel
theorem dX5_init_52 : decode cX5_init 52 = .ok (.dup, 1) := by decide +kernel
theorem dX5_init_53 : decode cX5_init 53 = .ok (.invokespecial 18, 3) := by decide +kernel
theorem dX5_init_56 : decode cX5_init 56 = .ok (.putfield 33, 3) := by decide +kernel
theorem dX5_init_59 : decode cX5_init 59 = .ok (.aload_n 0, 1) := by decide +kernel
theorem dX5_init_60 : decode cX5_init 60 = .ok (.new 36, 3) := by decide +kernel
theorem dX5_init_63 : decode cX5_init 63 = .ok (.dup, 1) := by decide +kernel
theorem dX5_init_64 : decode cX5_init 64 = .ok (.invokespecial 38, 3) := by decide +kernel
theorem dX5_init_67 : decode cX5_init 67 = .ok (.putfield 39, 3) := by decide +kernel
theorem dX5_init_70 : decode cX5_init 70 = .ok (.aload_n 0, 1) := by decide +kernel
theorem dX5_init_71 : decode cX5_init 71 = .ok (.new 43, 3) := by decide +kernel
theorem dX5_init_74 : decode cX5_init 74 = .ok (.dup, 1) := by decide +kernel
theorem dX5_init_75 : decode cX5_init 75 = .ok (.invokespecial 45, 3) := by decide +kernel
theorem dX5_init_78 : decode cX5_init 78 = .ok (.putfield 46, 3) := by decide +kernel
theorem dX5_init_81 : decode cX5_init 81 = .ok (.aload_n 0, 1) := by decide +kernel
theorem dX5_init_82 : decode cX5_init 82 = .ok (.iconst 2, 1) := by decide +kernel
theorem dX5_init_83 : decode cX5_init 83 = .ok (.anewarray 7, 3) := by decide +kernel
theorem dX5_init_86 : decode cX5_init 86 = .ok (.putfield 50, 3) := by decide +kernel
theorem dX5_init_89 : decode cX5_init 89 = .ok (.return_, 1) := by decide +kernel
theorem dX5_set_0 : decode cX5_set 0 = .ok (.iload_n 1, 1) := by decide +kernel
theorem dX5_set_1 : decode cX5_set 1 = .ok (.iconst 0, 1) := by decide +kernel
theorem dX5_set_2 : decode cX5_set 2 = .ok (.iconst 4, 1) := by decide +kernel
theorem dX5_set_3 : decode cX5_set 3 = .ok (.invokestatic 54, 3) := by decide +kernel
theorem dX5_set_6 : decode cX5_set 6 = .ok (.ifCond .ne 6, 3) := by decide +kernel
theorem dX5_set_9 : decode cX5_set 9 = .ok (.bipush (-102), 2) := by decide +kernel
theorem dX5_set_11 : decode cX5_set 11 = .ok (.ireturn, 1) := by decide +kernel
theorem dX5_set_12 : decode cX5_set 12 = .ok (.iload_n 2, 1) := by decide +kernel
theorem dX5_set_13 : decode cX5_set 13 = .ok (.getstatic 58, 3) := by decide +kernel
theorem dX5_set_16 : decode cX5_set 16 = .ok (.iload_n 1, 1) := by decide +kernel
theorem dX5_set_17 : decode cX5_set 17 = .ok (.iaload, 1) := by decide +kernel
theorem dX5_set_18 : decode cX5_set 18 = .ok (.getstatic 62, 3) := by decide +kernel
theorem dX5_set_21 : decode cX5_set 21 = .ok (.iload_n 1, 1) := by decide +kernel
theorem dX5_set_22 : decode cX5_set 22 = .ok (.iaload, 1) := by decide +kernel
theorem dX5_set_23 : decode cX5_set 23 = .ok (.invokestatic 54, 3) := by decide +kernel
theorem dX5_set_26 : decode cX5_set 26 = .ok (.ifCond .ne 6, 3) := by decide +kernel
theorem dX5_set_29 : decode cX5_set 29 = .ok (.bipush (-102), 2) := by decide +kernel
theorem dX5_set_31 : decode cX5_set 31 = .ok (.ireturn, 1) := by decide +kernel
theorem dX5_set_32 : decode cX5_set 32 = .ok (.aload_n 0, 1) := by decide +kernel
theorem dX5_set_33 : decode cX5_set 33 = .ok (.getfield 10, 3) := by decide +kernel
theorem dX5_set_36 : decode cX5_set 36 = .ok (.getfield 65, 3) := by decide +kernel
theorem dX5_set_39 : decode cX5_set 39 = .ok (.iload_n 1, 1) := by decide +kernel
theorem dX5_set_40 : decode cX5_set 40 = .ok (.iaload, 1) := by decide +kernel
theorem dX5_set_41 : decode cX5_set 41 = .ok (.istore_n 3, 1) := by decide +kernel
theorem dX5_set_42 : decode cX5_set 42 = .ok (.aload_n 0, 1) := by decide +kernel
theorem dX5_set_43 : decode cX5_set 43 = .ok (.getfield 46, 3) := by decide +kernel
theorem dX5_set_46 : decode cX5_set 46 = .ok (.aload_n 0, 1) := by decide +kernel
theorem dX5_set_47 : decode cX5_set 47 = .ok (.getfield 10, 3) := by decide +kernel
theorem dX5_set_50 : decode cX5_set 50 = .ok (.invokevirtual 68, 3) := by decide +kernel
theorem dX5_set_53 : decode cX5_set 53 = .ok (.aload_n 0, 1) := by decide +kernel
theorem dX5_set_54 : decode cX5_set 54 = .ok (.getfield 10, 3) := by decide +kernel
theorem dX5_set_57 : decode cX5_set 57 = .ok (.getfield 65, 3) := by decide +kernel
theorem dX5_set_60 : decode cX5_set 60 = .ok (.iload_n 1, 1) := by decide +kernel
theorem dX5_set_61 : decode cX5_set 61 = .ok (.iload_n 2, 1) := by decide +kernel
theorem dX5_set_62 : decode cX5_set 62 = .ok (.iastore, 1) := by decide +kernel
theorem dX5_set_63 : decode cX5_set 63 = .ok (.aload_n 0, 1) := by decide +kernel
theorem dX5_set_64 : decode cX5_set 64 = .ok (.getfield 19, 3) := by decide +kernel
theorem dX5_set_67 : decode cX5_set 67 = .ok (.aload_n 0, 1) := by decide +kernel
theorem dX5_set_68 : decode cX5_set 68 = .ok (.getfield 10, 3) := by decide +kernel
theorem dX5_set_71 : decode cX5_set 71 = .ok (.invokevirtual 72, 3) := by decide +kernel
theorem dX5_set_74 : decode cX5_set 74 = .ok (.iload_n 3, 1) := by decide +kernel
theorem dX5_set_75 : decode cX5_set 75 = .ok (.ireturn, 1) := by decide +kernel
theorem dX5_land_0 : decode cX5_land 0 = .ok (.iload_n 1, 1) := by decide +kernel
theorem dX5_land_1 : decode cX5_land 1 = .ok (.invokestatic 75, 3) := by decide +kernel
theorem dX5_land_4 : decode cX5_land 4 = .ok (.ifCond .ne 6, 3) := by decide +kernel
theorem dX5_land_7 : decode cX5_land 7 = .ok (.bipush (-101), 2) := by decide +kernel
theorem dX5_land_9 : decode cX5_land 9 = .ok (.ireturn, 1) := by decide +kernel
theorem dX5_land_10 : decode cX5_land 10 = .ok (.iload_n 2, 1) := by decide +kernel
theorem dX5_land_11 : decode cX5_land 11 = .ok (.iconst 0, 1) := by decide +kernel
theorem dX5_land_12 : decode cX5_land 12 = .ok (.sipush 1200, 3) := by decide +kernel
theorem dX5_land_15 : decode cX5_land 15 = .ok (.invokestatic 54, 3) := by decide +kernel
theorem dX5_land_18 : decode cX5_land 18 = .ok (.ifCond .ne 6, 3) := by decide +kernel
theorem dX5_land_21 : decode cX5_land 21 = .ok (.bipush (-102), 2) := by decide +kernel
theorem dX5_land_23 : decode cX5_land 23 = .ok (.ireturn, 1) := by decide +kernel
theorem dX5_land_24 : decode cX5_land 24 = .ok (.aload_n 0, 1) := by decide +kernel
theorem dX5_land_25 : decode cX5_land 25 = .ok (.getfield 10, 3) := by decide +kernel
theorem dX5_land_28 : decode cX5_land 28 = .ok (.getfield 79, 3) := by decide +kernel
theorem dX5_land_31 : decode cX5_land 31 = .ok (.iload_n 1, 1) := by decide +kernel
theorem dX5_land_32 : decode cX5_land 32 = .ok (.iaload, 1) := by decide +kernel
theorem dX5_land_33 : decode cX5_land 33 = .ok (.istore_n 3, 1) := by decide +kernel
theorem dX5_land_34 : decode cX5_land 34 = .ok (.aload_n 0, 1) := by decide +kernel
theorem dX5_land_35 : decode cX5_land 35 = .ok (.getfield 46, 3) := by decide +kernel
theorem dX5_land_38 : decode cX5_land 38 = .ok (.aload_n 0, 1) := by decide +kernel
theorem dX5_land_39 : decode cX5_land 39 = .ok (.getfield 10, 3) := by decide +kernel
theorem dX5_land_42 : decode cX5_land 42 = .ok (.invokevirtual 68, 3) := by decide +kernel
theorem dX5_land_45 : decode cX5_land 45 = .ok (.aload_n 0, 1) := by decide +kernel
theorem dX5_land_46 : decode cX5_land 46 = .ok (.getfield 10, 3) := by decide +kernel
theorem dX5_land_49 : decode cX5_land 49 = .ok (.getfield 79, 3) := by decide +kernel
theorem dX5_land_52 : decode cX5_land 52 = .ok (.iload_n 1, 1) := by decide +kernel
theorem dX5_land_53 : decode cX5_land 53 = .ok (.iload_n 2, 1) := by decide +kernel
theorem dX5_land_54 : decode cX5_land 54 = .ok (.iastore, 1) := by decide +kernel
theorem dX5_land_55 : decode cX5_land 55 = .ok (.aload_n 0, 1) := by decide +kernel
theorem dX5_land_56 : decode cX5_land 56 = .ok (.getfield 19, 3) := by decide +kernel
theorem dX5_land_59 : decode cX5_land 59 = .ok (.aload_n 0, 1) := by decide +kernel
theorem dX5_land_60 : decode cX5_land 60 = .ok (.getfield 10, 3) := by decide +kernel
theorem dX5_land_63 : decode cX5_land 63 = .ok (.invokevirtual 72, 3) := by decide +kernel
theorem dX5_land_66 : decode cX5_land 66 = .ok (.iload_n 3, 1) := by decide +kernel
theorem dX5_land_67 : decode cX5_land 67 = .ok (.ireturn, 1) := by decide +kernel
theorem dX5_delay_0 : decode cX5_delay 0 = .ok (.iload_n 1, 1) := by decide +kernel
theorem dX5_delay_1 : decode cX5_delay 1 = .ok (.invokestatic 75, 3) := by decide +kernel
theorem dX5_delay_4 : decode cX5_delay 4 = .ok (.ifCond .ne 6, 3) := by decide +kernel
theorem dX5_delay_7 : decode cX5_delay 7 = .ok (.bipush (-101), 2) := by decide +kernel
theorem dX5_delay_9 : decode cX5_delay 9 = .ok (.ireturn, 1) := by decide +kernel
theorem dX5_delay_10 : decode cX5_delay 10 = .ok (.iload_n 2, 1) := by decide +kernel
theorem dX5_delay_11 : decode cX5_delay 11 = .ok (.invokestatic 82, 3) := by decide +kernel
theorem dX5_delay_14 : decode cX5_delay 14 = .ok (.ifCond .ne 6, 3) := by decide +kernel
theorem dX5_delay_17 : decode cX5_delay 17 = .ok (.bipush (-102), 2) := by decide +kernel
theorem dX5_delay_19 : decode cX5_delay 19 = .ok (.ireturn, 1) := by decide +kernel
theorem dX5_delay_20 : decode cX5_delay 20 = .ok (.aload_n 0, 1) := by decide +kernel
theorem dX5_delay_21 : decode cX5_delay 21 = .ok (.getfield 46, 3) := by decide +kernel
theorem dX5_delay_24 : decode cX5_delay 24 = .ok (.aload_n 0, 1) := by decide +kernel
theorem dX5_delay_25 : decode cX5_delay 25 = .ok (.getfield 10, 3) := by decide +kernel
theorem dX5_delay_28 : decode cX5_delay 28 = .ok (.invokevirtual 68, 3) := by decide +kernel
theorem dX5_delay_31 : decode cX5_delay 31 = .ok (.aload_n 0, 1) := by decide +kernel
theorem dX5_delay_32 : decode cX5_delay 32 = .ok (.getfield 10, 3) := by decide +kernel
theorem dX5_delay_35 : decode cX5_delay 35 = .ok (.getfield 85, 3) := by decide +kernel
theorem dX5_delay_38 : decode cX5_delay 38 = .ok (.iload_n 1, 1) := by decide +kernel
theorem dX5_delay_39 : decode cX5_delay 39 = .ok (.iload_n 2, 1) := by decide +kernel
theorem dX5_delay_40 : decode cX5_delay 40 = .ok (.iastore, 1) := by decide +kernel
theorem dX5_delay_41 : decode cX5_delay 41 = .ok (.aload_n 0, 1) := by decide +kernel
theorem dX5_delay_42 : decode cX5_delay 42 = .ok (.getfield 19, 3) := by decide +kernel
theorem dX5_delay_45 : decode cX5_delay 45 = .ok (.aload_n 0, 1) := by decide +kernel
theorem dX5_delay_46 : decode cX5_delay 46 = .ok (.getfield 10, 3) := by decide +kernel
theorem dX5_delay_49 : decode cX5_delay 49 = .ok (.invokevirtual 72, 3) := by decide +kernel
theorem dX5_delay_52 : decode cX5_delay 52 = .ok (.aload_n 0, 1) := by decide +kernel
theorem dX5_delay_53 : decode cX5_delay 53 = .ok (.getfield 10, 3) := by decide +kernel
theorem dX5_delay_56 : decode cX5_delay 56 = .ok (.iload_n 1, 1) := by decide +kernel
theorem dX5_delay_57 : decode cX5_delay 57 = .ok (.invokevirtual 88, 3) := by decide +kernel
theorem dX5_delay_60 : decode cX5_delay 60 = .ok (.ireturn, 1) := by decide +kernel
theorem dX5_van_0 : decode cX5_van 0 = .ok (.iload_n 1, 1) := by decide +kernel
theorem dX5_van_1 : decode cX5_van 1 = .ok (.invokestatic 92, 3) := by decide +kernel
theorem dX5_van_4 : decode cX5_van 4 = .ok (.ifCond .ne 6, 3) := by decide +kernel
theorem dX5_van_7 : decode cX5_van 7 = .ok (.bipush (-101), 2) := by decide +kernel
theorem dX5_van_9 : decode cX5_van 9 = .ok (.ireturn, 1) := by decide +kernel
theorem dX5_van_10 : decode cX5_van 10 = .ok (.iload_n 2, 1) := by decide +kernel
theorem dX5_van_11 : decode cX5_van 11 = .ok (.iconst 0, 1) := by decide +kernel
theorem dX5_van_12 : decode cX5_van 12 = .ok (.sipush 1500, 3) := by decide +kernel
theorem dX5_van_15 : decode cX5_van 15 = .ok (.invokestatic 54, 3) := by decide +kernel
theorem dX5_van_18 : decode cX5_van 18 = .ok (.ifCond .eq 13, 3) := by decide +kernel
theorem dX5_van_21 : decode cX5_van 21 = .ok (.iload_n 3, 1) := by decide +kernel
theorem dX5_van_22 : decode cX5_van 22 = .ok (.iconst 0, 1) := by decide +kernel
theorem dX5_van_23 : decode cX5_van 23 = .ok (.bipush 12, 2) := by decide +kernel
theorem dX5_van_25 : decode cX5_van 25 = .ok (.invokestatic 54, 3) := by decide +kernel
theorem dX5_van_28 : decode cX5_van 28 = .ok (.ifCond .ne 6, 3) := by decide +kernel
theorem dX5_van_31 : decode cX5_van 31 = .ok (.bipush (-102), 2) := by decide +kernel
theorem dX5_van_33 : decode cX5_van 33 = .ok (.ireturn, 1) := by decide +kernel
theorem dX5_van_34 : decode cX5_van 34 = .ok (.aload_n 0, 1) := by decide +kernel
theorem dX5_van_35 : decode cX5_van 35 = .ok (.getfield 46, 3) := by decide +kernel
theorem dX5_van_38 : decode cX5_van 38 = .ok (.aload_n 0, 1) := by decide +kernel
theorem dX5_van_39 : decode cX5_van 39 = .ok (.getfield 10, 3) := by decide +kernel
theorem dX5_van_42 : decode cX5_van 42 = .ok (.invokevirtual 68, 3) := by decide +kernel
theorem dX5_van_45 : decode cX5_van 45 = .ok (.aload_n 0, 1) := by decide +kernel
theorem dX5_van_46 : decode cX5_van 46 = .ok (.getfield 10, 3) := by decide +kernel
theorem dX5_van_49 : decode cX5_van 49 = .ok (.getfield 95, 3) := by decide +kernel
theorem dX5_van_52 : decode cX5_van 52 = .ok (.iload_n 1, 1) := by decide +kernel
theorem dX5_van_53 : decode cX5_van 53 = .ok (.iload_n 2, 1) := by decide +kernel
theorem dX5_van_54 : decode cX5_van 54 = .ok (.iastore, 1) := by decide +kernel
theorem dX5_van_55 : decode cX5_van 55 = .ok (.aload_n 0, 1) := by decide +kernel
theorem dX5_van_56 : decode cX5_van 56 = .ok (.getfield 10, 3) := by decide +kernel
theorem dX5_van_59 : decode cX5_van 59 = .ok (.getfield 98, 3) := by decide +kernel
theorem dX5_van_62 : decode cX5_van 62 = .ok (.iload_n 1, 1) := by decide +kernel
theorem dX5_van_63 : decode cX5_van 63 = .ok (.iload_n 3, 1) := by decide +kernel
theorem dX5_van_64 : decode cX5_van 64 = .ok (.iastore, 1) := by decide +kernel
theorem dX5_van_65 : decode cX5_van 65 = .ok (.aload_n 0, 1) := by decide +kernel
theorem dX5_van_66 : decode cX5_van 66 = .ok (.getfield 19, 3) := by decide +kernel
theorem dX5_van_69 : decode cX5_van 69 = .ok (.aload_n 0, 1) := by decide +kernel
theorem dX5_van_70 : decode cX5_van 70 = .ok (.getfield 10, 3) := by decide +kernel
theorem dX5_van_73 : decode cX5_van 73 = .ok (.invokevirtual 72, 3) := by decide +kernel
theorem dX5_van_76 : decode cX5_van 76 = .ok (.aload_n 0, 1) := by decide +kernel
theorem dX5_van_77 : decode cX5_van 77 = .ok (.getfield 19, 3) := by decide +kernel
theorem dX5_van_80 : decode cX5_van 80 = .ok (.getfield 101, 3) := by decide +kernel
theorem dX5_van_83 : decode cX5_van 83 = .ok (.ireturn, 1) := by decide +kernel
theorem dX5_ride_0 : decode cX5_ride 0 = .ok (.iload_n 1, 1) := by decide +kernel
theorem dX5_ride_1 : decode cX5_ride 1 = .ok (.invokestatic 75, 3) := by decide +kernel
theorem dX5_ride_4 : decode cX5_ride 4 = .ok (.ifCond .eq 12, 3) := by decide +kernel
theorem dX5_ride_7 : decode cX5_ride 7 = .ok (.iload_n 2, 1) := by decide +kernel
theorem dX5_ride_8 : decode cX5_ride 8 = .ok (.iconst 0, 1) := by decide +kernel
theorem dX5_ride_9 : decode cX5_ride 9 = .ok (.iconst 5, 1) := by decide +kernel
theorem dX5_ride_10 : decode cX5_ride 10 = .ok (.invokestatic 54, 3) := by decide +kernel
theorem dX5_ride_13 : decode cX5_ride 13 = .ok (.ifCond .ne 6, 3) := by decide +kernel
theorem dX5_ride_16 : decode cX5_ride 16 = .ok (.bipush (-101), 2) := by decide +kernel
theorem dX5_ride_18 : decode cX5_ride 18 = .ok (.ireturn, 1) := by decide +kernel
theorem dX5_ride_19 : decode cX5_ride 19 = .ok (.iload_n 3, 1) := by decide +kernel
theorem dX5_ride_20 : decode cX5_ride 20 = .ok (.iconst 0, 1) := by decide +kernel
theorem dX5_ride_21 : decode cX5_ride 21 = .ok (.bipush 99, 2) := by decide +kernel
theorem dX5_ride_23 : decode cX5_ride 23 = .ok (.invokestatic 54, 3) := by decide +kernel
theorem dX5_ride_26 : decode cX5_ride 26 = .ok (.ifCond .eq 13, 3) := by decide +kernel
theorem dX5_ride_29 : decode cX5_ride 29 = .ok (.iload 4, 2) := by decide +kernel
theorem dX5_ride_31 : decode cX5_ride 31 = .ok (.iconst 1, 1) := by decide +kernel
theorem dX5_ride_32 : decode cX5_ride 32 = .ok (.iconst 4, 1) := by decide +kernel
theorem dX5_ride_33 : decode cX5_ride 33 = .ok (.invokestatic 54, 3) := by decide +kernel
theorem dX5_ride_36 : decode cX5_ride 36 = .ok (.ifCond .ne 6, 3) := by decide +kernel
theorem dX5_ride_39 : decode cX5_ride 39 = .ok (.bipush (-102), 2) := by decide +kernel
theorem dX5_ride_41 : decode cX5_ride 41 = .ok (.ireturn, 1) := by decide +kernel
theorem dX5_ride_42 : decode cX5_ride 42 = .ok (.aload_n 0, 1) := by decide +kernel
theorem dX5_ride_43 : decode cX5_ride 43 = .ok (.getfield 10, 3) := by decide +kernel
theorem dX5_ride_46 : decode cX5_ride 46 = .ok (.getfield 105, 3) := by decide +kernel
theorem dX5_ride_49 : decode cX5_ride 49 = .ok (.bipush 24, 2) := by decide +kernel
theorem dX5_ride_51 : decode cX5_ride 51 = .ok (.if_icmp .lt 6, 3) := by decide +kernel
theorem dX5_ride_54 : decode cX5_ride 54 = .ok (.bipush (-104), 2) := by decide +kernel
theorem dX5_ride_56 : decode cX5_ride 56 = .ok (.ireturn, 1) := by decide +kernel
theorem dX5_ride_57 : decode cX5_ride 57 = .ok (.aload_n 0, 1) := by decide +kernel
theorem dX5_ride_58 : decode cX5_ride 58 = .ok (.getfield 46, 3) := by decide +kernel
theorem dX5_ride_61 : decode cX5_ride 61 = .ok (.aload_n 0, 1) := by decide +kernel
theorem dX5_ride_62 : decode cX5_ride 62 = .ok (.getfield 10, 3) := by decide +kernel
theorem dX5_ride_65 : decode cX5_ride 65 = .ok (.invokevirtual 68, 3) := by decide +kernel
theorem dX5_ride_68 : decode cX5_ride 68 = .ok (.aload_n 0, 1) := by decide +kernel
theorem dX5_ride_69 : decode cX5_ride 69 = .ok (.getfield 10, 3) := by decide +kernel
theorem dX5_ride_72 : decode cX5_ride 72 = .ok (.iload_n 1, 1) := by decide +kernel
theorem dX5_ride_73 : decode cX5_ride 73 = .ok (.iload_n 2, 1) := by decide +kernel
theorem dX5_ride_74 : decode cX5_ride 74 = .ok (.iload_n 3, 1) := by decide +kernel
theorem dX5_ride_75 : decode cX5_ride 75 = .ok (.iload 4, 2) := by decide +kernel
theorem dX5_ride_77 : decode cX5_ride 77 = .ok (.invokevirtual 108, 3) := by decide +kernel
theorem dX5_ride_80 : decode cX5_ride 80 = .ok (.aload_n 0, 1) := by decide +kernel
theorem dX5_ride_81 : decode cX5_ride 81 = .ok (.getfield 19, 3) := by decide +kernel
theorem dX5_ride_84 : decode cX5_ride 84 = .ok (.aload_n 0, 1) := by decide +kernel
theorem dX5_ride_85 : decode cX5_ride 85 = .ok (.getfield 10, 3) := by decide +kernel
theorem dX5_ride_88 : decode cX5_ride 88 = .ok (.invokevirtual 72, 3) := by decide +kernel
theorem dX5_ride_91 : decode cX5_ride 91 = .ok (.aload_n 0, 1) := by decide +kernel
theorem dX5_ride_92 : decode cX5_ride 92 = .ok (.getfield 10, 3) := by decide +kernel
theorem dX5_ride_95 : decode cX5_ride 95 = .ok (.getfield 105, 3) := by decide +kernel
theorem dX5_ride_98 : decode cX5_ride 98 = .ok (.iconst 1, 1) := by decide +kernel
theorem dX5_ride_99 : decode cX5_ride 99 = .ok (.isub, 1) := by decide +kernel
theorem dX5_ride_100 : decode cX5_ride 100 = .ok (.ireturn, 1) := by decide +kernel
theorem dX5_read_0 : decode cX5_read 0 = .ok (.aload_n 0, 1) := by decide +kernel
theorem dX5_read_1 : decode cX5_read 1 = .ok (.getfield 39, 3) := by decide +kernel
theorem dX5_read_4 : decode cX5_read 4 = .ok (.invokevirtual 112, 3) := by decide +kernel
theorem dX5_read_7 : decode cX5_read 7 = .ok (.bipush (-106), 2) := by decide +kernel
theorem dX5_read_9 : decode cX5_read 9 = .ok (.if_icmp .eq 6, 3) := by decide +kernel
theorem dX5_read_12 : decode cX5_read 12 = .ok (.bipush (-103), 2) := by decide +kernel
theorem dX5_read_14 : decode cX5_read 14 = .ok (.ireturn, 1) := by decide +kernel
theorem dX5_read_15 : decode cX5_read 15 = .ok (.aload_n 0, 1) := by decide +kernel
theorem dX5_read_16 : decode cX5_read 16 = .ok (.getfield 10, 3) := by decide +kernel
theorem dX5_read_19 : decode cX5_read 19 = .ok (.getfield 105, 3) := by decide +kernel
theorem dX5_read_22 : decode cX5_read 22 = .ok (.aload_n 0, 1) := by decide +kernel
theorem dX5_read_23 : decode cX5_read 23 = .ok (.getfield 39, 3) := by decide +kernel
theorem dX5_read_26 : decode cX5_read 26 = .ok (.invokevirtual 116, 3) := by decide +kernel
theorem dX5_read_29 : decode cX5_read 29 = .ok (.iadd, 1) := by decide +kernel
theorem dX5_read_30 : decode cX5_read 30 = .ok (.bipush 24, 2) := by decide +kernel
theorem dX5_read_32 : decode cX5_read 32 = .ok (.if_icmp .le 6, 3) := by decide +kernel
theorem dX5_read_35 : decode cX5_read 35 = .ok (.bipush (-104), 2) := by decide +kernel
theorem dX5_read_37 : decode cX5_read 37 = .ok (.ireturn, 1) := by decide +kernel
theorem dX5_read_38 : decode cX5_read 38 = .ok (.aload_n 0, 1) := by decide +kernel
theorem dX5_read_39 : decode cX5_read 39 = .ok (.getfield 46, 3) := by decide +kernel
theorem dX5_read_42 : decode cX5_read 42 = .ok (.aload_n 0, 1) := by decide +kernel
theorem dX5_read_43 : decode cX5_read 43 = .ok (.getfield 10, 3) := by decide +kernel
theorem dX5_read_46 : decode cX5_read 46 = .ok (.invokevirtual 68, 3) := by decide +kernel
theorem dX5_read_49 : decode cX5_read 49 = .ok (.aload_n 0, 1) := by decide +kernel
theorem dX5_read_50 : decode cX5_read 50 = .ok (.getfield 39, 3) := by decide +kernel
theorem dX5_read_53 : decode cX5_read 53 = .ok (.aload_n 0, 1) := by decide +kernel
theorem dX5_read_54 : decode cX5_read 54 = .ok (.getfield 10, 3) := by decide +kernel
theorem dX5_read_57 : decode cX5_read 57 = .ok (.invokevirtual 119, 3) := by decide +kernel
theorem dX5_read_60 : decode cX5_read 60 = .ok (.aload_n 0, 1) := by decide +kernel
theorem dX5_read_61 : decode cX5_read 61 = .ok (.getfield 39, 3) := by decide +kernel
theorem dX5_read_64 : decode cX5_read 64 = .ok (.iconst 0, 1) := by decide +kernel
theorem dX5_read_65 : decode cX5_read 65 = .ok (.putfield 122, 3) := by decide +kernel
theorem dX5_read_68 : decode cX5_read 68 = .ok (.aload_n 0, 1) := by decide +kernel
theorem dX5_read_69 : decode cX5_read 69 = .ok (.getfield 19, 3) := by decide +kernel
theorem dX5_read_72 : decode cX5_read 72 = .ok (.aload_n 0, 1) := by decide +kernel
theorem dX5_read_73 : decode cX5_read 73 = .ok (.getfield 10, 3) := by decide +kernel
theorem dX5_read_76 : decode cX5_read 76 = .ok (.invokevirtual 72, 3) := by decide +kernel
theorem dX5_read_79 : decode cX5_read 79 = .ok (.aload_n 0, 1) := by decide +kernel
theorem dX5_read_80 : decode cX5_read 80 = .ok (.getfield 10, 3) := by decide +kernel
theorem dX5_read_83 : decode cX5_read 83 = .ok (.getfield 105, 3) := by decide +kernel
theorem dX5_read_86 : decode cX5_read 86 = .ok (.ireturn, 1) := by decide +kernel
theorem dX5_cancel_0 : decode cX5_cancel 0 = .ok (.aload_n 0, 1) := by decide +kernel
theorem dX5_cancel_1 : decode cX5_cancel 1 = .ok (.iload_n 1, 1) := by decide +kernel
theorem dX5_cancel_2 : decode cX5_cancel 2 = .ok (.invokevirtual 125, 3) := by decide +kernel
theorem dX5_cancel_5 : decode cX5_cancel 5 = .ok (.ifCond .ne 6, 3) := by decide +kernel
theorem dX5_cancel_8 : decode cX5_cancel 8 = .ok (.bipush (-101), 2) := by decide +kernel
theorem dX5_cancel_10 : decode cX5_cancel 10 = .ok (.ireturn, 1) := by decide +kernel
theorem dX5_cancel_11 : decode cX5_cancel 11 = .ok (.aload_n 0, 1) := by decide +kernel
theorem dX5_cancel_12 : decode cX5_cancel 12 = .ok (.getfield 19, 3) := by decide +kernel
theorem dX5_cancel_15 : decode cX5_cancel 15 = .ok (.aload_n 0, 1) := by decide +kernel
theorem dX5_cancel_16 : decode cX5_cancel 16 = .ok (.getfield 10, 3) := by decide +kernel
theorem dX5_cancel_19 : decode cX5_cancel 19 = .ok (.iload_n 1, 1) := by decide +kernel
theorem dX5_cancel_20 : decode cX5_cancel 20 = .ok (.invokevirtual 128, 3) := by decide +kernel
theorem dX5_cancel_23 : decode cX5_cancel 23 = .ok (.istore_n 2, 1) := by decide +kernel
theorem dX5_cancel_24 : decode cX5_cancel 24 = .ok (.aload_n 0, 1) := by decide +kernel
theorem dX5_cancel_25 : decode cX5_cancel 25 = .ok (.getfield 46, 3) := by decide +kernel
theorem dX5_cancel_28 : decode cX5_cancel 28 = .ok (.aload_n 0, 1) := by decide +kernel
theorem dX5_cancel_29 : decode cX5_cancel 29 = .ok (.getfield 10, 3) := by decide +kernel
theorem dX5_cancel_32 : decode cX5_cancel 32 = .ok (.invokevirtual 68, 3) := by decide +kernel
theorem dX5_cancel_35 : decode cX5_cancel 35 = .ok (.aload_n 0, 1) := by decide +kernel
theorem dX5_cancel_36 : decode cX5_cancel 36 = .ok (.getfield 10, 3) := by decide +kernel
theorem dX5_cancel_39 : decode cX5_cancel 39 = .ok (.iload_n 1, 1) := by decide +kernel
theorem dX5_cancel_40 : decode cX5_cancel 40 = .ok (.invokevirtual 132, 3) := by decide +kernel
theorem dX5_cancel_43 : decode cX5_cancel 43 = .ok (.aload_n 0, 1) := by decide +kernel
theorem dX5_cancel_44 : decode cX5_cancel 44 = .ok (.getfield 19, 3) := by decide +kernel
theorem dX5_cancel_47 : decode cX5_cancel 47 = .ok (.aload_n 0, 1) := by decide +kernel
theorem dX5_cancel_48 : decode cX5_cancel 48 = .ok (.getfield 10, 3) := by decide +kernel
theorem dX5_cancel_51 : decode cX5_cancel 51 = .ok (.invokevirtual 72, 3) := by decide +kernel
theorem dX5_cancel_54 : decode cX5_cancel 54 = .ok (.iload_n 2, 1) := by decide +kernel
theorem dX5_cancel_55 : decode cX5_cancel 55 = .ok (.ireturn, 1) := by decide +kernel
theorem dX5_rebook_0 : decode cX5_rebook 0 = .ok (.aload_n 0, 1) := by decide +kernel
theorem dX5_rebook_1 : decode cX5_rebook 1 = .ok (.iload_n 1, 1) := by decide +kernel
theorem dX5_rebook_2 : decode cX5_rebook 2 = .ok (.invokevirtual 125, 3) := by decide +kernel
theorem dX5_rebook_5 : decode cX5_rebook 5 = .ok (.ifCond .eq 10, 3) := by decide +kernel
theorem dX5_rebook_8 : decode cX5_rebook 8 = .ok (.iload_n 2, 1) := by decide +kernel
theorem dX5_rebook_9 : decode cX5_rebook 9 = .ok (.invokestatic 75, 3) := by decide +kernel
theorem dX5_rebook_12 : decode cX5_rebook 12 = .ok (.ifCond .ne 6, 3) := by decide +kernel
theorem dX5_rebook_15 : decode cX5_rebook 15 = .ok (.bipush (-101), 2) := by decide +kernel
theorem dX5_rebook_17 : decode cX5_rebook 17 = .ok (.ireturn, 1) := by decide +kernel
theorem dX5_rebook_18 : decode cX5_rebook 18 = .ok (.aload_n 0, 1) := by decide +kernel
theorem dX5_rebook_19 : decode cX5_rebook 19 = .ok (.getfield 10, 3) := by decide +kernel
theorem dX5_rebook_22 : decode cX5_rebook 22 = .ok (.getfield 136, 3) := by decide +kernel
theorem dX5_rebook_25 : decode cX5_rebook 25 = .ok (.iload_n 1, 1) := by decide +kernel
theorem dX5_rebook_26 : decode cX5_rebook 26 = .ok (.iaload, 1) := by decide +kernel
theorem dX5_rebook_27 : decode cX5_rebook 27 = .ok (.iload_n 2, 1) := by decide +kernel
theorem dX5_rebook_28 : decode cX5_rebook 28 = .ok (.if_icmp .ne 6, 3) := by decide +kernel
theorem dX5_rebook_31 : decode cX5_rebook 31 = .ok (.bipush (-105), 2) := by decide +kernel
theorem dX5_rebook_33 : decode cX5_rebook 33 = .ok (.ireturn, 1) := by decide +kernel
theorem dX5_rebook_34 : decode cX5_rebook 34 = .ok (.aload_n 0, 1) := by decide +kernel
theorem dX5_rebook_35 : decode cX5_rebook 35 = .ok (.getfield 46, 3) := by decide +kernel
theorem dX5_rebook_38 : decode cX5_rebook 38 = .ok (.aload_n 0, 1) := by decide +kernel
theorem dX5_rebook_39 : decode cX5_rebook 39 = .ok (.getfield 10, 3) := by decide +kernel
theorem dX5_rebook_42 : decode cX5_rebook 42 = .ok (.invokevirtual 68, 3) := by decide +kernel
theorem dX5_rebook_45 : decode cX5_rebook 45 = .ok (.aload_n 0, 1) := by decide +kernel
theorem dX5_rebook_46 : decode cX5_rebook 46 = .ok (.getfield 10, 3) := by decide +kernel
theorem dX5_rebook_49 : decode cX5_rebook 49 = .ok (.getfield 136, 3) := by decide +kernel
theorem dX5_rebook_52 : decode cX5_rebook 52 = .ok (.iload_n 1, 1) := by decide +kernel
theorem dX5_rebook_53 : decode cX5_rebook 53 = .ok (.iload_n 2, 1) := by decide +kernel
theorem dX5_rebook_54 : decode cX5_rebook 54 = .ok (.iastore, 1) := by decide +kernel
theorem dX5_rebook_55 : decode cX5_rebook 55 = .ok (.aload_n 0, 1) := by decide +kernel
theorem dX5_rebook_56 : decode cX5_rebook 56 = .ok (.getfield 19, 3) := by decide +kernel
theorem dX5_rebook_59 : decode cX5_rebook 59 = .ok (.aload_n 0, 1) := by decide +kernel
theorem dX5_rebook_60 : decode cX5_rebook 60 = .ok (.getfield 10, 3) := by decide +kernel
theorem dX5_rebook_63 : decode cX5_rebook 63 = .ok (.invokevirtual 72, 3) := by decide +kernel
theorem dX5_rebook_66 : decode cX5_rebook 66 = .ok (.aload_n 0, 1) := by decide +kernel
theorem dX5_rebook_67 : decode cX5_rebook 67 = .ok (.getfield 19, 3) := by decide +kernel
theorem dX5_rebook_70 : decode cX5_rebook 70 = .ok (.getfield 139, 3) := by decide +kernel
theorem dX5_rebook_73 : decode cX5_rebook 73 = .ok (.iload_n 1, 1) := by decide +kernel
theorem dX5_rebook_74 : decode cX5_rebook 74 = .ok (.iaload, 1) := by decide +kernel
theorem dX5_rebook_75 : decode cX5_rebook 75 = .ok (.ireturn, 1) := by decide +kernel
theorem dX5_rider_0 : decode cX5_rider 0 = .ok (.aload_n 0, 1) := by decide +kernel
theorem dX5_rider_1 : decode cX5_rider 1 = .ok (.iload_n 1, 1) := by decide +kernel
theorem dX5_rider_2 : decode cX5_rider 2 = .ok (.invokevirtual 125, 3) := by decide +kernel
theorem dX5_rider_5 : decode cX5_rider 5 = .ok (.ifCond .ne 6, 3) := by decide +kernel
theorem dX5_rider_8 : decode cX5_rider 8 = .ok (.bipush (-101), 2) := by decide +kernel
theorem dX5_rider_10 : decode cX5_rider 10 = .ok (.ireturn, 1) := by decide +kernel
theorem dX5_rider_11 : decode cX5_rider 11 = .ok (.iload_n 2, 1) := by decide +kernel
theorem dX5_rider_12 : decode cX5_rider 12 = .ok (.tableswitch 160 0 9 #[56, 66, 76, 86, 96, 105, 115, 128, 134, 147], 56) := by decide +kernel
theorem dX5_rider_68 : decode cX5_rider 68 = .ok (.aload_n 0, 1) := by decide +kernel
theorem dX5_rider_69 : decode cX5_rider 69 = .ok (.getfield 10, 3) := by decide +kernel
theorem dX5_rider_72 : decode cX5_rider 72 = .ok (.getfield 136, 3) := by decide +kernel
theorem dX5_rider_75 : decode cX5_rider 75 = .ok (.iload_n 1, 1) := by decide +kernel
theorem dX5_rider_76 : decode cX5_rider 76 = .ok (.iaload, 1) := by decide +kernel
theorem dX5_rider_77 : decode cX5_rider 77 = .ok (.ireturn, 1) := by decide +kernel
theorem dX5_rider_78 : decode cX5_rider 78 = .ok (.aload_n 0, 1) := by decide +kernel
theorem dX5_rider_79 : decode cX5_rider 79 = .ok (.getfield 10, 3) := by decide +kernel
theorem dX5_rider_82 : decode cX5_rider 82 = .ok (.getfield 142, 3) := by decide +kernel
theorem dX5_rider_85 : decode cX5_rider 85 = .ok (.iload_n 1, 1) := by decide +kernel
theorem dX5_rider_86 : decode cX5_rider 86 = .ok (.iaload, 1) := by decide +kernel
theorem dX5_rider_87 : decode cX5_rider 87 = .ok (.ireturn, 1) := by decide +kernel
theorem dX5_rider_88 : decode cX5_rider 88 = .ok (.aload_n 0, 1) := by decide +kernel
theorem dX5_rider_89 : decode cX5_rider 89 = .ok (.getfield 10, 3) := by decide +kernel
theorem dX5_rider_92 : decode cX5_rider 92 = .ok (.getfield 145, 3) := by decide +kernel
theorem dX5_rider_95 : decode cX5_rider 95 = .ok (.iload_n 1, 1) := by decide +kernel
theorem dX5_rider_96 : decode cX5_rider 96 = .ok (.iaload, 1) := by decide +kernel
theorem dX5_rider_97 : decode cX5_rider 97 = .ok (.ireturn, 1) := by decide +kernel
theorem dX5_rider_98 : decode cX5_rider 98 = .ok (.aload_n 0, 1) := by decide +kernel
theorem dX5_rider_99 : decode cX5_rider 99 = .ok (.getfield 10, 3) := by decide +kernel
theorem dX5_rider_102 : decode cX5_rider 102 = .ok (.getfield 148, 3) := by decide +kernel
theorem dX5_rider_105 : decode cX5_rider 105 = .ok (.iload_n 1, 1) := by decide +kernel
theorem dX5_rider_106 : decode cX5_rider 106 = .ok (.iaload, 1) := by decide +kernel
theorem dX5_rider_107 : decode cX5_rider 107 = .ok (.ireturn, 1) := by decide +kernel
theorem dX5_rider_108 : decode cX5_rider 108 = .ok (.aload_n 0, 1) := by decide +kernel
theorem dX5_rider_109 : decode cX5_rider 109 = .ok (.getfield 10, 3) := by decide +kernel
theorem dX5_rider_112 : decode cX5_rider 112 = .ok (.iload_n 1, 1) := by decide +kernel
theorem dX5_rider_113 : decode cX5_rider 113 = .ok (.invokevirtual 151, 3) := by decide +kernel
theorem dX5_rider_116 : decode cX5_rider 116 = .ok (.ireturn, 1) := by decide +kernel
theorem dX5_rider_117 : decode cX5_rider 117 = .ok (.aload_n 0, 1) := by decide +kernel
theorem dX5_rider_118 : decode cX5_rider 118 = .ok (.getfield 19, 3) := by decide +kernel
theorem dX5_rider_121 : decode cX5_rider 121 = .ok (.getfield 139, 3) := by decide +kernel
theorem dX5_rider_124 : decode cX5_rider 124 = .ok (.iload_n 1, 1) := by decide +kernel
theorem dX5_rider_125 : decode cX5_rider 125 = .ok (.iaload, 1) := by decide +kernel
theorem dX5_rider_126 : decode cX5_rider 126 = .ok (.ireturn, 1) := by decide +kernel
theorem dX5_rider_127 : decode cX5_rider 127 = .ok (.aload_n 0, 1) := by decide +kernel
theorem dX5_rider_128 : decode cX5_rider 128 = .ok (.getfield 19, 3) := by decide +kernel
theorem dX5_rider_131 : decode cX5_rider 131 = .ok (.aload_n 0, 1) := by decide +kernel
theorem dX5_rider_132 : decode cX5_rider 132 = .ok (.getfield 10, 3) := by decide +kernel
theorem dX5_rider_135 : decode cX5_rider 135 = .ok (.iload_n 1, 1) := by decide +kernel
theorem dX5_rider_136 : decode cX5_rider 136 = .ok (.invokevirtual 154, 3) := by decide +kernel
theorem dX5_rider_139 : decode cX5_rider 139 = .ok (.ireturn, 1) := by decide +kernel
theorem dX5_rider_140 : decode cX5_rider 140 = .ok (.aload_n 0, 1) := by decide +kernel
theorem dX5_rider_141 : decode cX5_rider 141 = .ok (.iload_n 1, 1) := by decide +kernel
theorem dX5_rider_142 : decode cX5_rider 142 = .ok (.invokevirtual 157, 3) := by decide +kernel
theorem dX5_rider_145 : decode cX5_rider 145 = .ok (.ireturn, 1) := by decide +kernel
theorem dX5_rider_146 : decode cX5_rider 146 = .ok (.aload_n 0, 1) := by decide +kernel
theorem dX5_rider_147 : decode cX5_rider 147 = .ok (.getfield 19, 3) := by decide +kernel
theorem dX5_rider_150 : decode cX5_rider 150 = .ok (.aload_n 0, 1) := by decide +kernel
theorem dX5_rider_151 : decode cX5_rider 151 = .ok (.getfield 10, 3) := by decide +kernel
theorem dX5_rider_154 : decode cX5_rider 154 = .ok (.iload_n 1, 1) := by decide +kernel
theorem dX5_rider_155 : decode cX5_rider 155 = .ok (.invokevirtual 128, 3) := by decide +kernel
theorem dX5_rider_158 : decode cX5_rider 158 = .ok (.ireturn, 1) := by decide +kernel
theorem dX5_rider_159 : decode cX5_rider 159 = .ok (.aload_n 0, 1) := by decide +kernel
theorem dX5_rider_160 : decode cX5_rider 160 = .ok (.getfield 19, 3) := by decide +kernel
theorem dX5_rider_163 : decode cX5_rider 163 = .ok (.aload_n 0, 1) := by decide +kernel
theorem dX5_rider_164 : decode cX5_rider 164 = .ok (.getfield 10, 3) := by decide +kernel
theorem dX5_rider_167 : decode cX5_rider 167 = .ok (.iload_n 1, 1) := by decide +kernel
theorem dX5_rider_168 : decode cX5_rider 168 = .ok (.invokevirtual 160, 3) := by decide +kernel
theorem dX5_rider_171 : decode cX5_rider 171 = .ok (.ireturn, 1) := by decide +kernel
theorem dX5_rider_172 : decode cX5_rider 172 = .ok (.bipush (-102), 2) := by decide +kernel
theorem dX5_rider_174 : decode cX5_rider 174 = .ok (.ireturn, 1) := by decide +kernel
theorem dX5_vanOf_0 : decode cX5_vanOf 0 = .ok (.iload_n 1, 1) := by decide +kernel
theorem dX5_vanOf_1 : decode cX5_vanOf 1 = .ok (.invokestatic 92, 3) := by decide +kernel
theorem dX5_vanOf_4 : decode cX5_vanOf 4 = .ok (.ifCond .ne 6, 3) := by decide +kernel
theorem dX5_vanOf_7 : decode cX5_vanOf 7 = .ok (.bipush (-101), 2) := by decide +kernel
theorem dX5_vanOf_9 : decode cX5_vanOf 9 = .ok (.ireturn, 1) := by decide +kernel
theorem dX5_vanOf_10 : decode cX5_vanOf 10 = .ok (.aload_n 0, 1) := by decide +kernel
theorem dX5_vanOf_11 : decode cX5_vanOf 11 = .ok (.getfield 26, 3) := by decide +kernel
theorem dX5_vanOf_14 : decode cX5_vanOf 14 = .ok (.aload_n 0, 1) := by decide +kernel
theorem dX5_vanOf_15 : decode cX5_vanOf 15 = .ok (.getfield 10, 3) := by decide +kernel
theorem dX5_vanOf_18 : decode cX5_vanOf 18 = .ok (.aload_n 0, 1) := by decide +kernel
theorem dX5_vanOf_19 : decode cX5_vanOf 19 = .ok (.getfield 19, 3) := by decide +kernel
theorem dX5_vanOf_22 : decode cX5_vanOf 22 = .ok (.iload_n 1, 1) := by decide +kernel
theorem dX5_vanOf_23 : decode cX5_vanOf 23 = .ok (.invokevirtual 163, 3) := by decide +kernel
theorem dX5_vanOf_26 : decode cX5_vanOf 26 = .ok (.iload_n 2, 1) := by decide +kernel
theorem dX5_vanOf_27 : decode cX5_vanOf 27 = .ok (.tableswitch 127 0 7 #[45, 55, 65, 75, 88, 98, 106, 114], 45) := by decide +kernel
theorem dX5_vanOf_72 : decode cX5_vanOf 72 = .ok (.aload_n 0, 1) := by decide +kernel
theorem dX5_vanOf_73 : decode cX5_vanOf 73 = .ok (.getfield 10, 3) := by decide +kernel
theorem dX5_vanOf_76 : decode cX5_vanOf 76 = .ok (.getfield 95, 3) := by decide +kernel
theorem dX5_vanOf_79 : decode cX5_vanOf 79 = .ok (.iload_n 1, 1) := by decide +kernel
theorem dX5_vanOf_80 : decode cX5_vanOf 80 = .ok (.iaload, 1) := by decide +kernel
theorem dX5_vanOf_81 : decode cX5_vanOf 81 = .ok (.ireturn, 1) := by decide +kernel
theorem dX5_vanOf_82 : decode cX5_vanOf 82 = .ok (.aload_n 0, 1) := by decide +kernel
theorem dX5_vanOf_83 : decode cX5_vanOf 83 = .ok (.getfield 10, 3) := by decide +kernel
theorem dX5_vanOf_86 : decode cX5_vanOf 86 = .ok (.getfield 98, 3) := by decide +kernel
theorem dX5_vanOf_89 : decode cX5_vanOf 89 = .ok (.iload_n 1, 1) := by decide +kernel
theorem dX5_vanOf_90 : decode cX5_vanOf 90 = .ok (.iaload, 1) := by decide +kernel
theorem dX5_vanOf_91 : decode cX5_vanOf 91 = .ok (.ireturn, 1) := by decide +kernel
theorem dX5_vanOf_92 : decode cX5_vanOf 92 = .ok (.aload_n 0, 1) := by decide +kernel
theorem dX5_vanOf_93 : decode cX5_vanOf 93 = .ok (.getfield 19, 3) := by decide +kernel
theorem dX5_vanOf_96 : decode cX5_vanOf 96 = .ok (.getfield 167, 3) := by decide +kernel
theorem dX5_vanOf_99 : decode cX5_vanOf 99 = .ok (.iload_n 1, 1) := by decide +kernel
theorem dX5_vanOf_100 : decode cX5_vanOf 100 = .ok (.iaload, 1) := by decide +kernel
theorem dX5_vanOf_101 : decode cX5_vanOf 101 = .ok (.ireturn, 1) := by decide +kernel
theorem dX5_vanOf_102 : decode cX5_vanOf 102 = .ok (.aload_n 0, 1) := by decide +kernel
theorem dX5_vanOf_103 : decode cX5_vanOf 103 = .ok (.getfield 19, 3) := by decide +kernel
theorem dX5_vanOf_106 : decode cX5_vanOf 106 = .ok (.aload_n 0, 1) := by decide +kernel
theorem dX5_vanOf_107 : decode cX5_vanOf 107 = .ok (.getfield 10, 3) := by decide +kernel
theorem dX5_vanOf_110 : decode cX5_vanOf 110 = .ok (.iload_n 1, 1) := by decide +kernel
theorem dX5_vanOf_111 : decode cX5_vanOf 111 = .ok (.invokevirtual 170, 3) := by decide +kernel
theorem dX5_vanOf_114 : decode cX5_vanOf 114 = .ok (.ireturn, 1) := by decide +kernel
theorem dX5_vanOf_115 : decode cX5_vanOf 115 = .ok (.aload_n 0, 1) := by decide +kernel
theorem dX5_vanOf_116 : decode cX5_vanOf 116 = .ok (.getfield 19, 3) := by decide +kernel
theorem dX5_vanOf_119 : decode cX5_vanOf 119 = .ok (.getfield 173, 3) := by decide +kernel
theorem dX5_vanOf_122 : decode cX5_vanOf 122 = .ok (.iload_n 1, 1) := by decide +kernel
theorem dX5_vanOf_123 : decode cX5_vanOf 123 = .ok (.iaload, 1) := by decide +kernel
theorem dX5_vanOf_124 : decode cX5_vanOf 124 = .ok (.ireturn, 1) := by decide +kernel
theorem dX5_vanOf_125 : decode cX5_vanOf 125 = .ok (.aload_n 0, 1) := by decide +kernel
theorem dX5_vanOf_126 : decode cX5_vanOf 126 = .ok (.getfield 26, 3) := by decide +kernel
theorem dX5_vanOf_129 : decode cX5_vanOf 129 = .ok (.getfield 176, 3) := by decide +kernel
theorem dX5_vanOf_132 : decode cX5_vanOf 132 = .ok (.ireturn, 1) := by decide +kernel
theorem dX5_vanOf_133 : decode cX5_vanOf 133 = .ok (.aload_n 0, 1) := by decide +kernel
theorem dX5_vanOf_134 : decode cX5_vanOf 134 = .ok (.getfield 26, 3) := by decide +kernel
theorem dX5_vanOf_137 : decode cX5_vanOf 137 = .ok (.invokevirtual 179, 3) := by decide +kernel
theorem dX5_vanOf_140 : decode cX5_vanOf 140 = .ok (.ireturn, 1) := by decide +kernel
theorem dX5_vanOf_141 : decode cX5_vanOf 141 = .ok (.aload_n 0, 1) := by decide +kernel
theorem dX5_vanOf_142 : decode cX5_vanOf 142 = .ok (.getfield 19, 3) := by decide +kernel
theorem dX5_vanOf_145 : decode cX5_vanOf 145 = .ok (.aload_n 0, 1) := by decide +kernel
theorem dX5_vanOf_146 : decode cX5_vanOf 146 = .ok (.getfield 10, 3) := by decide +kernel
theorem dX5_vanOf_149 : decode cX5_vanOf 149 = .ok (.iload_n 1, 1) := by decide +kernel
theorem dX5_vanOf_150 : decode cX5_vanOf 150 = .ok (.invokevirtual 182, 3) := by decide +kernel
theorem dX5_vanOf_153 : decode cX5_vanOf 153 = .ok (.ireturn, 1) := by decide +kernel
theorem dX5_vanOf_154 : decode cX5_vanOf 154 = .ok (.bipush (-102), 2) := by decide +kernel
theorem dX5_vanOf_156 : decode cX5_vanOf 156 = .ok (.ireturn, 1) := by decide +kernel
theorem dX5_flight_0 : decode cX5_flight 0 = .ok (.iload_n 1, 1) := by decide +kernel
theorem dX5_flight_1 : decode cX5_flight 1 = .ok (.invokestatic 75, 3) := by decide +kernel
theorem dX5_flight_4 : decode cX5_flight 4 = .ok (.ifCond .ne 6, 3) := by decide +kernel
theorem dX5_flight_7 : decode cX5_flight 7 = .ok (.bipush (-101), 2) := by decide +kernel
theorem dX5_flight_9 : decode cX5_flight 9 = .ok (.ireturn, 1) := by decide +kernel
theorem dX5_flight_10 : decode cX5_flight 10 = .ok (.iload_n 2, 1) := by decide +kernel
theorem dX5_flight_11 : decode cX5_flight 11 = .ok (.tableswitch 90 0 4 #[33, 43, 53, 62, 76], 33) := by decide +kernel
theorem dX5_flight_44 : decode cX5_flight 44 = .ok (.aload_n 0, 1) := by decide +kernel
theorem dX5_flight_45 : decode cX5_flight 45 = .ok (.getfield 10, 3) := by decide +kernel
theorem dX5_flight_48 : decode cX5_flight 48 = .ok (.getfield 79, 3) := by decide +kernel
theorem dX5_flight_51 : decode cX5_flight 51 = .ok (.iload_n 1, 1) := by decide +kernel
theorem dX5_flight_52 : decode cX5_flight 52 = .ok (.iaload, 1) := by decide +kernel
theorem dX5_flight_53 : decode cX5_flight 53 = .ok (.ireturn, 1) := by decide +kernel
theorem dX5_flight_54 : decode cX5_flight 54 = .ok (.aload_n 0, 1) := by decide +kernel
theorem dX5_flight_55 : decode cX5_flight 55 = .ok (.getfield 10, 3) := by decide +kernel
theorem dX5_flight_58 : decode cX5_flight 58 = .ok (.getfield 85, 3) := by decide +kernel
theorem dX5_flight_61 : decode cX5_flight 61 = .ok (.iload_n 1, 1) := by decide +kernel
theorem dX5_flight_62 : decode cX5_flight 62 = .ok (.iaload, 1) := by decide +kernel
theorem dX5_flight_63 : decode cX5_flight 63 = .ok (.ireturn, 1) := by decide +kernel
theorem dX5_flight_64 : decode cX5_flight 64 = .ok (.aload_n 0, 1) := by decide +kernel
theorem dX5_flight_65 : decode cX5_flight 65 = .ok (.getfield 10, 3) := by decide +kernel
theorem dX5_flight_68 : decode cX5_flight 68 = .ok (.iload_n 1, 1) := by decide +kernel
theorem dX5_flight_69 : decode cX5_flight 69 = .ok (.invokevirtual 88, 3) := by decide +kernel
theorem dX5_flight_72 : decode cX5_flight 72 = .ok (.ireturn, 1) := by decide +kernel
theorem dX5_flight_73 : decode cX5_flight 73 = .ok (.aload_n 0, 1) := by decide +kernel
theorem dX5_flight_74 : decode cX5_flight 74 = .ok (.getfield 19, 3) := by decide +kernel
theorem dX5_flight_77 : decode cX5_flight 77 = .ok (.aload_n 0, 1) := by decide +kernel
theorem dX5_flight_78 : decode cX5_flight 78 = .ok (.getfield 10, 3) := by decide +kernel
theorem dX5_flight_81 : decode cX5_flight 81 = .ok (.iload_n 1, 1) := by decide +kernel
theorem dX5_flight_82 : decode cX5_flight 82 = .ok (.iconst 0, 1) := by decide +kernel
theorem dX5_flight_83 : decode cX5_flight 83 = .ok (.invokevirtual 185, 3) := by decide +kernel
theorem dX5_flight_86 : decode cX5_flight 86 = .ok (.ireturn, 1) := by decide +kernel
theorem dX5_flight_87 : decode cX5_flight 87 = .ok (.aload_n 0, 1) := by decide +kernel
theorem dX5_flight_88 : decode cX5_flight 88 = .ok (.getfield 19, 3) := by decide +kernel
theorem dX5_flight_91 : decode cX5_flight 91 = .ok (.aload_n 0, 1) := by decide +kernel
theorem dX5_flight_92 : decode cX5_flight 92 = .ok (.getfield 10, 3) := by decide +kernel
theorem dX5_flight_95 : decode cX5_flight 95 = .ok (.iload_n 1, 1) := by decide +kernel
theorem dX5_flight_96 : decode cX5_flight 96 = .ok (.iconst 1, 1) := by decide +kernel
theorem dX5_flight_97 : decode cX5_flight 97 = .ok (.invokevirtual 185, 3) := by decide +kernel
theorem dX5_flight_100 : decode cX5_flight 100 = .ok (.ireturn, 1) := by decide +kernel
theorem dX5_flight_101 : decode cX5_flight 101 = .ok (.bipush (-102), 2) := by decide +kernel
theorem dX5_flight_103 : decode cX5_flight 103 = .ok (.ireturn, 1) := by decide +kernel
theorem dX5_stop_0 : decode cX5_stop 0 = .ok (.iload_n 1, 1) := by decide +kernel
theorem dX5_stop_1 : decode cX5_stop 1 = .ok (.invokestatic 92, 3) := by decide +kernel
theorem dX5_stop_4 : decode cX5_stop 4 = .ok (.ifCond .ne 6, 3) := by decide +kernel
theorem dX5_stop_7 : decode cX5_stop 7 = .ok (.bipush (-101), 2) := by decide +kernel
theorem dX5_stop_9 : decode cX5_stop 9 = .ok (.ireturn, 1) := by decide +kernel
theorem dX5_stop_10 : decode cX5_stop 10 = .ok (.aload_n 0, 1) := by decide +kernel
theorem dX5_stop_11 : decode cX5_stop 11 = .ok (.getfield 26, 3) := by decide +kernel
theorem dX5_stop_14 : decode cX5_stop 14 = .ok (.aload_n 0, 1) := by decide +kernel
theorem dX5_stop_15 : decode cX5_stop 15 = .ok (.getfield 10, 3) := by decide +kernel
theorem dX5_stop_18 : decode cX5_stop 18 = .ok (.aload_n 0, 1) := by decide +kernel
theorem dX5_stop_19 : decode cX5_stop 19 = .ok (.getfield 19, 3) := by decide +kernel
theorem dX5_stop_22 : decode cX5_stop 22 = .ok (.iload_n 1, 1) := by decide +kernel
theorem dX5_stop_23 : decode cX5_stop 23 = .ok (.invokevirtual 163, 3) := by decide +kernel
theorem dX5_stop_26 : decode cX5_stop 26 = .ok (.iload_n 2, 1) := by decide +kernel
theorem dX5_stop_27 : decode cX5_stop 27 = .ok (.iconst 0, 1) := by decide +kernel
theorem dX5_stop_28 : decode cX5_stop 28 = .ok (.aload_n 0, 1) := by decide +kernel
theorem dX5_stop_29 : decode cX5_stop 29 = .ok (.getfield 26, 3) := by decide +kernel
theorem dX5_stop_32 : decode cX5_stop 32 = .ok (.getfield 176, 3) := by decide +kernel
theorem dX5_stop_35 : decode cX5_stop 35 = .ok (.iconst 1, 1) := by decide +kernel
theorem dX5_stop_36 : decode cX5_stop 36 = .ok (.isub, 1) := by decide +kernel
theorem dX5_stop_37 : decode cX5_stop 37 = .ok (.invokestatic 54, 3) := by decide +kernel
theorem dX5_stop_40 : decode cX5_stop 40 = .ok (.ifCond .ne 6, 3) := by decide +kernel
theorem dX5_stop_43 : decode cX5_stop 43 = .ok (.bipush (-101), 2) := by decide +kernel
theorem dX5_stop_45 : decode cX5_stop 45 = .ok (.ireturn, 1) := by decide +kernel
theorem dX5_stop_46 : decode cX5_stop 46 = .ok (.iload_n 3, 1) := by decide +kernel
theorem dX5_stop_47 : decode cX5_stop 47 = .ok (.tableswitch 75 0 3 #[29, 42, 55, 65], 29) := by decide +kernel
theorem dX5_stop_76 : decode cX5_stop 76 = .ok (.aload_n 0, 1) := by decide +kernel
theorem dX5_stop_77 : decode cX5_stop 77 = .ok (.getfield 26, 3) := by decide +kernel
theorem dX5_stop_80 : decode cX5_stop 80 = .ok (.getfield 189, 3) := by decide +kernel
theorem dX5_stop_83 : decode cX5_stop 83 = .ok (.iload_n 2, 1) := by decide +kernel
theorem dX5_stop_84 : decode cX5_stop 84 = .ok (.iaload, 1) := by decide +kernel
theorem dX5_stop_85 : decode cX5_stop 85 = .ok (.invokestatic 192, 3) := by decide +kernel
theorem dX5_stop_88 : decode cX5_stop 88 = .ok (.ireturn, 1) := by decide +kernel
theorem dX5_stop_89 : decode cX5_stop 89 = .ok (.aload_n 0, 1) := by decide +kernel
theorem dX5_stop_90 : decode cX5_stop 90 = .ok (.getfield 26, 3) := by decide +kernel
theorem dX5_stop_93 : decode cX5_stop 93 = .ok (.getfield 189, 3) := by decide +kernel
theorem dX5_stop_96 : decode cX5_stop 96 = .ok (.iload_n 2, 1) := by decide +kernel
theorem dX5_stop_97 : decode cX5_stop 97 = .ok (.iaload, 1) := by decide +kernel
theorem dX5_stop_98 : decode cX5_stop 98 = .ok (.invokestatic 195, 3) := by decide +kernel
theorem dX5_stop_101 : decode cX5_stop 101 = .ok (.ireturn, 1) := by decide +kernel
theorem dX5_stop_102 : decode cX5_stop 102 = .ok (.aload_n 0, 1) := by decide +kernel
theorem dX5_stop_103 : decode cX5_stop 103 = .ok (.getfield 26, 3) := by decide +kernel
theorem dX5_stop_106 : decode cX5_stop 106 = .ok (.getfield 198, 3) := by decide +kernel
theorem dX5_stop_109 : decode cX5_stop 109 = .ok (.iload_n 2, 1) := by decide +kernel
theorem dX5_stop_110 : decode cX5_stop 110 = .ok (.iaload, 1) := by decide +kernel
theorem dX5_stop_111 : decode cX5_stop 111 = .ok (.ireturn, 1) := by decide +kernel
theorem dX5_stop_112 : decode cX5_stop 112 = .ok (.aload_n 0, 1) := by decide +kernel
theorem dX5_stop_113 : decode cX5_stop 113 = .ok (.getfield 26, 3) := by decide +kernel
theorem dX5_stop_116 : decode cX5_stop 116 = .ok (.getfield 201, 3) := by decide +kernel
theorem dX5_stop_119 : decode cX5_stop 119 = .ok (.iload_n 2, 1) := by decide +kernel
theorem dX5_stop_120 : decode cX5_stop 120 = .ok (.iaload, 1) := by decide +kernel
theorem dX5_stop_121 : decode cX5_stop 121 = .ok (.ireturn, 1) := by decide +kernel
theorem dX5_stop_122 : decode cX5_stop 122 = .ok (.bipush (-102), 2) := by decide +kernel
theorem dX5_stop_124 : decode cX5_stop 124 = .ok (.ireturn, 1) := by decide +kernel
theorem dX5_count_0 : decode cX5_count 0 = .ok (.iload_n 1, 1) := by decide +kernel
theorem dX5_count_1 : decode cX5_count 1 = .ok (.iconst 0, 1) := by decide +kernel
theorem dX5_count_2 : decode cX5_count 2 = .ok (.iconst 4, 1) := by decide +kernel
theorem dX5_count_3 : decode cX5_count 3 = .ok (.invokestatic 54, 3) := by decide +kernel
theorem dX5_count_6 : decode cX5_count 6 = .ok (.ifCond .eq 13, 3) := by decide +kernel
theorem dX5_count_9 : decode cX5_count 9 = .ok (.aload_n 0, 1) := by decide +kernel
theorem dX5_count_10 : decode cX5_count 10 = .ok (.getfield 10, 3) := by decide +kernel
theorem dX5_count_13 : decode cX5_count 13 = .ok (.getfield 65, 3) := by decide +kernel
theorem dX5_count_16 : decode cX5_count 16 = .ok (.iload_n 1, 1) := by decide +kernel
theorem dX5_count_17 : decode cX5_count 17 = .ok (.iaload, 1) := by decide +kernel
theorem dX5_count_18 : decode cX5_count 18 = .ok (.ireturn, 1) := by decide +kernel
theorem dX5_count_19 : decode cX5_count 19 = .ok (.iload_n 1, 1) := by decide +kernel
theorem dX5_count_20 : decode cX5_count 20 = .ok (.tableswitch 147 5 15 #[60, 68, 76, 84, 92, 100, 105, 113, 118, 131, 139], 60) := by decide +kernel
theorem dX5_count_80 : decode cX5_count 80 = .ok (.aload_n 0, 1) := by decide +kernel
theorem dX5_count_81 : decode cX5_count 81 = .ok (.getfield 10, 3) := by decide +kernel
theorem dX5_count_84 : decode cX5_count 84 = .ok (.getfield 105, 3) := by decide +kernel
theorem dX5_count_87 : decode cX5_count 87 = .ok (.ireturn, 1) := by decide +kernel
theorem dX5_count_88 : decode cX5_count 88 = .ok (.aload_n 0, 1) := by decide +kernel
theorem dX5_count_89 : decode cX5_count 89 = .ok (.getfield 10, 3) := by decide +kernel
theorem dX5_count_92 : decode cX5_count 92 = .ok (.invokevirtual 202, 3) := by decide +kernel
theorem dX5_count_95 : decode cX5_count 95 = .ok (.ireturn, 1) := by decide +kernel
theorem dX5_count_96 : decode cX5_count 96 = .ok (.aload_n 0, 1) := by decide +kernel
theorem dX5_count_97 : decode cX5_count 97 = .ok (.getfield 19, 3) := by decide +kernel
theorem dX5_count_100 : decode cX5_count 100 = .ok (.getfield 205, 3) := by decide +kernel
theorem dX5_count_103 : decode cX5_count 103 = .ok (.ireturn, 1) := by decide +kernel
theorem dX5_count_104 : decode cX5_count 104 = .ok (.aload_n 0, 1) := by decide +kernel
theorem dX5_count_105 : decode cX5_count 105 = .ok (.getfield 19, 3) := by decide +kernel
theorem dX5_count_108 : decode cX5_count 108 = .ok (.getfield 101, 3) := by decide +kernel
theorem dX5_count_111 : decode cX5_count 111 = .ok (.ireturn, 1) := by decide +kernel
theorem dX5_count_112 : decode cX5_count 112 = .ok (.aload_n 0, 1) := by decide +kernel
theorem dX5_count_113 : decode cX5_count 113 = .ok (.getfield 19, 3) := by decide +kernel
theorem dX5_count_116 : decode cX5_count 116 = .ok (.getfield 208, 3) := by decide +kernel
end
section
theorem dX5_count_119 : decode cX5_count 119 = .ok (.ireturn, 1) := by decide +kernel
theorem dX5_count_120 : decode cX5_count 120 = .ok (.aload_n 0, 1) := by decide +kernel
theorem dX5_count_121 : decode cX5_count 121 = .ok (.invokevirtual 211, 3) := by decide +kernel
theorem dX5_count_124 : decode cX5_count 124 = .ok (.ireturn, 1) := by decide +kernel
theorem dX5_count_125 : decode cX5_count 125 = .ok (.aload_n 0, 1) := by decide +kernel
theorem dX5_count_126 : decode cX5_count 126 = .ok (.getfield 19, 3) := by decide +kernel
theorem dX5_count_129 : decode cX5_count 129 = .ok (.invokevirtual 214, 3) := by decide +kernel
theorem dX5_count_132 : decode cX5_count 132 = .ok (.ireturn, 1) := by decide +kernel
theorem dX5_count_133 : decode cX5_count 133 = .ok (.aload_n 0, 1) := by decide +kernel
theorem dX5_count_134 : decode cX5_count 134 = .ok (.invokevirtual 217, 3) := by decide +kernel
theorem dX5_count_137 : decode cX5_count 137 = .ok (.ireturn, 1) := by decide +kernel
theorem dX5_count_138 : decode cX5_count 138 = .ok (.aload_n 0, 1) := by decide +kernel
theorem dX5_count_139 : decode cX5_count 139 = .ok (.aload_n 0, 1) := by decide +kernel
theorem dX5_count_140 : decode cX5_count 140 = .ok (.getfield 10, 3) := by decide +kernel
theorem dX5_count_143 : decode cX5_count 143 = .ok (.aload_n 0, 1) := by decide +kernel
theorem dX5_count_144 : decode cX5_count 144 = .ok (.getfield 19, 3) := by decide +kernel
theorem dX5_count_147 : decode cX5_count 147 = .ok (.invokevirtual 220, 3) := by decide +kernel
theorem dX5_count_150 : decode cX5_count 150 = .ok (.ireturn, 1) := by decide +kernel
theorem dX5_count_151 : decode cX5_count 151 = .ok (.aload_n 0, 1) := by decide +kernel
theorem dX5_count_152 : decode cX5_count 152 = .ok (.getfield 39, 3) := by decide +kernel
theorem dX5_count_155 : decode cX5_count 155 = .ok (.getfield 122, 3) := by decide +kernel
theorem dX5_count_158 : decode cX5_count 158 = .ok (.ireturn, 1) := by decide +kernel
theorem dX5_count_159 : decode cX5_count 159 = .ok (.aload_n 0, 1) := by decide +kernel
theorem dX5_count_160 : decode cX5_count 160 = .ok (.getfield 46, 3) := by decide +kernel
theorem dX5_count_163 : decode cX5_count 163 = .ok (.getfield 224, 3) := by decide +kernel
theorem dX5_count_166 : decode cX5_count 166 = .ok (.ireturn, 1) := by decide +kernel
theorem dX5_count_167 : decode cX5_count 167 = .ok (.bipush (-102), 2) := by decide +kernel
theorem dX5_count_169 : decode cX5_count 169 = .ok (.ireturn, 1) := by decide +kernel
theorem dX5_kerb_0 : decode cX5_kerb 0 = .ok (.iload_n 1, 1) := by decide +kernel
theorem dX5_kerb_1 : decode cX5_kerb 1 = .ok (.iconst 0, 1) := by decide +kernel
theorem dX5_kerb_2 : decode cX5_kerb 2 = .ok (.sipush 3000, 3) := by decide +kernel
theorem dX5_kerb_5 : decode cX5_kerb 5 = .ok (.invokestatic 54, 3) := by decide +kernel
theorem dX5_kerb_8 : decode cX5_kerb 8 = .ok (.ifCond .ne 6, 3) := by decide +kernel
theorem dX5_kerb_11 : decode cX5_kerb 11 = .ok (.bipush (-102), 2) := by decide +kernel
theorem dX5_kerb_13 : decode cX5_kerb 13 = .ok (.ireturn, 1) := by decide +kernel
theorem dX5_kerb_14 : decode cX5_kerb 14 = .ok (.iconst 0, 1) := by decide +kernel
theorem dX5_kerb_15 : decode cX5_kerb 15 = .ok (.istore_n 2, 1) := by decide +kernel
theorem dX5_kerb_16 : decode cX5_kerb 16 = .ok (.iconst 0, 1) := by decide +kernel
theorem dX5_kerb_17 : decode cX5_kerb 17 = .ok (.istore_n 3, 1) := by decide +kernel
theorem dX5_kerb_18 : decode cX5_kerb 18 = .ok (.iload_n 3, 1) := by decide +kernel
theorem dX5_kerb_19 : decode cX5_kerb 19 = .ok (.aload_n 0, 1) := by decide +kernel
theorem dX5_kerb_20 : decode cX5_kerb 20 = .ok (.getfield 10, 3) := by decide +kernel
theorem dX5_kerb_23 : decode cX5_kerb 23 = .ok (.getfield 105, 3) := by decide +kernel
theorem dX5_kerb_26 : decode cX5_kerb 26 = .ok (.if_icmp .ge 37, 3) := by decide +kernel
theorem dX5_kerb_29 : decode cX5_kerb 29 = .ok (.aload_n 0, 1) := by decide +kernel
theorem dX5_kerb_30 : decode cX5_kerb 30 = .ok (.getfield 19, 3) := by decide +kernel
theorem dX5_kerb_33 : decode cX5_kerb 33 = .ok (.aload_n 0, 1) := by decide +kernel
theorem dX5_kerb_34 : decode cX5_kerb 34 = .ok (.getfield 10, 3) := by decide +kernel
theorem dX5_kerb_37 : decode cX5_kerb 37 = .ok (.iload_n 3, 1) := by decide +kernel
theorem dX5_kerb_38 : decode cX5_kerb 38 = .ok (.iload_n 1, 1) := by decide +kernel
theorem dX5_kerb_39 : decode cX5_kerb 39 = .ok (.invokevirtual 227, 3) := by decide +kernel
theorem dX5_kerb_42 : decode cX5_kerb 42 = .ok (.ifCond .eq 15, 3) := by decide +kernel
theorem dX5_kerb_45 : decode cX5_kerb 45 = .ok (.iload_n 2, 1) := by decide +kernel
theorem dX5_kerb_46 : decode cX5_kerb 46 = .ok (.aload_n 0, 1) := by decide +kernel
theorem dX5_kerb_47 : decode cX5_kerb 47 = .ok (.getfield 10, 3) := by decide +kernel
theorem dX5_kerb_50 : decode cX5_kerb 50 = .ok (.getfield 148, 3) := by decide +kernel
theorem dX5_kerb_53 : decode cX5_kerb 53 = .ok (.iload_n 3, 1) := by decide +kernel
theorem dX5_kerb_54 : decode cX5_kerb 54 = .ok (.iaload, 1) := by decide +kernel
theorem dX5_kerb_55 : decode cX5_kerb 55 = .ok (.iadd, 1) := by decide +kernel
theorem dX5_kerb_56 : decode cX5_kerb 56 = .ok (.istore_n 2, 1) := by decide +kernel
theorem dX5_kerb_57 : decode cX5_kerb 57 = .ok (.iinc 3 1, 3) := by decide +kernel
theorem dX5_kerb_60 : decode cX5_kerb 60 = .ok (.goto (-42), 3) := by decide +kernel
theorem dX5_kerb_63 : decode cX5_kerb 63 = .ok (.iload_n 2, 1) := by decide +kernel
theorem dX5_kerb_64 : decode cX5_kerb 64 = .ok (.ireturn, 1) := by decide +kernel
theorem dX5_ifDelayed_0 : decode cX5_ifDelayed 0 = .ok (.iload_n 1, 1) := by decide +kernel
theorem dX5_ifDelayed_1 : decode cX5_ifDelayed 1 = .ok (.invokestatic 75, 3) := by decide +kernel
theorem dX5_ifDelayed_4 : decode cX5_ifDelayed 4 = .ok (.ifCond .ne 6, 3) := by decide +kernel
theorem dX5_ifDelayed_7 : decode cX5_ifDelayed 7 = .ok (.bipush (-101), 2) := by decide +kernel
theorem dX5_ifDelayed_9 : decode cX5_ifDelayed 9 = .ok (.ireturn, 1) := by decide +kernel
theorem dX5_ifDelayed_10 : decode cX5_ifDelayed 10 = .ok (.iload_n 2, 1) := by decide +kernel
theorem dX5_ifDelayed_11 : decode cX5_ifDelayed 11 = .ok (.invokestatic 82, 3) := by decide +kernel
theorem dX5_ifDelayed_14 : decode cX5_ifDelayed 14 = .ok (.ifCond .eq 12, 3) := by decide +kernel
theorem dX5_ifDelayed_17 : decode cX5_ifDelayed 17 = .ok (.iload_n 3, 1) := by decide +kernel
theorem dX5_ifDelayed_18 : decode cX5_ifDelayed 18 = .ok (.iconst 0, 1) := by decide +kernel
theorem dX5_ifDelayed_19 : decode cX5_ifDelayed 19 = .ok (.iconst 2, 1) := by decide +kernel
theorem dX5_ifDelayed_20 : decode cX5_ifDelayed 20 = .ok (.invokestatic 54, 3) := by decide +kernel
theorem dX5_ifDelayed_23 : decode cX5_ifDelayed 23 = .ok (.ifCond .ne 6, 3) := by decide +kernel
theorem dX5_ifDelayed_26 : decode cX5_ifDelayed 26 = .ok (.bipush (-102), 2) := by decide +kernel
theorem dX5_ifDelayed_28 : decode cX5_ifDelayed 28 = .ok (.ireturn, 1) := by decide +kernel
theorem dX5_ifDelayed_29 : decode cX5_ifDelayed 29 = .ok (.aload_n 0, 1) := by decide +kernel
theorem dX5_ifDelayed_30 : decode cX5_ifDelayed 30 = .ok (.getfield 30, 3) := by decide +kernel
theorem dX5_ifDelayed_33 : decode cX5_ifDelayed 33 = .ok (.aload_n 0, 1) := by decide +kernel
theorem dX5_ifDelayed_34 : decode cX5_ifDelayed 34 = .ok (.getfield 10, 3) := by decide +kernel
theorem dX5_ifDelayed_37 : decode cX5_ifDelayed 37 = .ok (.invokevirtual 231, 3) := by decide +kernel
theorem dX5_ifDelayed_40 : decode cX5_ifDelayed 40 = .ok (.aload_n 0, 1) := by decide +kernel
theorem dX5_ifDelayed_41 : decode cX5_ifDelayed 41 = .ok (.getfield 30, 3) := by decide +kernel
theorem dX5_ifDelayed_44 : decode cX5_ifDelayed 44 = .ok (.getfield 85, 3) := by decide +kernel
theorem dX5_ifDelayed_47 : decode cX5_ifDelayed 47 = .ok (.iload_n 1, 1) := by decide +kernel
theorem dX5_ifDelayed_48 : decode cX5_ifDelayed 48 = .ok (.iload_n 2, 1) := by decide +kernel
theorem dX5_ifDelayed_49 : decode cX5_ifDelayed 49 = .ok (.iastore, 1) := by decide +kernel
theorem dX5_ifDelayed_50 : decode cX5_ifDelayed 50 = .ok (.aload_n 0, 1) := by decide +kernel
theorem dX5_ifDelayed_51 : decode cX5_ifDelayed 51 = .ok (.getfield 33, 3) := by decide +kernel
theorem dX5_ifDelayed_54 : decode cX5_ifDelayed 54 = .ok (.aload_n 0, 1) := by decide +kernel
theorem dX5_ifDelayed_55 : decode cX5_ifDelayed 55 = .ok (.getfield 30, 3) := by decide +kernel
theorem dX5_ifDelayed_58 : decode cX5_ifDelayed 58 = .ok (.invokevirtual 72, 3) := by decide +kernel
theorem dX5_ifDelayed_61 : decode cX5_ifDelayed 61 = .ok (.iload_n 3, 1) := by decide +kernel
theorem dX5_ifDelayed_62 : decode cX5_ifDelayed 62 = .ok (.ifCond .ne 11, 3) := by decide +kernel
theorem dX5_ifDelayed_65 : decode cX5_ifDelayed 65 = .ok (.aload_n 0, 1) := by decide +kernel
theorem dX5_ifDelayed_66 : decode cX5_ifDelayed 66 = .ok (.getfield 33, 3) := by decide +kernel
theorem dX5_ifDelayed_69 : decode cX5_ifDelayed 69 = .ok (.getfield 101, 3) := by decide +kernel
theorem dX5_ifDelayed_72 : decode cX5_ifDelayed 72 = .ok (.ireturn, 1) := by decide +kernel
theorem dX5_ifDelayed_73 : decode cX5_ifDelayed 73 = .ok (.iload_n 3, 1) := by decide +kernel
theorem dX5_ifDelayed_74 : decode cX5_ifDelayed 74 = .ok (.iconst 1, 1) := by decide +kernel
theorem dX5_ifDelayed_75 : decode cX5_ifDelayed 75 = .ok (.if_icmp .ne 11, 3) := by decide +kernel
theorem dX5_ifDelayed_78 : decode cX5_ifDelayed 78 = .ok (.aload_n 0, 1) := by decide +kernel
theorem dX5_ifDelayed_79 : decode cX5_ifDelayed 79 = .ok (.getfield 33, 3) := by decide +kernel
theorem dX5_ifDelayed_82 : decode cX5_ifDelayed 82 = .ok (.getfield 208, 3) := by decide +kernel
theorem dX5_ifDelayed_85 : decode cX5_ifDelayed 85 = .ok (.ireturn, 1) := by decide +kernel
theorem dX5_ifDelayed_86 : decode cX5_ifDelayed 86 = .ok (.aload_n 0, 1) := by decide +kernel
theorem dX5_ifDelayed_87 : decode cX5_ifDelayed 87 = .ok (.aload_n 0, 1) := by decide +kernel
theorem dX5_ifDelayed_88 : decode cX5_ifDelayed 88 = .ok (.getfield 30, 3) := by decide +kernel
theorem dX5_ifDelayed_91 : decode cX5_ifDelayed 91 = .ok (.aload_n 0, 1) := by decide +kernel
theorem dX5_ifDelayed_92 : decode cX5_ifDelayed 92 = .ok (.getfield 33, 3) := by decide +kernel
theorem dX5_ifDelayed_95 : decode cX5_ifDelayed 95 = .ok (.invokevirtual 220, 3) := by decide +kernel
theorem dX5_ifDelayed_98 : decode cX5_ifDelayed 98 = .ok (.ireturn, 1) := by decide +kernel
theorem dX5_mostDelay_0 : decode cX5_mostDelay 0 = .ok (.iload_n 1, 1) := by decide +kernel
theorem dX5_mostDelay_1 : decode cX5_mostDelay 1 = .ok (.invokestatic 75, 3) := by decide +kernel
theorem dX5_mostDelay_4 : decode cX5_mostDelay 4 = .ok (.ifCond .ne 6, 3) := by decide +kernel
theorem dX5_mostDelay_7 : decode cX5_mostDelay 7 = .ok (.bipush (-101), 2) := by decide +kernel
theorem dX5_mostDelay_9 : decode cX5_mostDelay 9 = .ok (.ireturn, 1) := by decide +kernel
theorem dX5_mostDelay_10 : decode cX5_mostDelay 10 = .ok (.aload_n 0, 1) := by decide +kernel
theorem dX5_mostDelay_11 : decode cX5_mostDelay 11 = .ok (.getfield 30, 3) := by decide +kernel
theorem dX5_mostDelay_14 : decode cX5_mostDelay 14 = .ok (.aload_n 0, 1) := by decide +kernel
theorem dX5_mostDelay_15 : decode cX5_mostDelay 15 = .ok (.getfield 10, 3) := by decide +kernel
theorem dX5_mostDelay_18 : decode cX5_mostDelay 18 = .ok (.invokevirtual 231, 3) := by decide +kernel
theorem dX5_mostDelay_21 : decode cX5_mostDelay 21 = .ok (.sipush 300, 3) := by decide +kernel
theorem dX5_mostDelay_24 : decode cX5_mostDelay 24 = .ok (.istore_n 2, 1) := by decide +kernel
theorem dX5_mostDelay_25 : decode cX5_mostDelay 25 = .ok (.iload_n 2, 1) := by decide +kernel
theorem dX5_mostDelay_26 : decode cX5_mostDelay 26 = .ok (.bipush (-30), 2) := by decide +kernel
theorem dX5_mostDelay_28 : decode cX5_mostDelay 28 = .ok (.if_icmp .le 49, 3) := by decide +kernel
theorem dX5_mostDelay_31 : decode cX5_mostDelay 31 = .ok (.aload_n 0, 1) := by decide +kernel
theorem dX5_mostDelay_32 : decode cX5_mostDelay 32 = .ok (.getfield 30, 3) := by decide +kernel
theorem dX5_mostDelay_35 : decode cX5_mostDelay 35 = .ok (.getfield 85, 3) := by decide +kernel
theorem dX5_mostDelay_38 : decode cX5_mostDelay 38 = .ok (.iload_n 1, 1) := by decide +kernel
theorem dX5_mostDelay_39 : decode cX5_mostDelay 39 = .ok (.iload_n 2, 1) := by decide +kernel
theorem dX5_mostDelay_40 : decode cX5_mostDelay 40 = .ok (.iastore, 1) := by decide +kernel
theorem dX5_mostDelay_41 : decode cX5_mostDelay 41 = .ok (.aload_n 0, 1) := by decide +kernel
theorem dX5_mostDelay_42 : decode cX5_mostDelay 42 = .ok (.getfield 33, 3) := by decide +kernel
theorem dX5_mostDelay_45 : decode cX5_mostDelay 45 = .ok (.aload_n 0, 1) := by decide +kernel
theorem dX5_mostDelay_46 : decode cX5_mostDelay 46 = .ok (.getfield 30, 3) := by decide +kernel
theorem dX5_mostDelay_49 : decode cX5_mostDelay 49 = .ok (.invokevirtual 72, 3) := by decide +kernel
theorem dX5_mostDelay_52 : decode cX5_mostDelay 52 = .ok (.aload_n 0, 1) := by decide +kernel
theorem dX5_mostDelay_53 : decode cX5_mostDelay 53 = .ok (.getfield 33, 3) := by decide +kernel
theorem dX5_mostDelay_56 : decode cX5_mostDelay 56 = .ok (.getfield 101, 3) := by decide +kernel
theorem dX5_mostDelay_59 : decode cX5_mostDelay 59 = .ok (.aload_n 0, 1) := by decide +kernel
theorem dX5_mostDelay_60 : decode cX5_mostDelay 60 = .ok (.getfield 19, 3) := by decide +kernel
theorem dX5_mostDelay_63 : decode cX5_mostDelay 63 = .ok (.getfield 101, 3) := by decide +kernel
theorem dX5_mostDelay_66 : decode cX5_mostDelay 66 = .ok (.if_icmp .gt 5, 3) := by decide +kernel
theorem dX5_mostDelay_69 : decode cX5_mostDelay 69 = .ok (.iload_n 2, 1) := by decide +kernel
theorem dX5_mostDelay_70 : decode cX5_mostDelay 70 = .ok (.ireturn, 1) := by decide +kernel
theorem dX5_mostDelay_71 : decode cX5_mostDelay 71 = .ok (.iinc 2 (-1), 3) := by decide +kernel
theorem dX5_mostDelay_74 : decode cX5_mostDelay 74 = .ok (.goto (-49), 3) := by decide +kernel
theorem dX5_mostDelay_77 : decode cX5_mostDelay 77 = .ok (.bipush (-30), 2) := by decide +kernel
theorem dX5_mostDelay_79 : decode cX5_mostDelay 79 = .ok (.ireturn, 1) := by decide +kernel
theorem dX5_bestMinute_0 : decode cX5_bestMinute 0 = .ok (.iload_n 1, 1) := by decide +kernel
theorem dX5_bestMinute_1 : decode cX5_bestMinute 1 = .ok (.invokestatic 92, 3) := by decide +kernel
theorem dX5_bestMinute_4 : decode cX5_bestMinute 4 = .ok (.ifCond .ne 6, 3) := by decide +kernel
theorem dX5_bestMinute_7 : decode cX5_bestMinute 7 = .ok (.bipush (-101), 2) := by decide +kernel
theorem dX5_bestMinute_9 : decode cX5_bestMinute 9 = .ok (.ireturn, 1) := by decide +kernel
theorem dX5_bestMinute_10 : decode cX5_bestMinute 10 = .ok (.iconst 0, 1) := by decide +kernel
theorem dX5_bestMinute_11 : decode cX5_bestMinute 11 = .ok (.istore_n 2, 1) := by decide +kernel
theorem dX5_bestMinute_12 : decode cX5_bestMinute 12 = .ok (.iconst 0, 1) := by decide +kernel
theorem dX5_bestMinute_13 : decode cX5_bestMinute 13 = .ok (.istore_n 3, 1) := by decide +kernel
theorem dX5_bestMinute_14 : decode cX5_bestMinute 14 = .ok (.iconst 0, 1) := by decide +kernel
theorem dX5_bestMinute_15 : decode cX5_bestMinute 15 = .ok (.istore 4, 2) := by decide +kernel
theorem dX5_bestMinute_17 : decode cX5_bestMinute 17 = .ok (.aload_n 0, 1) := by decide +kernel
theorem dX5_bestMinute_18 : decode cX5_bestMinute 18 = .ok (.getfield 30, 3) := by decide +kernel
theorem dX5_bestMinute_21 : decode cX5_bestMinute 21 = .ok (.aload_n 0, 1) := by decide +kernel
theorem dX5_bestMinute_22 : decode cX5_bestMinute 22 = .ok (.getfield 10, 3) := by decide +kernel
theorem dX5_bestMinute_25 : decode cX5_bestMinute 25 = .ok (.invokevirtual 231, 3) := by decide +kernel
theorem dX5_bestMinute_28 : decode cX5_bestMinute 28 = .ok (.aload_n 0, 1) := by decide +kernel
theorem dX5_bestMinute_29 : decode cX5_bestMinute 29 = .ok (.getfield 33, 3) := by decide +kernel
theorem dX5_bestMinute_32 : decode cX5_bestMinute 32 = .ok (.aload_n 0, 1) := by decide +kernel
theorem dX5_bestMinute_33 : decode cX5_bestMinute 33 = .ok (.getfield 30, 3) := by decide +kernel
theorem dX5_bestMinute_36 : decode cX5_bestMinute 36 = .ok (.invokevirtual 234, 3) := by decide +kernel
theorem dX5_bestMinute_39 : decode cX5_bestMinute 39 = .ok (.iconst 0, 1) := by decide +kernel
theorem dX5_bestMinute_40 : decode cX5_bestMinute 40 = .ok (.istore 5, 2) := by decide +kernel
theorem dX5_bestMinute_42 : decode cX5_bestMinute 42 = .ok (.iload 5, 2) := by decide +kernel
theorem dX5_bestMinute_44 : decode cX5_bestMinute 44 = .ok (.sipush 1500, 3) := by decide +kernel
theorem dX5_bestMinute_47 : decode cX5_bestMinute 47 = .ok (.if_icmp .gt 95, 3) := by decide +kernel
theorem dX5_bestMinute_50 : decode cX5_bestMinute 50 = .ok (.aload_n 0, 1) := by decide +kernel
theorem dX5_bestMinute_51 : decode cX5_bestMinute 51 = .ok (.getfield 30, 3) := by decide +kernel
theorem dX5_bestMinute_54 : decode cX5_bestMinute 54 = .ok (.getfield 95, 3) := by decide +kernel
theorem dX5_bestMinute_57 : decode cX5_bestMinute 57 = .ok (.iload_n 1, 1) := by decide +kernel
theorem dX5_bestMinute_58 : decode cX5_bestMinute 58 = .ok (.iload 5, 2) := by decide +kernel
theorem dX5_bestMinute_60 : decode cX5_bestMinute 60 = .ok (.iastore, 1) := by decide +kernel
theorem dX5_bestMinute_61 : decode cX5_bestMinute 61 = .ok (.aload_n 0, 1) := by decide +kernel
theorem dX5_bestMinute_62 : decode cX5_bestMinute 62 = .ok (.getfield 33, 3) := by decide +kernel
theorem dX5_bestMinute_65 : decode cX5_bestMinute 65 = .ok (.aload_n 0, 1) := by decide +kernel
theorem dX5_bestMinute_66 : decode cX5_bestMinute 66 = .ok (.getfield 30, 3) := by decide +kernel
theorem dX5_bestMinute_69 : decode cX5_bestMinute 69 = .ok (.invokevirtual 237, 3) := by decide +kernel
theorem dX5_bestMinute_72 : decode cX5_bestMinute 72 = .ok (.aload_n 0, 1) := by decide +kernel
theorem dX5_bestMinute_73 : decode cX5_bestMinute 73 = .ok (.getfield 33, 3) := by decide +kernel
theorem dX5_bestMinute_76 : decode cX5_bestMinute 76 = .ok (.getfield 101, 3) := by decide +kernel
theorem dX5_bestMinute_79 : decode cX5_bestMinute 79 = .ok (.istore 6, 2) := by decide +kernel
theorem dX5_bestMinute_81 : decode cX5_bestMinute 81 = .ok (.aload_n 0, 1) := by decide +kernel
theorem dX5_bestMinute_82 : decode cX5_bestMinute 82 = .ok (.getfield 33, 3) := by decide +kernel
theorem dX5_bestMinute_85 : decode cX5_bestMinute 85 = .ok (.getfield 208, 3) := by decide +kernel
theorem dX5_bestMinute_88 : decode cX5_bestMinute 88 = .ok (.istore 7, 2) := by decide +kernel
theorem dX5_bestMinute_90 : decode cX5_bestMinute 90 = .ok (.iload 6, 2) := by decide +kernel
theorem dX5_bestMinute_92 : decode cX5_bestMinute 92 = .ok (.iload_n 3, 1) := by decide +kernel
theorem dX5_bestMinute_93 : decode cX5_bestMinute 93 = .ok (.if_icmp .lt 16, 3) := by decide +kernel
theorem dX5_bestMinute_96 : decode cX5_bestMinute 96 = .ok (.iload 6, 2) := by decide +kernel
theorem dX5_bestMinute_98 : decode cX5_bestMinute 98 = .ok (.iload_n 3, 1) := by decide +kernel
theorem dX5_bestMinute_99 : decode cX5_bestMinute 99 = .ok (.if_icmp .ne 14, 3) := by decide +kernel
theorem dX5_bestMinute_102 : decode cX5_bestMinute 102 = .ok (.iload 7, 2) := by decide +kernel
theorem dX5_bestMinute_104 : decode cX5_bestMinute 104 = .ok (.iload 4, 2) := by decide +kernel
theorem dX5_bestMinute_106 : decode cX5_bestMinute 106 = .ok (.if_icmp .ge 7, 3) := by decide +kernel
theorem dX5_bestMinute_109 : decode cX5_bestMinute 109 = .ok (.iconst 1, 1) := by decide +kernel
theorem dX5_bestMinute_110 : decode cX5_bestMinute 110 = .ok (.goto 4, 3) := by decide +kernel
theorem dX5_bestMinute_113 : decode cX5_bestMinute 113 = .ok (.iconst 0, 1) := by decide +kernel
theorem dX5_bestMinute_114 : decode cX5_bestMinute 114 = .ok (.istore 8, 2) := by decide +kernel
theorem dX5_bestMinute_116 : decode cX5_bestMinute 116 = .ok (.iload 5, 2) := by decide +kernel
theorem dX5_bestMinute_118 : decode cX5_bestMinute 118 = .ok (.ifCond .eq 8, 3) := by decide +kernel
theorem dX5_bestMinute_121 : decode cX5_bestMinute 121 = .ok (.iload 8, 2) := by decide +kernel
theorem dX5_bestMinute_123 : decode cX5_bestMinute 123 = .ok (.ifCond .eq 13, 3) := by decide +kernel
theorem dX5_bestMinute_126 : decode cX5_bestMinute 126 = .ok (.iload 5, 2) := by decide +kernel
theorem dX5_bestMinute_128 : decode cX5_bestMinute 128 = .ok (.istore_n 2, 1) := by decide +kernel
theorem dX5_bestMinute_129 : decode cX5_bestMinute 129 = .ok (.iload 6, 2) := by decide +kernel
theorem dX5_bestMinute_131 : decode cX5_bestMinute 131 = .ok (.istore_n 3, 1) := by decide +kernel
theorem dX5_bestMinute_132 : decode cX5_bestMinute 132 = .ok (.iload 7, 2) := by decide +kernel
theorem dX5_bestMinute_134 : decode cX5_bestMinute 134 = .ok (.istore 4, 2) := by decide +kernel
theorem dX5_bestMinute_136 : decode cX5_bestMinute 136 = .ok (.iinc 5 5, 3) := by decide +kernel
theorem dX5_bestMinute_139 : decode cX5_bestMinute 139 = .ok (.goto (-97), 3) := by decide +kernel
theorem dX5_bestMinute_142 : decode cX5_bestMinute 142 = .ok (.iload_n 2, 1) := by decide +kernel
theorem dX5_bestMinute_143 : decode cX5_bestMinute 143 = .ok (.ireturn, 1) := by decide +kernel
theorem dX5_fullest_0 : decode cX5_fullest 0 = .ok (.bipush (-106), 2) := by decide +kernel
theorem dX5_fullest_2 : decode cX5_fullest 2 = .ok (.istore_n 1, 1) := by decide +kernel
theorem dX5_fullest_3 : decode cX5_fullest 3 = .ok (.iconst 0, 1) := by decide +kernel
theorem dX5_fullest_4 : decode cX5_fullest 4 = .ok (.istore_n 2, 1) := by decide +kernel
theorem dX5_fullest_5 : decode cX5_fullest 5 = .ok (.iconst 0, 1) := by decide +kernel
theorem dX5_fullest_6 : decode cX5_fullest 6 = .ok (.istore_n 3, 1) := by decide +kernel
theorem dX5_fullest_7 : decode cX5_fullest 7 = .ok (.iload_n 3, 1) := by decide +kernel
theorem dX5_fullest_8 : decode cX5_fullest 8 = .ok (.bipush 8, 2) := by decide +kernel
theorem dX5_fullest_10 : decode cX5_fullest 10 = .ok (.if_icmp .ge 34, 3) := by decide +kernel
theorem dX5_fullest_13 : decode cX5_fullest 13 = .ok (.aload_n 0, 1) := by decide +kernel
theorem dX5_fullest_14 : decode cX5_fullest 14 = .ok (.getfield 19, 3) := by decide +kernel
theorem dX5_fullest_17 : decode cX5_fullest 17 = .ok (.getfield 167, 3) := by decide +kernel
theorem dX5_fullest_20 : decode cX5_fullest 20 = .ok (.iload_n 3, 1) := by decide +kernel
theorem dX5_fullest_21 : decode cX5_fullest 21 = .ok (.iaload, 1) := by decide +kernel
theorem dX5_fullest_22 : decode cX5_fullest 22 = .ok (.iload_n 2, 1) := by decide +kernel
theorem dX5_fullest_23 : decode cX5_fullest 23 = .ok (.if_icmp .le 15, 3) := by decide +kernel
theorem dX5_fullest_26 : decode cX5_fullest 26 = .ok (.iload_n 3, 1) := by decide +kernel
theorem dX5_fullest_27 : decode cX5_fullest 27 = .ok (.istore_n 1, 1) := by decide +kernel
theorem dX5_fullest_28 : decode cX5_fullest 28 = .ok (.aload_n 0, 1) := by decide +kernel
theorem dX5_fullest_29 : decode cX5_fullest 29 = .ok (.getfield 19, 3) := by decide +kernel
theorem dX5_fullest_32 : decode cX5_fullest 32 = .ok (.getfield 167, 3) := by decide +kernel
theorem dX5_fullest_35 : decode cX5_fullest 35 = .ok (.iload_n 3, 1) := by decide +kernel
theorem dX5_fullest_36 : decode cX5_fullest 36 = .ok (.iaload, 1) := by decide +kernel
theorem dX5_fullest_37 : decode cX5_fullest 37 = .ok (.istore_n 2, 1) := by decide +kernel
theorem dX5_fullest_38 : decode cX5_fullest 38 = .ok (.iinc 3 1, 3) := by decide +kernel
theorem dX5_fullest_41 : decode cX5_fullest 41 = .ok (.goto (-34), 3) := by decide +kernel
theorem dX5_fullest_44 : decode cX5_fullest 44 = .ok (.iload_n 1, 1) := by decide +kernel
theorem dX5_fullest_45 : decode cX5_fullest 45 = .ok (.ireturn, 1) := by decide +kernel
theorem dX5_put_0 : decode cX5_put 0 = .ok (.lload_n 1, 1) := by decide +kernel
theorem dX5_put_1 : decode cX5_put 1 = .ok (.invokestatic 240, 3) := by decide +kernel
theorem dX5_put_4 : decode cX5_put 4 = .ok (.istore_n 3, 1) := by decide +kernel
theorem dX5_put_5 : decode cX5_put 5 = .ok (.iload_n 3, 1) := by decide +kernel
theorem dX5_put_6 : decode cX5_put 6 = .ok (.ifCond .ne 6, 3) := by decide +kernel
theorem dX5_put_9 : decode cX5_put 9 = .ok (.bipush (-102), 2) := by decide +kernel
theorem dX5_put_11 : decode cX5_put 11 = .ok (.ireturn, 1) := by decide +kernel
theorem dX5_put_12 : decode cX5_put 12 = .ok (.aload_n 0, 1) := by decide +kernel
theorem dX5_put_13 : decode cX5_put 13 = .ok (.getfield 39, 3) := by decide +kernel
theorem dX5_put_16 : decode cX5_put 16 = .ok (.getfield 122, 3) := by decide +kernel
theorem dX5_put_19 : decode cX5_put 19 = .ok (.iload_n 3, 1) := by decide +kernel
theorem dX5_put_20 : decode cX5_put 20 = .ok (.iadd, 1) := by decide +kernel
theorem dX5_put_21 : decode cX5_put 21 = .ok (.bipush 60, 2) := by decide +kernel
theorem dX5_put_23 : decode cX5_put 23 = .ok (.if_icmp .le 6, 3) := by decide +kernel
theorem dX5_put_26 : decode cX5_put 26 = .ok (.bipush (-104), 2) := by decide +kernel
theorem dX5_put_28 : decode cX5_put 28 = .ok (.ireturn, 1) := by decide +kernel
theorem dX5_put_29 : decode cX5_put 29 = .ok (.aload_n 0, 1) := by decide +kernel
theorem dX5_put_30 : decode cX5_put 30 = .ok (.getfield 39, 3) := by decide +kernel
theorem dX5_put_33 : decode cX5_put 33 = .ok (.lload_n 1, 1) := by decide +kernel
theorem dX5_put_34 : decode cX5_put 34 = .ok (.iload_n 3, 1) := by decide +kernel
theorem dX5_put_35 : decode cX5_put 35 = .ok (.invokevirtual 244, 3) := by decide +kernel
theorem dX5_put_38 : decode cX5_put 38 = .ok (.aload_n 0, 1) := by decide +kernel
theorem dX5_put_39 : decode cX5_put 39 = .ok (.getfield 39, 3) := by decide +kernel
theorem dX5_put_42 : decode cX5_put 42 = .ok (.getfield 122, 3) := by decide +kernel
theorem dX5_put_45 : decode cX5_put 45 = .ok (.ireturn, 1) := by decide +kernel
theorem dX5_wipe_0 : decode cX5_wipe 0 = .ok (.aload_n 0, 1) := by decide +kernel
theorem dX5_wipe_1 : decode cX5_wipe 1 = .ok (.getfield 39, 3) := by decide +kernel
theorem dX5_wipe_4 : decode cX5_wipe 4 = .ok (.getfield 122, 3) := by decide +kernel
theorem dX5_wipe_7 : decode cX5_wipe 7 = .ok (.istore_n 1, 1) := by decide +kernel
theorem dX5_wipe_8 : decode cX5_wipe 8 = .ok (.aload_n 0, 1) := by decide +kernel
theorem dX5_wipe_9 : decode cX5_wipe 9 = .ok (.getfield 39, 3) := by decide +kernel
theorem dX5_wipe_12 : decode cX5_wipe 12 = .ok (.iconst 0, 1) := by decide +kernel
theorem dX5_wipe_13 : decode cX5_wipe 13 = .ok (.putfield 122, 3) := by decide +kernel
theorem dX5_wipe_16 : decode cX5_wipe 16 = .ok (.iload_n 1, 1) := by decide +kernel
theorem dX5_wipe_17 : decode cX5_wipe 17 = .ok (.ireturn, 1) := by decide +kernel
theorem dX5_fault_0 : decode cX5_fault 0 = .ok (.aload_n 0, 1) := by decide +kernel
theorem dX5_fault_1 : decode cX5_fault 1 = .ok (.getfield 39, 3) := by decide +kernel
theorem dX5_fault_4 : decode cX5_fault 4 = .ok (.invokevirtual 112, 3) := by decide +kernel
theorem dX5_fault_7 : decode cX5_fault 7 = .ok (.ireturn, 1) := by decide +kernel
theorem dX5_undo_0 : decode cX5_undo 0 = .ok (.aload_n 0, 1) := by decide +kernel
theorem dX5_undo_1 : decode cX5_undo 1 = .ok (.getfield 46, 3) := by decide +kernel
theorem dX5_undo_4 : decode cX5_undo 4 = .ok (.getfield 224, 3) := by decide +kernel
theorem dX5_undo_7 : decode cX5_undo 7 = .ok (.ifCond .ne 6, 3) := by decide +kernel
theorem dX5_undo_10 : decode cX5_undo 10 = .ok (.bipush (-105), 2) := by decide +kernel
theorem dX5_undo_12 : decode cX5_undo 12 = .ok (.ireturn, 1) := by decide +kernel
theorem dX5_undo_13 : decode cX5_undo 13 = .ok (.aload_n 0, 1) := by decide +kernel
theorem dX5_undo_14 : decode cX5_undo 14 = .ok (.getfield 46, 3) := by decide +kernel
theorem dX5_undo_17 : decode cX5_undo 17 = .ok (.aload_n 0, 1) := by decide +kernel
theorem dX5_undo_18 : decode cX5_undo 18 = .ok (.getfield 10, 3) := by decide +kernel
theorem dX5_undo_21 : decode cX5_undo 21 = .ok (.invokevirtual 248, 3) := by decide +kernel
theorem dX5_undo_24 : decode cX5_undo 24 = .ok (.aload_n 0, 1) := by decide +kernel
theorem dX5_undo_25 : decode cX5_undo 25 = .ok (.getfield 19, 3) := by decide +kernel
theorem dX5_undo_28 : decode cX5_undo 28 = .ok (.aload_n 0, 1) := by decide +kernel
theorem dX5_undo_29 : decode cX5_undo 29 = .ok (.getfield 10, 3) := by decide +kernel
theorem dX5_undo_32 : decode cX5_undo 32 = .ok (.invokevirtual 72, 3) := by decide +kernel
theorem dX5_undo_35 : decode cX5_undo 35 = .ok (.aload_n 0, 1) := by decide +kernel
theorem dX5_undo_36 : decode cX5_undo 36 = .ok (.getfield 46, 3) := by decide +kernel
theorem dX5_undo_39 : decode cX5_undo 39 = .ok (.getfield 224, 3) := by decide +kernel
theorem dX5_undo_42 : decode cX5_undo 42 = .ok (.ireturn, 1) := by decide +kernel
theorem dX5_save_0 : decode cX5_save 0 = .ok (.iload_n 1, 1) := by decide +kernel
theorem dX5_save_1 : decode cX5_save 1 = .ok (.invokestatic 251, 3) := by decide +kernel
theorem dX5_save_4 : decode cX5_save 4 = .ok (.ifCond .ne 6, 3) := by decide +kernel
theorem dX5_save_7 : decode cX5_save 7 = .ok (.bipush (-102), 2) := by decide +kernel
theorem dX5_save_9 : decode cX5_save 9 = .ok (.ireturn, 1) := by decide +kernel
theorem dX5_save_10 : decode cX5_save 10 = .ok (.aload_n 0, 1) := by decide +kernel
theorem dX5_save_11 : decode cX5_save 11 = .ok (.getfield 50, 3) := by decide +kernel
theorem dX5_save_14 : decode cX5_save 14 = .ok (.iload_n 1, 1) := by decide +kernel
theorem dX5_save_15 : decode cX5_save 15 = .ok (.aaload, 1) := by decide +kernel
theorem dX5_save_16 : decode cX5_save 16 = .ok (.astore_n 2, 1) := by decide +kernel
theorem dX5_save_17 : decode cX5_save 17 = .ok (.aload_n 2, 1) := by decide +kernel
theorem dX5_save_18 : decode cX5_save 18 = .ok (.ifnonnull 18, 3) := by decide +kernel
theorem dX5_save_21 : decode cX5_save 21 = .ok (.new 7, 3) := by decide +kernel
theorem dX5_save_24 : decode cX5_save 24 = .ok (.dup, 1) := by decide +kernel
theorem dX5_save_25 : decode cX5_save 25 = .ok (.invokespecial 9, 3) := by decide +kernel
theorem dX5_save_28 : decode cX5_save 28 = .ok (.astore_n 2, 1) := by decide +kernel
theorem dX5_save_29 : decode cX5_save 29 = .ok (.aload_n 0, 1) := by decide +kernel
theorem dX5_save_30 : decode cX5_save 30 = .ok (.getfield 50, 3) := by decide +kernel
theorem dX5_save_33 : decode cX5_save 33 = .ok (.iload_n 1, 1) := by decide +kernel
theorem dX5_save_34 : decode cX5_save 34 = .ok (.aload_n 2, 1) := by decide +kernel
theorem dX5_save_35 : decode cX5_save 35 = .ok (.aastore, 1) := by decide +kernel
theorem dX5_save_36 : decode cX5_save 36 = .ok (.aload_n 2, 1) := by decide +kernel
theorem dX5_save_37 : decode cX5_save 37 = .ok (.aload_n 0, 1) := by decide +kernel
theorem dX5_save_38 : decode cX5_save 38 = .ok (.getfield 10, 3) := by decide +kernel
theorem dX5_save_41 : decode cX5_save 41 = .ok (.invokevirtual 231, 3) := by decide +kernel
theorem dX5_save_44 : decode cX5_save 44 = .ok (.aload_n 0, 1) := by decide +kernel
theorem dX5_save_45 : decode cX5_save 45 = .ok (.getfield 10, 3) := by decide +kernel
theorem dX5_save_48 : decode cX5_save 48 = .ok (.getfield 105, 3) := by decide +kernel
theorem dX5_save_51 : decode cX5_save 51 = .ok (.ireturn, 1) := by decide +kernel
theorem dX5_restore_0 : decode cX5_restore 0 = .ok (.iload_n 1, 1) := by decide +kernel
theorem dX5_restore_1 : decode cX5_restore 1 = .ok (.invokestatic 251, 3) := by decide +kernel
theorem dX5_restore_4 : decode cX5_restore 4 = .ok (.ifCond .ne 6, 3) := by decide +kernel
theorem dX5_restore_7 : decode cX5_restore 7 = .ok (.bipush (-102), 2) := by decide +kernel
theorem dX5_restore_9 : decode cX5_restore 9 = .ok (.ireturn, 1) := by decide +kernel
theorem dX5_restore_10 : decode cX5_restore 10 = .ok (.aload_n 0, 1) := by decide +kernel
theorem dX5_restore_11 : decode cX5_restore 11 = .ok (.getfield 50, 3) := by decide +kernel
theorem dX5_restore_14 : decode cX5_restore 14 = .ok (.iload_n 1, 1) := by decide +kernel
theorem dX5_restore_15 : decode cX5_restore 15 = .ok (.aaload, 1) := by decide +kernel
theorem dX5_restore_16 : decode cX5_restore 16 = .ok (.astore_n 2, 1) := by decide +kernel
theorem dX5_restore_17 : decode cX5_restore 17 = .ok (.aload_n 2, 1) := by decide +kernel
theorem dX5_restore_18 : decode cX5_restore 18 = .ok (.ifnonnull 6, 3) := by decide +kernel
theorem dX5_restore_21 : decode cX5_restore 21 = .ok (.bipush (-105), 2) := by decide +kernel
theorem dX5_restore_23 : decode cX5_restore 23 = .ok (.ireturn, 1) := by decide +kernel
theorem dX5_restore_24 : decode cX5_restore 24 = .ok (.aload_n 0, 1) := by decide +kernel
theorem dX5_restore_25 : decode cX5_restore 25 = .ok (.getfield 46, 3) := by decide +kernel
theorem dX5_restore_28 : decode cX5_restore 28 = .ok (.aload_n 0, 1) := by decide +kernel
theorem dX5_restore_29 : decode cX5_restore 29 = .ok (.getfield 10, 3) := by decide +kernel
theorem dX5_restore_32 : decode cX5_restore 32 = .ok (.invokevirtual 68, 3) := by decide +kernel
theorem dX5_restore_35 : decode cX5_restore 35 = .ok (.aload_n 0, 1) := by decide +kernel
theorem dX5_restore_36 : decode cX5_restore 36 = .ok (.getfield 10, 3) := by decide +kernel
theorem dX5_restore_39 : decode cX5_restore 39 = .ok (.aload_n 2, 1) := by decide +kernel
theorem dX5_restore_40 : decode cX5_restore 40 = .ok (.invokevirtual 231, 3) := by decide +kernel
theorem dX5_restore_43 : decode cX5_restore 43 = .ok (.aload_n 0, 1) := by decide +kernel
theorem dX5_restore_44 : decode cX5_restore 44 = .ok (.getfield 19, 3) := by decide +kernel
theorem dX5_restore_47 : decode cX5_restore 47 = .ok (.aload_n 0, 1) := by decide +kernel
theorem dX5_restore_48 : decode cX5_restore 48 = .ok (.getfield 10, 3) := by decide +kernel
theorem dX5_restore_51 : decode cX5_restore 51 = .ok (.invokevirtual 72, 3) := by decide +kernel
theorem dX5_restore_54 : decode cX5_restore 54 = .ok (.aload_n 0, 1) := by decide +kernel
theorem dX5_restore_55 : decode cX5_restore 55 = .ok (.getfield 10, 3) := by decide +kernel
theorem dX5_restore_58 : decode cX5_restore 58 = .ok (.getfield 105, 3) := by decide +kernel
theorem dX5_restore_61 : decode cX5_restore 61 = .ok (.ireturn, 1) := by decide +kernel
theorem dX5_isIn_0 : decode cX5_isIn 0 = .ok (.iload_n 0, 1) := by decide +kernel
theorem dX5_isIn_1 : decode cX5_isIn 1 = .ok (.iload_n 1, 1) := by decide +kernel
theorem dX5_isIn_2 : decode cX5_isIn 2 = .ok (.if_icmp .lt 12, 3) := by decide +kernel
theorem dX5_isIn_5 : decode cX5_isIn 5 = .ok (.iload_n 0, 1) := by decide +kernel
theorem dX5_isIn_6 : decode cX5_isIn 6 = .ok (.iload_n 2, 1) := by decide +kernel
theorem dX5_isIn_7 : decode cX5_isIn 7 = .ok (.if_icmp .gt 7, 3) := by decide +kernel
theorem dX5_isIn_10 : decode cX5_isIn 10 = .ok (.iconst 1, 1) := by decide +kernel
theorem dX5_isIn_11 : decode cX5_isIn 11 = .ok (.goto 4, 3) := by decide +kernel
theorem dX5_isIn_14 : decode cX5_isIn 14 = .ok (.iconst 0, 1) := by decide +kernel
theorem dX5_isIn_15 : decode cX5_isIn 15 = .ok (.ireturn, 1) := by decide +kernel
theorem dX5_isFlight_0 : decode cX5_isFlight 0 = .ok (.iload_n 0, 1) := by decide +kernel
theorem dX5_isFlight_1 : decode cX5_isFlight 1 = .ok (.iconst 0, 1) := by decide +kernel
theorem dX5_isFlight_2 : decode cX5_isFlight 2 = .ok (.iconst 5, 1) := by decide +kernel
theorem dX5_isFlight_3 : decode cX5_isFlight 3 = .ok (.invokestatic 54, 3) := by decide +kernel
theorem dX5_isFlight_6 : decode cX5_isFlight 6 = .ok (.ireturn, 1) := by decide +kernel
theorem dX5_isDelay_0 : decode cX5_isDelay 0 = .ok (.iload_n 0, 1) := by decide +kernel
theorem dX5_isDelay_1 : decode cX5_isDelay 1 = .ok (.bipush (-30), 2) := by decide +kernel
theorem dX5_isDelay_3 : decode cX5_isDelay 3 = .ok (.sipush 300, 3) := by decide +kernel
theorem dX5_isDelay_6 : decode cX5_isDelay 6 = .ok (.invokestatic 54, 3) := by decide +kernel
theorem dX5_isDelay_9 : decode cX5_isDelay 9 = .ok (.ireturn, 1) := by decide +kernel
theorem dX5_isVan_0 : decode cX5_isVan 0 = .ok (.iload_n 0, 1) := by decide +kernel
theorem dX5_isVan_1 : decode cX5_isVan 1 = .ok (.iconst 0, 1) := by decide +kernel
theorem dX5_isVan_2 : decode cX5_isVan 2 = .ok (.bipush 7, 2) := by decide +kernel
theorem dX5_isVan_4 : decode cX5_isVan 4 = .ok (.invokestatic 54, 3) := by decide +kernel
theorem dX5_isVan_7 : decode cX5_isVan 7 = .ok (.ireturn, 1) := by decide +kernel
theorem dX5_isSlot_0 : decode cX5_isSlot 0 = .ok (.iload_n 0, 1) := by decide +kernel
theorem dX5_isSlot_1 : decode cX5_isSlot 1 = .ok (.iconst 0, 1) := by decide +kernel
theorem dX5_isSlot_2 : decode cX5_isSlot 2 = .ok (.iconst 1, 1) := by decide +kernel
theorem dX5_isSlot_3 : decode cX5_isSlot 3 = .ok (.invokestatic 54, 3) := by decide +kernel
theorem dX5_isSlot_6 : decode cX5_isSlot 6 = .ok (.ireturn, 1) := by decide +kernel
theorem dX5_isRider_0 : decode cX5_isRider 0 = .ok (.iload_n 1, 1) := by decide +kernel
theorem dX5_isRider_1 : decode cX5_isRider 1 = .ok (.iconst 0, 1) := by decide +kernel
theorem dX5_isRider_2 : decode cX5_isRider 2 = .ok (.aload_n 0, 1) := by decide +kernel
theorem dX5_isRider_3 : decode cX5_isRider 3 = .ok (.getfield 10, 3) := by decide +kernel
theorem dX5_isRider_6 : decode cX5_isRider 6 = .ok (.getfield 105, 3) := by decide +kernel
theorem dX5_isRider_9 : decode cX5_isRider 9 = .ok (.iconst 1, 1) := by decide +kernel
theorem dX5_isRider_10 : decode cX5_isRider 10 = .ok (.isub, 1) := by decide +kernel
theorem dX5_isRider_11 : decode cX5_isRider 11 = .ok (.invokestatic 54, 3) := by decide +kernel
theorem dX5_isRider_14 : decode cX5_isRider 14 = .ok (.ireturn, 1) := by decide +kernel
theorem dX5_minuteAtDoor_0 : decode cX5_minuteAtDoor 0 = .ok (.aload_n 0, 1) := by decide +kernel
theorem dX5_minuteAtDoor_1 : decode cX5_minuteAtDoor 1 = .ok (.getfield 19, 3) := by decide +kernel
theorem dX5_minuteAtDoor_4 : decode cX5_minuteAtDoor 4 = .ok (.getfield 139, 3) := by decide +kernel
theorem dX5_minuteAtDoor_7 : decode cX5_minuteAtDoor 7 = .ok (.iload_n 1, 1) := by decide +kernel
theorem dX5_minuteAtDoor_8 : decode cX5_minuteAtDoor 8 = .ok (.iaload, 1) := by decide +kernel
theorem dX5_minuteAtDoor_9 : decode cX5_minuteAtDoor 9 = .ok (.istore_n 2, 1) := by decide +kernel
theorem dX5_minuteAtDoor_10 : decode cX5_minuteAtDoor 10 = .ok (.iload_n 2, 1) := by decide +kernel
theorem dX5_minuteAtDoor_11 : decode cX5_minuteAtDoor 11 = .ok (.invokestatic 92, 3) := by decide +kernel
theorem dX5_minuteAtDoor_14 : decode cX5_minuteAtDoor 14 = .ok (.ifCond .ne 6, 3) := by decide +kernel
theorem dX5_minuteAtDoor_17 : decode cX5_minuteAtDoor 17 = .ok (.bipush (-106), 2) := by decide +kernel
theorem dX5_minuteAtDoor_19 : decode cX5_minuteAtDoor 19 = .ok (.ireturn, 1) := by decide +kernel
theorem dX5_minuteAtDoor_20 : decode cX5_minuteAtDoor 20 = .ok (.aload_n 0, 1) := by decide +kernel
theorem dX5_minuteAtDoor_21 : decode cX5_minuteAtDoor 21 = .ok (.getfield 26, 3) := by decide +kernel
theorem dX5_minuteAtDoor_24 : decode cX5_minuteAtDoor 24 = .ok (.aload_n 0, 1) := by decide +kernel
theorem dX5_minuteAtDoor_25 : decode cX5_minuteAtDoor 25 = .ok (.getfield 10, 3) := by decide +kernel
theorem dX5_minuteAtDoor_28 : decode cX5_minuteAtDoor 28 = .ok (.aload_n 0, 1) := by decide +kernel
theorem dX5_minuteAtDoor_29 : decode cX5_minuteAtDoor 29 = .ok (.getfield 19, 3) := by decide +kernel
theorem dX5_minuteAtDoor_32 : decode cX5_minuteAtDoor 32 = .ok (.iload_n 2, 1) := by decide +kernel
theorem dX5_minuteAtDoor_33 : decode cX5_minuteAtDoor 33 = .ok (.invokevirtual 163, 3) := by decide +kernel
theorem dX5_minuteAtDoor_36 : decode cX5_minuteAtDoor 36 = .ok (.aload_n 0, 1) := by decide +kernel
theorem dX5_minuteAtDoor_37 : decode cX5_minuteAtDoor 37 = .ok (.getfield 26, 3) := by decide +kernel
theorem dX5_minuteAtDoor_40 : decode cX5_minuteAtDoor 40 = .ok (.aload_n 0, 1) := by decide +kernel
theorem dX5_minuteAtDoor_41 : decode cX5_minuteAtDoor 41 = .ok (.getfield 10, 3) := by decide +kernel
theorem dX5_minuteAtDoor_44 : decode cX5_minuteAtDoor 44 = .ok (.iload_n 1, 1) := by decide +kernel
theorem dX5_minuteAtDoor_45 : decode cX5_minuteAtDoor 45 = .ok (.invokevirtual 254, 3) := by decide +kernel
theorem dX5_minuteAtDoor_48 : decode cX5_minuteAtDoor 48 = .ok (.invokevirtual 257, 3) := by decide +kernel
theorem dX5_minuteAtDoor_51 : decode cX5_minuteAtDoor 51 = .ok (.ireturn, 1) := by decide +kernel
theorem dX5_allFares_0 : decode cX5_allFares 0 = .ok (.iconst 0, 1) := by decide +kernel
theorem dX5_allFares_1 : decode cX5_allFares 1 = .ok (.istore_n 1, 1) := by decide +kernel
theorem dX5_allFares_2 : decode cX5_allFares 2 = .ok (.iconst 0, 1) := by decide +kernel
theorem dX5_allFares_3 : decode cX5_allFares 3 = .ok (.istore_n 2, 1) := by decide +kernel
theorem dX5_allFares_4 : decode cX5_allFares 4 = .ok (.iload_n 2, 1) := by decide +kernel
theorem dX5_allFares_5 : decode cX5_allFares 5 = .ok (.aload_n 0, 1) := by decide +kernel
theorem dX5_allFares_6 : decode cX5_allFares 6 = .ok (.getfield 10, 3) := by decide +kernel
theorem dX5_allFares_9 : decode cX5_allFares 9 = .ok (.getfield 105, 3) := by decide +kernel
theorem dX5_allFares_12 : decode cX5_allFares 12 = .ok (.if_icmp .ge 24, 3) := by decide +kernel
theorem dX5_allFares_15 : decode cX5_allFares 15 = .ok (.iload_n 1, 1) := by decide +kernel
theorem dX5_allFares_16 : decode cX5_allFares 16 = .ok (.aload_n 0, 1) := by decide +kernel
theorem dX5_allFares_17 : decode cX5_allFares 17 = .ok (.getfield 19, 3) := by decide +kernel
theorem dX5_allFares_20 : decode cX5_allFares 20 = .ok (.aload_n 0, 1) := by decide +kernel
theorem dX5_allFares_21 : decode cX5_allFares 21 = .ok (.getfield 10, 3) := by decide +kernel
theorem dX5_allFares_24 : decode cX5_allFares 24 = .ok (.iload_n 2, 1) := by decide +kernel
theorem dX5_allFares_25 : decode cX5_allFares 25 = .ok (.invokevirtual 128, 3) := by decide +kernel
theorem dX5_allFares_28 : decode cX5_allFares 28 = .ok (.iadd, 1) := by decide +kernel
theorem dX5_allFares_29 : decode cX5_allFares 29 = .ok (.istore_n 1, 1) := by decide +kernel
theorem dX5_allFares_30 : decode cX5_allFares 30 = .ok (.iinc 2 1, 3) := by decide +kernel
theorem dX5_allFares_33 : decode cX5_allFares 33 = .ok (.goto (-29), 3) := by decide +kernel
theorem dX5_allFares_36 : decode cX5_allFares 36 = .ok (.iload_n 1, 1) := by decide +kernel
theorem dX5_allFares_37 : decode cX5_allFares 37 = .ok (.ireturn, 1) := by decide +kernel
theorem dX5_allStops_0 : decode cX5_allStops 0 = .ok (.iconst 0, 1) := by decide +kernel
theorem dX5_allStops_1 : decode cX5_allStops 1 = .ok (.istore_n 1, 1) := by decide +kernel
theorem dX5_allStops_2 : decode cX5_allStops 2 = .ok (.iconst 0, 1) := by decide +kernel
theorem dX5_allStops_3 : decode cX5_allStops 3 = .ok (.istore_n 2, 1) := by decide +kernel
theorem dX5_allStops_4 : decode cX5_allStops 4 = .ok (.iload_n 2, 1) := by decide +kernel
theorem dX5_allStops_5 : decode cX5_allStops 5 = .ok (.bipush 8, 2) := by decide +kernel
theorem dX5_allStops_7 : decode cX5_allStops 7 = .ok (.if_icmp .ge 35, 3) := by decide +kernel
theorem dX5_allStops_10 : decode cX5_allStops 10 = .ok (.aload_n 0, 1) := by decide +kernel
theorem dX5_allStops_11 : decode cX5_allStops 11 = .ok (.getfield 26, 3) := by decide +kernel
theorem dX5_allStops_14 : decode cX5_allStops 14 = .ok (.aload_n 0, 1) := by decide +kernel
theorem dX5_allStops_15 : decode cX5_allStops 15 = .ok (.getfield 10, 3) := by decide +kernel
theorem dX5_allStops_18 : decode cX5_allStops 18 = .ok (.aload_n 0, 1) := by decide +kernel
theorem dX5_allStops_19 : decode cX5_allStops 19 = .ok (.getfield 19, 3) := by decide +kernel
theorem dX5_allStops_22 : decode cX5_allStops 22 = .ok (.iload_n 2, 1) := by decide +kernel
theorem dX5_allStops_23 : decode cX5_allStops 23 = .ok (.invokevirtual 163, 3) := by decide +kernel
theorem dX5_allStops_26 : decode cX5_allStops 26 = .ok (.iload_n 1, 1) := by decide +kernel
theorem dX5_allStops_27 : decode cX5_allStops 27 = .ok (.aload_n 0, 1) := by decide +kernel
theorem dX5_allStops_28 : decode cX5_allStops 28 = .ok (.getfield 26, 3) := by decide +kernel
theorem dX5_allStops_31 : decode cX5_allStops 31 = .ok (.getfield 176, 3) := by decide +kernel
theorem dX5_allStops_34 : decode cX5_allStops 34 = .ok (.iadd, 1) := by decide +kernel
theorem dX5_allStops_35 : decode cX5_allStops 35 = .ok (.istore_n 1, 1) := by decide +kernel
theorem dX5_allStops_36 : decode cX5_allStops 36 = .ok (.iinc 2 1, 3) := by decide +kernel
theorem dX5_allStops_39 : decode cX5_allStops 39 = .ok (.goto (-35), 3) := by decide +kernel
theorem dX5_allStops_42 : decode cX5_allStops 42 = .ok (.iload_n 1, 1) := by decide +kernel
theorem dX5_allStops_43 : decode cX5_allStops 43 = .ok (.ireturn, 1) := by decide +kernel
theorem dX5_lastAtDoor_0 : decode cX5_lastAtDoor 0 = .ok (.bipush (-106), 2) := by decide +kernel
theorem dX5_lastAtDoor_2 : decode cX5_lastAtDoor 2 = .ok (.istore_n 3, 1) := by decide +kernel
theorem dX5_lastAtDoor_3 : decode cX5_lastAtDoor 3 = .ok (.iconst 0, 1) := by decide +kernel
theorem dX5_lastAtDoor_4 : decode cX5_lastAtDoor 4 = .ok (.istore 4, 2) := by decide +kernel
theorem dX5_lastAtDoor_6 : decode cX5_lastAtDoor 6 = .ok (.iload 4, 2) := by decide +kernel
theorem dX5_lastAtDoor_8 : decode cX5_lastAtDoor 8 = .ok (.bipush 8, 2) := by decide +kernel
theorem dX5_lastAtDoor_10 : decode cX5_lastAtDoor 10 = .ok (.if_icmp .ge 42, 3) := by decide +kernel
theorem dX5_lastAtDoor_13 : decode cX5_lastAtDoor 13 = .ok (.aload_n 0, 1) := by decide +kernel
theorem dX5_lastAtDoor_14 : decode cX5_lastAtDoor 14 = .ok (.getfield 26, 3) := by decide +kernel
theorem dX5_lastAtDoor_17 : decode cX5_lastAtDoor 17 = .ok (.aload_n 1, 1) := by decide +kernel
theorem dX5_lastAtDoor_18 : decode cX5_lastAtDoor 18 = .ok (.aload_n 2, 1) := by decide +kernel
theorem dX5_lastAtDoor_19 : decode cX5_lastAtDoor 19 = .ok (.iload 4, 2) := by decide +kernel
theorem dX5_lastAtDoor_21 : decode cX5_lastAtDoor 21 = .ok (.invokevirtual 163, 3) := by decide +kernel
theorem dX5_lastAtDoor_24 : decode cX5_lastAtDoor 24 = .ok (.aload_n 0, 1) := by decide +kernel
theorem dX5_lastAtDoor_25 : decode cX5_lastAtDoor 25 = .ok (.getfield 26, 3) := by decide +kernel
theorem dX5_lastAtDoor_28 : decode cX5_lastAtDoor 28 = .ok (.getfield 176, 3) := by decide +kernel
theorem dX5_lastAtDoor_31 : decode cX5_lastAtDoor 31 = .ok (.ifCond .le 15, 3) := by decide +kernel
theorem dX5_lastAtDoor_34 : decode cX5_lastAtDoor 34 = .ok (.iload_n 3, 1) := by decide +kernel
theorem dX5_lastAtDoor_35 : decode cX5_lastAtDoor 35 = .ok (.aload_n 0, 1) := by decide +kernel
theorem dX5_lastAtDoor_36 : decode cX5_lastAtDoor 36 = .ok (.getfield 26, 3) := by decide +kernel
theorem dX5_lastAtDoor_39 : decode cX5_lastAtDoor 39 = .ok (.invokevirtual 179, 3) := by decide +kernel
theorem dX5_lastAtDoor_42 : decode cX5_lastAtDoor 42 = .ok (.invokestatic 260, 3) := by decide +kernel
theorem dX5_lastAtDoor_45 : decode cX5_lastAtDoor 45 = .ok (.istore_n 3, 1) := by decide +kernel
theorem dX5_lastAtDoor_46 : decode cX5_lastAtDoor 46 = .ok (.iinc 4 1, 3) := by decide +kernel
theorem dX5_lastAtDoor_49 : decode cX5_lastAtDoor 49 = .ok (.goto (-43), 3) := by decide +kernel
theorem dX5_lastAtDoor_52 : decode cX5_lastAtDoor 52 = .ok (.iload_n 3, 1) := by decide +kernel
theorem dX5_lastAtDoor_53 : decode cX5_lastAtDoor 53 = .ok (.ireturn, 1) := by decide +kernel
theorem dX6_init_0 : decode cX6_init 0 = .ok (.aload_n 0, 1) := by decide +kernel
theorem dX6_init_1 : decode cX6_init 1 = .ok (.invokespecial 1, 3) := by decide +kernel
theorem dX6_init_4 : decode cX6_init 4 = .ok (.aload_n 0, 1) := by decide +kernel
theorem dX6_init_5 : decode cX6_init 5 = .ok (.sipush 130, 3) := by decide +kernel
theorem dX6_init_8 : decode cX6_init 8 = .ok (.newarray .int, 2) := by decide +kernel
theorem dX6_init_10 : decode cX6_init 10 = .ok (.putfield 7, 3) := by decide +kernel
theorem dX6_init_13 : decode cX6_init 13 = .ok (.aload_n 0, 1) := by decide +kernel
theorem dX6_init_14 : decode cX6_init 14 = .ok (.sipush 780, 3) := by decide +kernel
theorem dX6_init_17 : decode cX6_init 17 = .ok (.newarray .int, 2) := by decide +kernel
theorem dX6_init_19 : decode cX6_init 19 = .ok (.putfield 13, 3) := by decide +kernel
theorem dX6_init_22 : decode cX6_init 22 = .ok (.aload_n 0, 1) := by decide +kernel
theorem dX6_init_23 : decode cX6_init 23 = .ok (.sipush 260, 3) := by decide +kernel
theorem dX6_init_26 : decode cX6_init 26 = .ok (.newarray .int, 2) := by decide +kernel
theorem dX6_init_28 : decode cX6_init 28 = .ok (.putfield 16, 3) := by decide +kernel
theorem dX6_init_31 : decode cX6_init 31 = .ok (.aload_n 0, 1) := by decide +kernel
theorem dX6_init_32 : decode cX6_init 32 = .ok (.iconst 2, 1) := by decide +kernel
theorem dX6_init_33 : decode cX6_init 33 = .ok (.newarray .int, 2) := by decide +kernel
theorem dX6_init_35 : decode cX6_init 35 = .ok (.putfield 19, 3) := by decide +kernel
theorem dX6_init_38 : decode cX6_init 38 = .ok (.aload_n 0, 1) := by decide +kernel
theorem dX6_init_39 : decode cX6_init 39 = .ok (.bipush 60, 2) := by decide +kernel
theorem dX6_init_41 : decode cX6_init 41 = .ok (.newarray .int, 2) := by decide +kernel
theorem dX6_init_43 : decode cX6_init 43 = .ok (.putfield 22, 3) := by decide +kernel
theorem dX6_init_46 : decode cX6_init 46 = .ok (.aload_n 0, 1) := by decide +kernel
theorem dX6_init_47 : decode cX6_init 47 = .ok (.iconst 4, 1) := by decide +kernel
theorem dX6_init_48 : decode cX6_init 48 = .ok (.newarray .int, 2) := by decide +kernel
theorem dX6_init_50 : decode cX6_init 50 = .ok (.putfield 25, 3) := by decide +kernel
theorem dX6_init_53 : decode cX6_init 53 = .ok (.aload_n 0, 1) := by decide +kernel
theorem dX6_init_54 : decode cX6_init 54 = .ok (.bipush 24, 2) := by decide +kernel
theorem dX6_init_56 : decode cX6_init 56 = .ok (.newarray .int, 2) := by decide +kernel
theorem dX6_init_58 : decode cX6_init 58 = .ok (.putfield 28, 3) := by decide +kernel
theorem dX6_init_61 : decode cX6_init 61 = .ok (.aload_n 0, 1) := by decide +kernel
theorem dX6_init_62 : decode cX6_init 62 = .ok (.bipush 24, 2) := by decide +kernel
theorem dX6_init_64 : decode cX6_init 64 = .ok (.newarray .int, 2) := by decide +kernel
theorem dX6_init_66 : decode cX6_init 66 = .ok (.putfield 31, 3) := by decide +kernel
theorem dX6_init_69 : decode cX6_init 69 = .ok (.aload_n 0, 1) := by decide +kernel
theorem dX6_init_70 : decode cX6_init 70 = .ok (.bipush 8, 2) := by decide +kernel
theorem dX6_init_72 : decode cX6_init 72 = .ok (.newarray .int, 2) := by decide +kernel
theorem dX6_init_74 : decode cX6_init 74 = .ok (.putfield 34, 3) := by decide +kernel
theorem dX6_init_77 : decode cX6_init 77 = .ok (.aload_n 0, 1) := by decide +kernel
theorem dX6_init_78 : decode cX6_init 78 = .ok (.bipush 8, 2) := by decide +kernel
theorem dX6_init_80 : decode cX6_init 80 = .ok (.newarray .int, 2) := by decide +kernel
theorem dX6_init_82 : decode cX6_init 82 = .ok (.putfield 37, 3) := by decide +kernel
theorem dX6_init_85 : decode cX6_init 85 = .ok (.aload_n 0, 1) := by decide +kernel
theorem dX6_init_86 : decode cX6_init 86 = .ok (.bipush 24, 2) := by decide +kernel
theorem dX6_init_88 : decode cX6_init 88 = .ok (.newarray .int, 2) := by decide +kernel
theorem dX6_init_90 : decode cX6_init 90 = .ok (.putfield 40, 3) := by decide +kernel
theorem dX6_init_93 : decode cX6_init 93 = .ok (.aload_n 0, 1) := by decide +kernel
theorem dX6_init_94 : decode cX6_init 94 = .ok (.bipush 24, 2) := by decide +kernel
theorem dX6_init_96 : decode cX6_init 96 = .ok (.newarray .int, 2) := by decide +kernel
theorem dX6_init_98 : decode cX6_init 98 = .ok (.putfield 43, 3) := by decide +kernel
theorem dX6_init_101 : decode cX6_init 101 = .ok (.aload_n 0, 1) := by decide +kernel
theorem dX6_init_102 : decode cX6_init 102 = .ok (.getfield 7, 3) := by decide +kernel
theorem dX6_init_105 : decode cX6_init 105 = .ok (.iconst 0, 1) := by decide +kernel
theorem dX6_init_106 : decode cX6_init 106 = .ok (.bipush 30, 2) := by decide +kernel
theorem dX6_init_108 : decode cX6_init 108 = .ok (.iastore, 1) := by decide +kernel
theorem dX6_init_109 : decode cX6_init 109 = .ok (.aload_n 0, 1) := by decide +kernel
theorem dX6_init_110 : decode cX6_init 110 = .ok (.getfield 7, 3) := by decide +kernel
theorem dX6_init_113 : decode cX6_init 113 = .ok (.iconst 1, 1) := by decide +kernel
theorem dX6_init_114 : decode cX6_init 114 = .ok (.bipush 60, 2) := by decide +kernel
theorem dX6_init_116 : decode cX6_init 116 = .ok (.iastore, 1) := by decide +kernel
theorem dX6_init_117 : decode cX6_init 117 = .ok (.aload_n 0, 1) := by decide +kernel
theorem dX6_init_118 : decode cX6_init 118 = .ok (.getfield 7, 3) := by decide +kernel
theorem dX6_init_121 : decode cX6_init 121 = .ok (.iconst 2, 1) := by decide +kernel
theorem dX6_init_122 : decode cX6_init 122 = .ok (.iconst 3, 1) := by decide +kernel
theorem dX6_init_123 : decode cX6_init 123 = .ok (.iastore, 1) := by decide +kernel
theorem dX6_init_124 : decode cX6_init 124 = .ok (.aload_n 0, 1) := by decide +kernel
theorem dX6_init_125 : decode cX6_init 125 = .ok (.getfield 7, 3) := by decide +kernel
theorem dX6_init_128 : decode cX6_init 128 = .ok (.iconst 3, 1) := by decide +kernel
theorem dX6_init_129 : decode cX6_init 129 = .ok (.bipush 60, 2) := by decide +kernel
theorem dX6_init_131 : decode cX6_init 131 = .ok (.iastore, 1) := by decide +kernel
theorem dX6_init_132 : decode cX6_init 132 = .ok (.aload_n 0, 1) := by decide +kernel
theorem dX6_init_133 : decode cX6_init 133 = .ok (.getfield 7, 3) := by decide +kernel
theorem dX6_init_136 : decode cX6_init 136 = .ok (.iconst 4, 1) := by decide +kernel
theorem dX6_init_137 : decode cX6_init 137 = .ok (.bipush 6, 2) := by decide +kernel
theorem dX6_init_139 : decode cX6_init 139 = .ok (.iastore, 1) := by decide +kernel
theorem dX6_init_140 : decode cX6_init 140 = .ok (.iconst 0, 1) := by decide +kernel
theorem dX6_init_141 : decode cX6_init 141 = .ok (.istore_n 1, 1) := by decide +kernel
theorem dX6_init_142 : decode cX6_init 142 = .ok (.iload_n 1, 1) := by decide +kernel
theorem dX6_init_143 : decode cX6_init 143 = .ok (.bipush 6, 2) := by decide +kernel
theorem dX6_init_145 : decode cX6_init 145 = .ok (.if_icmp .ge 21, 3) := by decide +kernel
theorem dX6_init_148 : decode cX6_init 148 = .ok (.aload_n 0, 1) := by decide +kernel
theorem dX6_init_149 : decode cX6_init 149 = .ok (.getfield 7, 3) := by decide +kernel
theorem dX6_init_152 : decode cX6_init 152 = .ok (.iconst 5, 1) := by decide +kernel
theorem dX6_init_153 : decode cX6_init 153 = .ok (.iload_n 1, 1) := by decide +kernel
theorem dX6_init_154 : decode cX6_init 154 = .ok (.iadd, 1) := by decide +kernel
theorem dX6_init_155 : decode cX6_init 155 = .ok (.bipush 60, 2) := by decide +kernel
theorem dX6_init_157 : decode cX6_init 157 = .ok (.iload_n 1, 1) := by decide +kernel
theorem dX6_init_158 : decode cX6_init 158 = .ok (.imul, 1) := by decide +kernel
theorem dX6_init_159 : decode cX6_init 159 = .ok (.iastore, 1) := by decide +kernel
theorem dX6_init_160 : decode cX6_init 160 = .ok (.iinc 1 1, 3) := by decide +kernel
theorem dX6_init_163 : decode cX6_init 163 = .ok (.goto (-21), 3) := by decide +kernel
theorem dX6_init_166 : decode cX6_init 166 = .ok (.iconst 0, 1) := by decide +kernel
theorem dX6_init_167 : decode cX6_init 167 = .ok (.istore_n 1, 1) := by decide +kernel
theorem dX6_init_168 : decode cX6_init 168 = .ok (.iload_n 1, 1) := by decide +kernel
theorem dX6_init_169 : decode cX6_init 169 = .ok (.bipush 8, 2) := by decide +kernel
theorem dX6_init_171 : decode cX6_init 171 = .ok (.if_icmp .ge 36, 3) := by decide +kernel
theorem dX6_init_174 : decode cX6_init 174 = .ok (.aload_n 0, 1) := by decide +kernel
theorem dX6_init_175 : decode cX6_init 175 = .ok (.getfield 7, 3) := by decide +kernel
theorem dX6_init_178 : decode cX6_init 178 = .ok (.bipush 17, 2) := by decide +kernel
theorem dX6_init_180 : decode cX6_init 180 = .ok (.iload_n 1, 1) := by decide +kernel
theorem dX6_init_181 : decode cX6_init 181 = .ok (.iadd, 1) := by decide +kernel
theorem dX6_init_182 : decode cX6_init 182 = .ok (.bipush 60, 2) := by decide +kernel
theorem dX6_init_184 : decode cX6_init 184 = .ok (.iload_n 1, 1) := by decide +kernel
theorem dX6_init_185 : decode cX6_init 185 = .ok (.imul, 1) := by decide +kernel
theorem dX6_init_186 : decode cX6_init 186 = .ok (.bipush 60, 2) := by decide +kernel
theorem dX6_init_188 : decode cX6_init 188 = .ok (.iadd, 1) := by decide +kernel
theorem dX6_init_189 : decode cX6_init 189 = .ok (.iastore, 1) := by decide +kernel
theorem dX6_init_190 : decode cX6_init 190 = .ok (.aload_n 0, 1) := by decide +kernel
theorem dX6_init_191 : decode cX6_init 191 = .ok (.getfield 7, 3) := by decide +kernel
theorem dX6_init_194 : decode cX6_init 194 = .ok (.bipush 25, 2) := by decide +kernel
theorem dX6_init_196 : decode cX6_init 196 = .ok (.iload_n 1, 1) := by decide +kernel
theorem dX6_init_197 : decode cX6_init 197 = .ok (.iadd, 1) := by decide +kernel
theorem dX6_init_198 : decode cX6_init 198 = .ok (.bipush 6, 2) := by decide +kernel
theorem dX6_init_200 : decode cX6_init 200 = .ok (.iastore, 1) := by decide +kernel
theorem dX6_init_201 : decode cX6_init 201 = .ok (.iinc 1 1, 3) := by decide +kernel
theorem dX6_init_204 : decode cX6_init 204 = .ok (.goto (-36), 3) := by decide +kernel
theorem dX6_init_207 : decode cX6_init 207 = .ok (.return_, 1) := by decide +kernel
theorem dX6_within_0 : decode cX6_within 0 = .ok (.iload_n 0, 1) := by decide +kernel
theorem dX6_within_1 : decode cX6_within 1 = .ok (.iload_n 1, 1) := by decide +kernel
theorem dX6_within_2 : decode cX6_within 2 = .ok (.if_icmp .lt 12, 3) := by decide +kernel
theorem dX6_within_5 : decode cX6_within 5 = .ok (.iload_n 0, 1) := by decide +kernel
theorem dX6_within_6 : decode cX6_within 6 = .ok (.iload_n 2, 1) := by decide +kernel
theorem dX6_within_7 : decode cX6_within 7 = .ok (.if_icmp .gt 7, 3) := by decide +kernel
theorem dX6_within_10 : decode cX6_within 10 = .ok (.iconst 1, 1) := by decide +kernel
theorem dX6_within_11 : decode cX6_within 11 = .ok (.goto 4, 3) := by decide +kernel
theorem dX6_within_14 : decode cX6_within 14 = .ok (.iconst 0, 1) := by decide +kernel
theorem dX6_within_15 : decode cX6_within 15 = .ok (.ireturn, 1) := by decide +kernel
theorem dX6_isFlight_0 : decode cX6_isFlight 0 = .ok (.iload_n 0, 1) := by decide +kernel
theorem dX6_isFlight_1 : decode cX6_isFlight 1 = .ok (.iconst 0, 1) := by decide +kernel
theorem dX6_isFlight_2 : decode cX6_isFlight 2 = .ok (.iconst 5, 1) := by decide +kernel
theorem dX6_isFlight_3 : decode cX6_isFlight 3 = .ok (.invokestatic 46, 3) := by decide +kernel
theorem dX6_isFlight_6 : decode cX6_isFlight 6 = .ok (.ireturn, 1) := by decide +kernel
theorem dX6_isVan_0 : decode cX6_isVan 0 = .ok (.iload_n 0, 1) := by decide +kernel
theorem dX6_isVan_1 : decode cX6_isVan 1 = .ok (.iconst 0, 1) := by decide +kernel
theorem dX6_isVan_2 : decode cX6_isVan 2 = .ok (.bipush 7, 2) := by decide +kernel
theorem dX6_isVan_4 : decode cX6_isVan 4 = .ok (.invokestatic 46, 3) := by decide +kernel
theorem dX6_isVan_7 : decode cX6_isVan 7 = .ok (.ireturn, 1) := by decide +kernel
theorem dX6_isRider_0 : decode cX6_isRider 0 = .ok (.iload_n 1, 1) := by decide +kernel
theorem dX6_isRider_1 : decode cX6_isRider 1 = .ok (.iconst 0, 1) := by decide +kernel
theorem dX6_isRider_2 : decode cX6_isRider 2 = .ok (.aload_n 0, 1) := by decide +kernel
theorem dX6_isRider_3 : decode cX6_isRider 3 = .ok (.getfield 7, 3) := by decide +kernel
theorem dX6_isRider_6 : decode cX6_isRider 6 = .ok (.bipush 33, 2) := by decide +kernel
theorem dX6_isRider_8 : decode cX6_isRider 8 = .ok (.iaload, 1) := by decide +kernel
theorem dX6_isRider_9 : decode cX6_isRider 9 = .ok (.iconst 1, 1) := by decide +kernel
theorem dX6_isRider_10 : decode cX6_isRider 10 = .ok (.isub, 1) := by decide +kernel
theorem dX6_isRider_11 : decode cX6_isRider 11 = .ok (.invokestatic 46, 3) := by decide +kernel
theorem dX6_isRider_14 : decode cX6_isRider 14 = .ok (.ireturn, 1) := by decide +kernel
theorem dX6_of_0 : decode cX6_of 0 = .ok (.aload_n 0, 1) := by decide +kernel
theorem dX6_of_1 : decode cX6_of 1 = .ok (.getfield 7, 3) := by decide +kernel
theorem dX6_of_4 : decode cX6_of 4 = .ok (.bipush 34, 2) := by decide +kernel
theorem dX6_of_6 : decode cX6_of 6 = .ok (.iconst 4, 1) := by decide +kernel
theorem dX6_of_7 : decode cX6_of 7 = .ok (.iload_n 1, 1) := by decide +kernel
theorem dX6_of_8 : decode cX6_of 8 = .ok (.imul, 1) := by decide +kernel
theorem dX6_of_9 : decode cX6_of 9 = .ok (.iadd, 1) := by decide +kernel
theorem dX6_of_10 : decode cX6_of 10 = .ok (.iload_n 2, 1) := by decide +kernel
theorem dX6_of_11 : decode cX6_of 11 = .ok (.iadd, 1) := by decide +kernel
theorem dX6_of_12 : decode cX6_of 12 = .ok (.iaload, 1) := by decide +kernel
theorem dX6_of_13 : decode cX6_of 13 = .ok (.ireturn, 1) := by decide +kernel
theorem dX6_record_0 : decode cX6_record 0 = .ok (.aload_n 0, 1) := by decide +kernel
theorem dX6_record_1 : decode cX6_record 1 = .ok (.getfield 50, 3) := by decide +kernel
theorem dX6_record_4 : decode cX6_record 4 = .ok (.bipush 6, 2) := by decide +kernel
theorem dX6_record_6 : decode cX6_record 6 = .ok (.if_icmp .ne 44, 3) := by decide +kernel
theorem dX6_record_9 : decode cX6_record 9 = .ok (.iconst 0, 1) := by decide +kernel
theorem dX6_record_10 : decode cX6_record 10 = .ok (.istore_n 1, 1) := by decide +kernel
theorem dX6_record_11 : decode cX6_record 11 = .ok (.iload_n 1, 1) := by decide +kernel
theorem dX6_record_12 : decode cX6_record 12 = .ok (.sipush 650, 3) := by decide +kernel
theorem dX6_record_15 : decode cX6_record 15 = .ok (.if_icmp .ge 25, 3) := by decide +kernel
theorem dX6_record_18 : decode cX6_record 18 = .ok (.aload_n 0, 1) := by decide +kernel
theorem dX6_record_19 : decode cX6_record 19 = .ok (.getfield 13, 3) := by decide +kernel
theorem dX6_record_22 : decode cX6_record 22 = .ok (.iload_n 1, 1) := by decide +kernel
theorem dX6_record_23 : decode cX6_record 23 = .ok (.aload_n 0, 1) := by decide +kernel
theorem dX6_record_24 : decode cX6_record 24 = .ok (.getfield 13, 3) := by decide +kernel
theorem dX6_record_27 : decode cX6_record 27 = .ok (.iload_n 1, 1) := by decide +kernel
theorem dX6_record_28 : decode cX6_record 28 = .ok (.sipush 130, 3) := by decide +kernel
theorem dX6_record_31 : decode cX6_record 31 = .ok (.iadd, 1) := by decide +kernel
theorem dX6_record_32 : decode cX6_record 32 = .ok (.iaload, 1) := by decide +kernel
theorem dX6_record_33 : decode cX6_record 33 = .ok (.iastore, 1) := by decide +kernel
theorem dX6_record_34 : decode cX6_record 34 = .ok (.iinc 1 1, 3) := by decide +kernel
theorem dX6_record_37 : decode cX6_record 37 = .ok (.goto (-26), 3) := by decide +kernel
theorem dX6_record_40 : decode cX6_record 40 = .ok (.aload_n 0, 1) := by decide +kernel
theorem dX6_record_41 : decode cX6_record 41 = .ok (.dup, 1) := by decide +kernel
theorem dX6_record_42 : decode cX6_record 42 = .ok (.getfield 50, 3) := by decide +kernel
theorem dX6_record_45 : decode cX6_record 45 = .ok (.iconst 1, 1) := by decide +kernel
theorem dX6_record_46 : decode cX6_record 46 = .ok (.isub, 1) := by decide +kernel
theorem dX6_record_47 : decode cX6_record 47 = .ok (.putfield 50, 3) := by decide +kernel
theorem dX6_record_50 : decode cX6_record 50 = .ok (.iconst 0, 1) := by decide +kernel
theorem dX6_record_51 : decode cX6_record 51 = .ok (.istore_n 1, 1) := by decide +kernel
theorem dX6_record_52 : decode cX6_record 52 = .ok (.iload_n 1, 1) := by decide +kernel
theorem dX6_record_53 : decode cX6_record 53 = .ok (.sipush 130, 3) := by decide +kernel
theorem dX6_record_56 : decode cX6_record 56 = .ok (.if_icmp .ge 30, 3) := by decide +kernel
theorem dX6_record_59 : decode cX6_record 59 = .ok (.aload_n 0, 1) := by decide +kernel
theorem dX6_record_60 : decode cX6_record 60 = .ok (.getfield 13, 3) := by decide +kernel
theorem dX6_record_63 : decode cX6_record 63 = .ok (.aload_n 0, 1) := by decide +kernel
theorem dX6_record_64 : decode cX6_record 64 = .ok (.getfield 50, 3) := by decide +kernel
theorem dX6_record_67 : decode cX6_record 67 = .ok (.sipush 130, 3) := by decide +kernel
theorem dX6_record_70 : decode cX6_record 70 = .ok (.imul, 1) := by decide +kernel
theorem dX6_record_71 : decode cX6_record 71 = .ok (.iload_n 1, 1) := by decide +kernel
theorem dX6_record_72 : decode cX6_record 72 = .ok (.iadd, 1) := by decide +kernel
theorem dX6_record_73 : decode cX6_record 73 = .ok (.aload_n 0, 1) := by decide +kernel
theorem dX6_record_74 : decode cX6_record 74 = .ok (.getfield 7, 3) := by decide +kernel
theorem dX6_record_77 : decode cX6_record 77 = .ok (.iload_n 1, 1) := by decide +kernel
theorem dX6_record_78 : decode cX6_record 78 = .ok (.iaload, 1) := by decide +kernel
theorem dX6_record_79 : decode cX6_record 79 = .ok (.iastore, 1) := by decide +kernel
theorem dX6_record_80 : decode cX6_record 80 = .ok (.iinc 1 1, 3) := by decide +kernel
theorem dX6_record_83 : decode cX6_record 83 = .ok (.goto (-31), 3) := by decide +kernel
theorem dX6_record_86 : decode cX6_record 86 = .ok (.aload_n 0, 1) := by decide +kernel
theorem dX6_record_87 : decode cX6_record 87 = .ok (.dup, 1) := by decide +kernel
theorem dX6_record_88 : decode cX6_record 88 = .ok (.getfield 50, 3) := by decide +kernel
theorem dX6_record_91 : decode cX6_record 91 = .ok (.iconst 1, 1) := by decide +kernel
theorem dX6_record_92 : decode cX6_record 92 = .ok (.iadd, 1) := by decide +kernel
theorem dX6_record_93 : decode cX6_record 93 = .ok (.putfield 50, 3) := by decide +kernel
theorem dX6_record_96 : decode cX6_record 96 = .ok (.return_, 1) := by decide +kernel
theorem dX6_undo_0 : decode cX6_undo 0 = .ok (.aload_n 0, 1) := by decide +kernel
theorem dX6_undo_1 : decode cX6_undo 1 = .ok (.getfield 50, 3) := by decide +kernel
theorem dX6_undo_4 : decode cX6_undo 4 = .ok (.ifCond .ne 6, 3) := by decide +kernel
theorem dX6_undo_7 : decode cX6_undo 7 = .ok (.bipush (-105), 2) := by decide +kernel
theorem dX6_undo_9 : decode cX6_undo 9 = .ok (.ireturn, 1) := by decide +kernel
end
section
theorem dX6_undo_10 : decode cX6_undo 10 = .ok (.aload_n 0, 1) := by decide +kernel
theorem dX6_undo_11 : decode cX6_undo 11 = .ok (.dup, 1) := by decide +kernel
theorem dX6_undo_12 : decode cX6_undo 12 = .ok (.getfield 50, 3) := by decide +kernel
theorem dX6_undo_15 : decode cX6_undo 15 = .ok (.iconst 1, 1) := by decide +kernel
theorem dX6_undo_16 : decode cX6_undo 16 = .ok (.isub, 1) := by decide +kernel
theorem dX6_undo_17 : decode cX6_undo 17 = .ok (.putfield 50, 3) := by decide +kernel
theorem dX6_undo_20 : decode cX6_undo 20 = .ok (.iconst 0, 1) := by decide +kernel
theorem dX6_undo_21 : decode cX6_undo 21 = .ok (.istore_n 1, 1) := by decide +kernel
theorem dX6_undo_22 : decode cX6_undo 22 = .ok (.iload_n 1, 1) := by decide +kernel
theorem dX6_undo_23 : decode cX6_undo 23 = .ok (.sipush 130, 3) := by decide +kernel
theorem dX6_undo_26 : decode cX6_undo 26 = .ok (.if_icmp .ge 30, 3) := by decide +kernel
theorem dX6_undo_29 : decode cX6_undo 29 = .ok (.aload_n 0, 1) := by decide +kernel
theorem dX6_undo_30 : decode cX6_undo 30 = .ok (.getfield 7, 3) := by decide +kernel
theorem dX6_undo_33 : decode cX6_undo 33 = .ok (.iload_n 1, 1) := by decide +kernel
theorem dX6_undo_34 : decode cX6_undo 34 = .ok (.aload_n 0, 1) := by decide +kernel
theorem dX6_undo_35 : decode cX6_undo 35 = .ok (.getfield 13, 3) := by decide +kernel
theorem dX6_undo_38 : decode cX6_undo 38 = .ok (.aload_n 0, 1) := by decide +kernel
theorem dX6_undo_39 : decode cX6_undo 39 = .ok (.getfield 50, 3) := by decide +kernel
theorem dX6_undo_42 : decode cX6_undo 42 = .ok (.sipush 130, 3) := by decide +kernel
theorem dX6_undo_45 : decode cX6_undo 45 = .ok (.imul, 1) := by decide +kernel
theorem dX6_undo_46 : decode cX6_undo 46 = .ok (.iload_n 1, 1) := by decide +kernel
theorem dX6_undo_47 : decode cX6_undo 47 = .ok (.iadd, 1) := by decide +kernel
theorem dX6_undo_48 : decode cX6_undo 48 = .ok (.iaload, 1) := by decide +kernel
theorem dX6_undo_49 : decode cX6_undo 49 = .ok (.iastore, 1) := by decide +kernel
theorem dX6_undo_50 : decode cX6_undo 50 = .ok (.iinc 1 1, 3) := by decide +kernel
theorem dX6_undo_53 : decode cX6_undo 53 = .ok (.goto (-31), 3) := by decide +kernel
theorem dX6_undo_56 : decode cX6_undo 56 = .ok (.aload_n 0, 1) := by decide +kernel
theorem dX6_undo_57 : decode cX6_undo 57 = .ok (.getfield 50, 3) := by decide +kernel
theorem dX6_undo_60 : decode cX6_undo 60 = .ok (.ireturn, 1) := by decide +kernel
theorem dX6_save_0 : decode cX6_save 0 = .ok (.iload_n 1, 1) := by decide +kernel
theorem dX6_save_1 : decode cX6_save 1 = .ok (.iconst 0, 1) := by decide +kernel
theorem dX6_save_2 : decode cX6_save 2 = .ok (.iconst 1, 1) := by decide +kernel
theorem dX6_save_3 : decode cX6_save 3 = .ok (.invokestatic 46, 3) := by decide +kernel
theorem dX6_save_6 : decode cX6_save 6 = .ok (.ifCond .ne 6, 3) := by decide +kernel
theorem dX6_save_9 : decode cX6_save 9 = .ok (.bipush (-102), 2) := by decide +kernel
theorem dX6_save_11 : decode cX6_save 11 = .ok (.ireturn, 1) := by decide +kernel
theorem dX6_save_12 : decode cX6_save 12 = .ok (.iconst 0, 1) := by decide +kernel
theorem dX6_save_13 : decode cX6_save 13 = .ok (.istore_n 2, 1) := by decide +kernel
theorem dX6_save_14 : decode cX6_save 14 = .ok (.iload_n 2, 1) := by decide +kernel
theorem dX6_save_15 : decode cX6_save 15 = .ok (.sipush 130, 3) := by decide +kernel
theorem dX6_save_18 : decode cX6_save 18 = .ok (.if_icmp .ge 27, 3) := by decide +kernel
theorem dX6_save_21 : decode cX6_save 21 = .ok (.aload_n 0, 1) := by decide +kernel
theorem dX6_save_22 : decode cX6_save 22 = .ok (.getfield 16, 3) := by decide +kernel
theorem dX6_save_25 : decode cX6_save 25 = .ok (.sipush 130, 3) := by decide +kernel
theorem dX6_save_28 : decode cX6_save 28 = .ok (.iload_n 1, 1) := by decide +kernel
theorem dX6_save_29 : decode cX6_save 29 = .ok (.imul, 1) := by decide +kernel
theorem dX6_save_30 : decode cX6_save 30 = .ok (.iload_n 2, 1) := by decide +kernel
theorem dX6_save_31 : decode cX6_save 31 = .ok (.iadd, 1) := by decide +kernel
theorem dX6_save_32 : decode cX6_save 32 = .ok (.aload_n 0, 1) := by decide +kernel
theorem dX6_save_33 : decode cX6_save 33 = .ok (.getfield 7, 3) := by decide +kernel
theorem dX6_save_36 : decode cX6_save 36 = .ok (.iload_n 2, 1) := by decide +kernel
theorem dX6_save_37 : decode cX6_save 37 = .ok (.iaload, 1) := by decide +kernel
theorem dX6_save_38 : decode cX6_save 38 = .ok (.iastore, 1) := by decide +kernel
theorem dX6_save_39 : decode cX6_save 39 = .ok (.iinc 2 1, 3) := by decide +kernel
theorem dX6_save_42 : decode cX6_save 42 = .ok (.goto (-28), 3) := by decide +kernel
theorem dX6_save_45 : decode cX6_save 45 = .ok (.aload_n 0, 1) := by decide +kernel
theorem dX6_save_46 : decode cX6_save 46 = .ok (.getfield 19, 3) := by decide +kernel
theorem dX6_save_49 : decode cX6_save 49 = .ok (.iload_n 1, 1) := by decide +kernel
theorem dX6_save_50 : decode cX6_save 50 = .ok (.iconst 1, 1) := by decide +kernel
theorem dX6_save_51 : decode cX6_save 51 = .ok (.iastore, 1) := by decide +kernel
theorem dX6_save_52 : decode cX6_save 52 = .ok (.aload_n 0, 1) := by decide +kernel
theorem dX6_save_53 : decode cX6_save 53 = .ok (.getfield 7, 3) := by decide +kernel
theorem dX6_save_56 : decode cX6_save 56 = .ok (.bipush 33, 2) := by decide +kernel
theorem dX6_save_58 : decode cX6_save 58 = .ok (.iaload, 1) := by decide +kernel
theorem dX6_save_59 : decode cX6_save 59 = .ok (.ireturn, 1) := by decide +kernel
theorem dX6_restore_0 : decode cX6_restore 0 = .ok (.iload_n 1, 1) := by decide +kernel
theorem dX6_restore_1 : decode cX6_restore 1 = .ok (.iconst 0, 1) := by decide +kernel
theorem dX6_restore_2 : decode cX6_restore 2 = .ok (.iconst 1, 1) := by decide +kernel
theorem dX6_restore_3 : decode cX6_restore 3 = .ok (.invokestatic 46, 3) := by decide +kernel
theorem dX6_restore_6 : decode cX6_restore 6 = .ok (.ifCond .ne 6, 3) := by decide +kernel
theorem dX6_restore_9 : decode cX6_restore 9 = .ok (.bipush (-102), 2) := by decide +kernel
theorem dX6_restore_11 : decode cX6_restore 11 = .ok (.ireturn, 1) := by decide +kernel
theorem dX6_restore_12 : decode cX6_restore 12 = .ok (.aload_n 0, 1) := by decide +kernel
theorem dX6_restore_13 : decode cX6_restore 13 = .ok (.getfield 19, 3) := by decide +kernel
theorem dX6_restore_16 : decode cX6_restore 16 = .ok (.iload_n 1, 1) := by decide +kernel
theorem dX6_restore_17 : decode cX6_restore 17 = .ok (.iaload, 1) := by decide +kernel
theorem dX6_restore_18 : decode cX6_restore 18 = .ok (.ifCond .ne 6, 3) := by decide +kernel
theorem dX6_restore_21 : decode cX6_restore 21 = .ok (.bipush (-105), 2) := by decide +kernel
theorem dX6_restore_23 : decode cX6_restore 23 = .ok (.ireturn, 1) := by decide +kernel
theorem dX6_restore_24 : decode cX6_restore 24 = .ok (.aload_n 0, 1) := by decide +kernel
theorem dX6_restore_25 : decode cX6_restore 25 = .ok (.invokevirtual 54, 3) := by decide +kernel
theorem dX6_restore_28 : decode cX6_restore 28 = .ok (.iconst 0, 1) := by decide +kernel
theorem dX6_restore_29 : decode cX6_restore 29 = .ok (.istore_n 2, 1) := by decide +kernel
theorem dX6_restore_30 : decode cX6_restore 30 = .ok (.iload_n 2, 1) := by decide +kernel
theorem dX6_restore_31 : decode cX6_restore 31 = .ok (.sipush 130, 3) := by decide +kernel
theorem dX6_restore_34 : decode cX6_restore 34 = .ok (.if_icmp .ge 27, 3) := by decide +kernel
theorem dX6_restore_37 : decode cX6_restore 37 = .ok (.aload_n 0, 1) := by decide +kernel
theorem dX6_restore_38 : decode cX6_restore 38 = .ok (.getfield 7, 3) := by decide +kernel
theorem dX6_restore_41 : decode cX6_restore 41 = .ok (.iload_n 2, 1) := by decide +kernel
theorem dX6_restore_42 : decode cX6_restore 42 = .ok (.aload_n 0, 1) := by decide +kernel
theorem dX6_restore_43 : decode cX6_restore 43 = .ok (.getfield 16, 3) := by decide +kernel
theorem dX6_restore_46 : decode cX6_restore 46 = .ok (.sipush 130, 3) := by decide +kernel
theorem dX6_restore_49 : decode cX6_restore 49 = .ok (.iload_n 1, 1) := by decide +kernel
theorem dX6_restore_50 : decode cX6_restore 50 = .ok (.imul, 1) := by decide +kernel
theorem dX6_restore_51 : decode cX6_restore 51 = .ok (.iload_n 2, 1) := by decide +kernel
theorem dX6_restore_52 : decode cX6_restore 52 = .ok (.iadd, 1) := by decide +kernel
theorem dX6_restore_53 : decode cX6_restore 53 = .ok (.iaload, 1) := by decide +kernel
theorem dX6_restore_54 : decode cX6_restore 54 = .ok (.iastore, 1) := by decide +kernel
theorem dX6_restore_55 : decode cX6_restore 55 = .ok (.iinc 2 1, 3) := by decide +kernel
theorem dX6_restore_58 : decode cX6_restore 58 = .ok (.goto (-28), 3) := by decide +kernel
theorem dX6_restore_61 : decode cX6_restore 61 = .ok (.aload_n 0, 1) := by decide +kernel
theorem dX6_restore_62 : decode cX6_restore 62 = .ok (.getfield 7, 3) := by decide +kernel
theorem dX6_restore_65 : decode cX6_restore 65 = .ok (.bipush 33, 2) := by decide +kernel
theorem dX6_restore_67 : decode cX6_restore 67 = .ok (.iaload, 1) := by decide +kernel
theorem dX6_restore_68 : decode cX6_restore 68 = .ok (.ireturn, 1) := by decide +kernel
theorem dX6_readyOf_0 : decode cX6_readyOf 0 = .ok (.aload_n 0, 1) := by decide +kernel
theorem dX6_readyOf_1 : decode cX6_readyOf 1 = .ok (.getfield 7, 3) := by decide +kernel
theorem dX6_readyOf_4 : decode cX6_readyOf 4 = .ok (.iconst 5, 1) := by decide +kernel
theorem dX6_readyOf_5 : decode cX6_readyOf 5 = .ok (.iload_n 1, 1) := by decide +kernel
theorem dX6_readyOf_6 : decode cX6_readyOf 6 = .ok (.iadd, 1) := by decide +kernel
theorem dX6_readyOf_7 : decode cX6_readyOf 7 = .ok (.iaload, 1) := by decide +kernel
theorem dX6_readyOf_8 : decode cX6_readyOf 8 = .ok (.aload_n 0, 1) := by decide +kernel
theorem dX6_readyOf_9 : decode cX6_readyOf 9 = .ok (.getfield 7, 3) := by decide +kernel
theorem dX6_readyOf_12 : decode cX6_readyOf 12 = .ok (.bipush 11, 2) := by decide +kernel
theorem dX6_readyOf_14 : decode cX6_readyOf 14 = .ok (.iload_n 1, 1) := by decide +kernel
theorem dX6_readyOf_15 : decode cX6_readyOf 15 = .ok (.iadd, 1) := by decide +kernel
theorem dX6_readyOf_16 : decode cX6_readyOf 16 = .ok (.iaload, 1) := by decide +kernel
theorem dX6_readyOf_17 : decode cX6_readyOf 17 = .ok (.iadd, 1) := by decide +kernel
theorem dX6_readyOf_18 : decode cX6_readyOf 18 = .ok (.aload_n 0, 1) := by decide +kernel
theorem dX6_readyOf_19 : decode cX6_readyOf 19 = .ok (.getfield 7, 3) := by decide +kernel
theorem dX6_readyOf_22 : decode cX6_readyOf 22 = .ok (.iconst 0, 1) := by decide +kernel
theorem dX6_readyOf_23 : decode cX6_readyOf 23 = .ok (.iaload, 1) := by decide +kernel
theorem dX6_readyOf_24 : decode cX6_readyOf 24 = .ok (.iadd, 1) := by decide +kernel
theorem dX6_readyOf_25 : decode cX6_readyOf 25 = .ok (.ireturn, 1) := by decide +kernel
theorem dX6_ready_0 : decode cX6_ready 0 = .ok (.aload_n 0, 1) := by decide +kernel
theorem dX6_ready_1 : decode cX6_ready 1 = .ok (.aload_n 0, 1) := by decide +kernel
theorem dX6_ready_2 : decode cX6_ready 2 = .ok (.iload_n 1, 1) := by decide +kernel
theorem dX6_ready_3 : decode cX6_ready 3 = .ok (.iconst 0, 1) := by decide +kernel
theorem dX6_ready_4 : decode cX6_ready 4 = .ok (.invokevirtual 57, 3) := by decide +kernel
theorem dX6_ready_7 : decode cX6_ready 7 = .ok (.invokevirtual 61, 3) := by decide +kernel
theorem dX6_ready_10 : decode cX6_ready 10 = .ok (.ireturn, 1) := by decide +kernel
theorem dX6_ones_0 : decode cX6_ones 0 = .ok (.iconst 0, 1) := by decide +kernel
theorem dX6_ones_1 : decode cX6_ones 1 = .ok (.istore_n 1, 1) := by decide +kernel
theorem dX6_ones_2 : decode cX6_ones 2 = .ok (.iconst 0, 1) := by decide +kernel
theorem dX6_ones_3 : decode cX6_ones 3 = .ok (.istore_n 2, 1) := by decide +kernel
theorem dX6_ones_4 : decode cX6_ones 4 = .ok (.iload_n 2, 1) := by decide +kernel
theorem dX6_ones_5 : decode cX6_ones 5 = .ok (.bipush 6, 2) := by decide +kernel
theorem dX6_ones_7 : decode cX6_ones 7 = .ok (.if_icmp .ge 17, 3) := by decide +kernel
theorem dX6_ones_10 : decode cX6_ones 10 = .ok (.iload_n 1, 1) := by decide +kernel
theorem dX6_ones_11 : decode cX6_ones 11 = .ok (.iload_n 0, 1) := by decide +kernel
theorem dX6_ones_12 : decode cX6_ones 12 = .ok (.iload_n 2, 1) := by decide +kernel
theorem dX6_ones_13 : decode cX6_ones 13 = .ok (.ishr, 1) := by decide +kernel
theorem dX6_ones_14 : decode cX6_ones 14 = .ok (.iconst 1, 1) := by decide +kernel
theorem dX6_ones_15 : decode cX6_ones 15 = .ok (.iand, 1) := by decide +kernel
theorem dX6_ones_16 : decode cX6_ones 16 = .ok (.iadd, 1) := by decide +kernel
theorem dX6_ones_17 : decode cX6_ones 17 = .ok (.istore_n 1, 1) := by decide +kernel
theorem dX6_ones_18 : decode cX6_ones 18 = .ok (.iinc 2 1, 3) := by decide +kernel
theorem dX6_ones_21 : decode cX6_ones 21 = .ok (.goto (-17), 3) := by decide +kernel
theorem dX6_ones_24 : decode cX6_ones 24 = .ok (.iload_n 1, 1) := by decide +kernel
theorem dX6_ones_25 : decode cX6_ones 25 = .ok (.ireturn, 1) := by decide +kernel
theorem dX6_canTake_0 : decode cX6_canTake 0 = .ok (.aload_n 0, 1) := by decide +kernel
theorem dX6_canTake_1 : decode cX6_canTake 1 = .ok (.getfield 7, 3) := by decide +kernel
theorem dX6_canTake_4 : decode cX6_canTake 4 = .ok (.bipush 17, 2) := by decide +kernel
theorem dX6_canTake_6 : decode cX6_canTake 6 = .ok (.iload_n 1, 1) := by decide +kernel
theorem dX6_canTake_7 : decode cX6_canTake 7 = .ok (.iadd, 1) := by decide +kernel
theorem dX6_canTake_8 : decode cX6_canTake 8 = .ok (.iaload, 1) := by decide +kernel
theorem dX6_canTake_9 : decode cX6_canTake 9 = .ok (.aload_n 0, 1) := by decide +kernel
theorem dX6_canTake_10 : decode cX6_canTake 10 = .ok (.iload_n 2, 1) := by decide +kernel
theorem dX6_canTake_11 : decode cX6_canTake 11 = .ok (.invokevirtual 65, 3) := by decide +kernel
theorem dX6_canTake_14 : decode cX6_canTake 14 = .ok (.isub, 1) := by decide +kernel
theorem dX6_canTake_15 : decode cX6_canTake 15 = .ok (.istore_n 3, 1) := by decide +kernel
theorem dX6_canTake_16 : decode cX6_canTake 16 = .ok (.aload_n 0, 1) := by decide +kernel
theorem dX6_canTake_17 : decode cX6_canTake 17 = .ok (.getfield 37, 3) := by decide +kernel
theorem dX6_canTake_20 : decode cX6_canTake 20 = .ok (.iload_n 1, 1) := by decide +kernel
theorem dX6_canTake_21 : decode cX6_canTake 21 = .ok (.iaload, 1) := by decide +kernel
theorem dX6_canTake_22 : decode cX6_canTake 22 = .ok (.iconst 1, 1) := by decide +kernel
theorem dX6_canTake_23 : decode cX6_canTake 23 = .ok (.aload_n 0, 1) := by decide +kernel
theorem dX6_canTake_24 : decode cX6_canTake 24 = .ok (.iload_n 2, 1) := by decide +kernel
theorem dX6_canTake_25 : decode cX6_canTake 25 = .ok (.iconst 1, 1) := by decide +kernel
theorem dX6_canTake_26 : decode cX6_canTake 26 = .ok (.invokevirtual 57, 3) := by decide +kernel
theorem dX6_canTake_29 : decode cX6_canTake 29 = .ok (.ishl, 1) := by decide +kernel
theorem dX6_canTake_30 : decode cX6_canTake 30 = .ok (.ior, 1) := by decide +kernel
theorem dX6_canTake_31 : decode cX6_canTake 31 = .ok (.istore 4, 2) := by decide +kernel
theorem dX6_canTake_33 : decode cX6_canTake 33 = .ok (.iload_n 3, 1) := by decide +kernel
theorem dX6_canTake_34 : decode cX6_canTake 34 = .ok (.iconst 0, 1) := by decide +kernel
theorem dX6_canTake_35 : decode cX6_canTake 35 = .ok (.aload_n 0, 1) := by decide +kernel
theorem dX6_canTake_36 : decode cX6_canTake 36 = .ok (.getfield 7, 3) := by decide +kernel
theorem dX6_canTake_39 : decode cX6_canTake 39 = .ok (.iconst 1, 1) := by decide +kernel
theorem dX6_canTake_40 : decode cX6_canTake 40 = .ok (.iaload, 1) := by decide +kernel
theorem dX6_canTake_41 : decode cX6_canTake 41 = .ok (.invokestatic 46, 3) := by decide +kernel
theorem dX6_canTake_44 : decode cX6_canTake 44 = .ok (.ifCond .eq 36, 3) := by decide +kernel
theorem dX6_canTake_47 : decode cX6_canTake 47 = .ok (.aload_n 0, 1) := by decide +kernel
theorem dX6_canTake_48 : decode cX6_canTake 48 = .ok (.getfield 34, 3) := by decide +kernel
theorem dX6_canTake_51 : decode cX6_canTake 51 = .ok (.iload_n 1, 1) := by decide +kernel
theorem dX6_canTake_52 : decode cX6_canTake 52 = .ok (.iaload, 1) := by decide +kernel
theorem dX6_canTake_53 : decode cX6_canTake 53 = .ok (.aload_n 0, 1) := by decide +kernel
theorem dX6_canTake_54 : decode cX6_canTake 54 = .ok (.iload_n 2, 1) := by decide +kernel
theorem dX6_canTake_55 : decode cX6_canTake 55 = .ok (.iconst 3, 1) := by decide +kernel
theorem dX6_canTake_56 : decode cX6_canTake 56 = .ok (.invokevirtual 57, 3) := by decide +kernel
theorem dX6_canTake_59 : decode cX6_canTake 59 = .ok (.if_icmp .lt 21, 3) := by decide +kernel
theorem dX6_canTake_62 : decode cX6_canTake 62 = .ok (.iload 4, 2) := by decide +kernel
theorem dX6_canTake_64 : decode cX6_canTake 64 = .ok (.invokestatic 68, 3) := by decide +kernel
theorem dX6_canTake_67 : decode cX6_canTake 67 = .ok (.aload_n 0, 1) := by decide +kernel
theorem dX6_canTake_68 : decode cX6_canTake 68 = .ok (.getfield 7, 3) := by decide +kernel
theorem dX6_canTake_71 : decode cX6_canTake 71 = .ok (.iconst 2, 1) := by decide +kernel
theorem dX6_canTake_72 : decode cX6_canTake 72 = .ok (.iaload, 1) := by decide +kernel
theorem dX6_canTake_73 : decode cX6_canTake 73 = .ok (.if_icmp .gt 7, 3) := by decide +kernel
theorem dX6_canTake_76 : decode cX6_canTake 76 = .ok (.iconst 1, 1) := by decide +kernel
theorem dX6_canTake_77 : decode cX6_canTake 77 = .ok (.goto 4, 3) := by decide +kernel
theorem dX6_canTake_80 : decode cX6_canTake 80 = .ok (.iconst 0, 1) := by decide +kernel
theorem dX6_canTake_81 : decode cX6_canTake 81 = .ok (.ireturn, 1) := by decide +kernel
theorem dX6_nextRider_0 : decode cX6_nextRider 0 = .ok (.bipush (-106), 2) := by decide +kernel
theorem dX6_nextRider_2 : decode cX6_nextRider 2 = .ok (.istore_n 1, 1) := by decide +kernel
theorem dX6_nextRider_3 : decode cX6_nextRider 3 = .ok (.iconst 0, 1) := by decide +kernel
theorem dX6_nextRider_4 : decode cX6_nextRider 4 = .ok (.istore_n 2, 1) := by decide +kernel
theorem dX6_nextRider_5 : decode cX6_nextRider 5 = .ok (.iload_n 2, 1) := by decide +kernel
theorem dX6_nextRider_6 : decode cX6_nextRider 6 = .ok (.aload_n 0, 1) := by decide +kernel
theorem dX6_nextRider_7 : decode cX6_nextRider 7 = .ok (.getfield 7, 3) := by decide +kernel
theorem dX6_nextRider_10 : decode cX6_nextRider 10 = .ok (.bipush 33, 2) := by decide +kernel
theorem dX6_nextRider_12 : decode cX6_nextRider 12 = .ok (.iaload, 1) := by decide +kernel
theorem dX6_nextRider_13 : decode cX6_nextRider 13 = .ok (.if_icmp .ge 39, 3) := by decide +kernel
theorem dX6_nextRider_16 : decode cX6_nextRider 16 = .ok (.aload_n 0, 1) := by decide +kernel
theorem dX6_nextRider_17 : decode cX6_nextRider 17 = .ok (.getfield 31, 3) := by decide +kernel
theorem dX6_nextRider_20 : decode cX6_nextRider 20 = .ok (.iload_n 2, 1) := by decide +kernel
theorem dX6_nextRider_21 : decode cX6_nextRider 21 = .ok (.iaload, 1) := by decide +kernel
theorem dX6_nextRider_22 : decode cX6_nextRider 22 = .ok (.ifCond .ne 24, 3) := by decide +kernel
theorem dX6_nextRider_25 : decode cX6_nextRider 25 = .ok (.iload_n 1, 1) := by decide +kernel
theorem dX6_nextRider_26 : decode cX6_nextRider 26 = .ok (.bipush (-106), 2) := by decide +kernel
theorem dX6_nextRider_28 : decode cX6_nextRider 28 = .ok (.if_icmp .eq 16, 3) := by decide +kernel
theorem dX6_nextRider_31 : decode cX6_nextRider 31 = .ok (.aload_n 0, 1) := by decide +kernel
theorem dX6_nextRider_32 : decode cX6_nextRider 32 = .ok (.iload_n 2, 1) := by decide +kernel
theorem dX6_nextRider_33 : decode cX6_nextRider 33 = .ok (.invokevirtual 65, 3) := by decide +kernel
theorem dX6_nextRider_36 : decode cX6_nextRider 36 = .ok (.aload_n 0, 1) := by decide +kernel
theorem dX6_nextRider_37 : decode cX6_nextRider 37 = .ok (.iload_n 1, 1) := by decide +kernel
theorem dX6_nextRider_38 : decode cX6_nextRider 38 = .ok (.invokevirtual 65, 3) := by decide +kernel
theorem dX6_nextRider_41 : decode cX6_nextRider 41 = .ok (.if_icmp .ge 5, 3) := by decide +kernel
theorem dX6_nextRider_44 : decode cX6_nextRider 44 = .ok (.iload_n 2, 1) := by decide +kernel
theorem dX6_nextRider_45 : decode cX6_nextRider 45 = .ok (.istore_n 1, 1) := by decide +kernel
theorem dX6_nextRider_46 : decode cX6_nextRider 46 = .ok (.iinc 2 1, 3) := by decide +kernel
theorem dX6_nextRider_49 : decode cX6_nextRider 49 = .ok (.goto (-44), 3) := by decide +kernel
theorem dX6_nextRider_52 : decode cX6_nextRider 52 = .ok (.iload_n 1, 1) := by decide +kernel
theorem dX6_nextRider_53 : decode cX6_nextRider 53 = .ok (.ireturn, 1) := by decide +kernel
theorem dX6_firstVan_0 : decode cX6_firstVan 0 = .ok (.bipush (-106), 2) := by decide +kernel
theorem dX6_firstVan_2 : decode cX6_firstVan 2 = .ok (.istore_n 2, 1) := by decide +kernel
theorem dX6_firstVan_3 : decode cX6_firstVan 3 = .ok (.iconst 0, 1) := by decide +kernel
theorem dX6_firstVan_4 : decode cX6_firstVan 4 = .ok (.istore_n 3, 1) := by decide +kernel
theorem dX6_firstVan_5 : decode cX6_firstVan 5 = .ok (.iload_n 3, 1) := by decide +kernel
theorem dX6_firstVan_6 : decode cX6_firstVan 6 = .ok (.bipush 8, 2) := by decide +kernel
theorem dX6_firstVan_8 : decode cX6_firstVan 8 = .ok (.if_icmp .ge 47, 3) := by decide +kernel
theorem dX6_firstVan_11 : decode cX6_firstVan 11 = .ok (.aload_n 0, 1) := by decide +kernel
theorem dX6_firstVan_12 : decode cX6_firstVan 12 = .ok (.iload_n 3, 1) := by decide +kernel
theorem dX6_firstVan_13 : decode cX6_firstVan 13 = .ok (.iload_n 1, 1) := by decide +kernel
theorem dX6_firstVan_14 : decode cX6_firstVan 14 = .ok (.invokevirtual 71, 3) := by decide +kernel
theorem dX6_firstVan_17 : decode cX6_firstVan 17 = .ok (.ifCond .eq 32, 3) := by decide +kernel
theorem dX6_firstVan_20 : decode cX6_firstVan 20 = .ok (.iload_n 2, 1) := by decide +kernel
theorem dX6_firstVan_21 : decode cX6_firstVan 21 = .ok (.bipush (-106), 2) := by decide +kernel
theorem dX6_firstVan_23 : decode cX6_firstVan 23 = .ok (.if_icmp .eq 24, 3) := by decide +kernel
theorem dX6_firstVan_26 : decode cX6_firstVan 26 = .ok (.aload_n 0, 1) := by decide +kernel
theorem dX6_firstVan_27 : decode cX6_firstVan 27 = .ok (.getfield 7, 3) := by decide +kernel
theorem dX6_firstVan_30 : decode cX6_firstVan 30 = .ok (.bipush 17, 2) := by decide +kernel
theorem dX6_firstVan_32 : decode cX6_firstVan 32 = .ok (.iload_n 3, 1) := by decide +kernel
theorem dX6_firstVan_33 : decode cX6_firstVan 33 = .ok (.iadd, 1) := by decide +kernel
theorem dX6_firstVan_34 : decode cX6_firstVan 34 = .ok (.iaload, 1) := by decide +kernel
theorem dX6_firstVan_35 : decode cX6_firstVan 35 = .ok (.aload_n 0, 1) := by decide +kernel
theorem dX6_firstVan_36 : decode cX6_firstVan 36 = .ok (.getfield 7, 3) := by decide +kernel
theorem dX6_firstVan_39 : decode cX6_firstVan 39 = .ok (.bipush 17, 2) := by decide +kernel
theorem dX6_firstVan_41 : decode cX6_firstVan 41 = .ok (.iload_n 2, 1) := by decide +kernel
theorem dX6_firstVan_42 : decode cX6_firstVan 42 = .ok (.iadd, 1) := by decide +kernel
theorem dX6_firstVan_43 : decode cX6_firstVan 43 = .ok (.iaload, 1) := by decide +kernel
theorem dX6_firstVan_44 : decode cX6_firstVan 44 = .ok (.if_icmp .ge 5, 3) := by decide +kernel
theorem dX6_firstVan_47 : decode cX6_firstVan 47 = .ok (.iload_n 3, 1) := by decide +kernel
theorem dX6_firstVan_48 : decode cX6_firstVan 48 = .ok (.istore_n 2, 1) := by decide +kernel
theorem dX6_firstVan_49 : decode cX6_firstVan 49 = .ok (.iinc 3 1, 3) := by decide +kernel
theorem dX6_firstVan_52 : decode cX6_firstVan 52 = .ok (.goto (-47), 3) := by decide +kernel
theorem dX6_firstVan_55 : decode cX6_firstVan 55 = .ok (.iload_n 2, 1) := by decide +kernel
theorem dX6_firstVan_56 : decode cX6_firstVan 56 = .ok (.ireturn, 1) := by decide +kernel
theorem dX6_lay_0 : decode cX6_lay 0 = .ok (.iconst 0, 1) := by decide +kernel
theorem dX6_lay_1 : decode cX6_lay 1 = .ok (.istore_n 1, 1) := by decide +kernel
theorem dX6_lay_2 : decode cX6_lay 2 = .ok (.iload_n 1, 1) := by decide +kernel
theorem dX6_lay_3 : decode cX6_lay 3 = .ok (.bipush 8, 2) := by decide +kernel
theorem dX6_lay_5 : decode cX6_lay 5 = .ok (.if_icmp .ge 31, 3) := by decide +kernel
theorem dX6_lay_8 : decode cX6_lay 8 = .ok (.aload_n 0, 1) := by decide +kernel
theorem dX6_lay_9 : decode cX6_lay 9 = .ok (.getfield 34, 3) := by decide +kernel
theorem dX6_lay_12 : decode cX6_lay 12 = .ok (.iload_n 1, 1) := by decide +kernel
theorem dX6_lay_13 : decode cX6_lay 13 = .ok (.aload_n 0, 1) := by decide +kernel
theorem dX6_lay_14 : decode cX6_lay 14 = .ok (.getfield 7, 3) := by decide +kernel
theorem dX6_lay_17 : decode cX6_lay 17 = .ok (.bipush 25, 2) := by decide +kernel
theorem dX6_lay_19 : decode cX6_lay 19 = .ok (.iload_n 1, 1) := by decide +kernel
theorem dX6_lay_20 : decode cX6_lay 20 = .ok (.iadd, 1) := by decide +kernel
theorem dX6_lay_21 : decode cX6_lay 21 = .ok (.iaload, 1) := by decide +kernel
theorem dX6_lay_22 : decode cX6_lay 22 = .ok (.iastore, 1) := by decide +kernel
theorem dX6_lay_23 : decode cX6_lay 23 = .ok (.aload_n 0, 1) := by decide +kernel
theorem dX6_lay_24 : decode cX6_lay 24 = .ok (.getfield 37, 3) := by decide +kernel
theorem dX6_lay_27 : decode cX6_lay 27 = .ok (.iload_n 1, 1) := by decide +kernel
theorem dX6_lay_28 : decode cX6_lay 28 = .ok (.iconst 0, 1) := by decide +kernel
theorem dX6_lay_29 : decode cX6_lay 29 = .ok (.iastore, 1) := by decide +kernel
theorem dX6_lay_30 : decode cX6_lay 30 = .ok (.iinc 1 1, 3) := by decide +kernel
theorem dX6_lay_33 : decode cX6_lay 33 = .ok (.goto (-31), 3) := by decide +kernel
theorem dX6_lay_36 : decode cX6_lay 36 = .ok (.iconst 0, 1) := by decide +kernel
theorem dX6_lay_37 : decode cX6_lay 37 = .ok (.istore_n 1, 1) := by decide +kernel
theorem dX6_lay_38 : decode cX6_lay 38 = .ok (.iload_n 1, 1) := by decide +kernel
theorem dX6_lay_39 : decode cX6_lay 39 = .ok (.bipush 24, 2) := by decide +kernel
theorem dX6_lay_41 : decode cX6_lay 41 = .ok (.if_icmp .ge 16, 3) := by decide +kernel
theorem dX6_lay_44 : decode cX6_lay 44 = .ok (.aload_n 0, 1) := by decide +kernel
theorem dX6_lay_45 : decode cX6_lay 45 = .ok (.getfield 31, 3) := by decide +kernel
theorem dX6_lay_48 : decode cX6_lay 48 = .ok (.iload_n 1, 1) := by decide +kernel
theorem dX6_lay_49 : decode cX6_lay 49 = .ok (.iconst 0, 1) := by decide +kernel
theorem dX6_lay_50 : decode cX6_lay 50 = .ok (.iastore, 1) := by decide +kernel
theorem dX6_lay_51 : decode cX6_lay 51 = .ok (.iinc 1 1, 3) := by decide +kernel
theorem dX6_lay_54 : decode cX6_lay 54 = .ok (.goto (-16), 3) := by decide +kernel
theorem dX6_lay_57 : decode cX6_lay 57 = .ok (.iconst 0, 1) := by decide +kernel
theorem dX6_lay_58 : decode cX6_lay 58 = .ok (.istore_n 1, 1) := by decide +kernel
theorem dX6_lay_59 : decode cX6_lay 59 = .ok (.iload_n 1, 1) := by decide +kernel
theorem dX6_lay_60 : decode cX6_lay 60 = .ok (.aload_n 0, 1) := by decide +kernel
theorem dX6_lay_61 : decode cX6_lay 61 = .ok (.getfield 7, 3) := by decide +kernel
theorem dX6_lay_64 : decode cX6_lay 64 = .ok (.bipush 33, 2) := by decide +kernel
theorem dX6_lay_66 : decode cX6_lay 66 = .ok (.iaload, 1) := by decide +kernel
theorem dX6_lay_67 : decode cX6_lay 67 = .ok (.if_icmp .ge 72, 3) := by decide +kernel
theorem dX6_lay_70 : decode cX6_lay 70 = .ok (.aload_n 0, 1) := by decide +kernel
theorem dX6_lay_71 : decode cX6_lay 71 = .ok (.invokevirtual 75, 3) := by decide +kernel
theorem dX6_lay_74 : decode cX6_lay 74 = .ok (.istore_n 2, 1) := by decide +kernel
theorem dX6_lay_75 : decode cX6_lay 75 = .ok (.aload_n 0, 1) := by decide +kernel
theorem dX6_lay_76 : decode cX6_lay 76 = .ok (.iload_n 2, 1) := by decide +kernel
theorem dX6_lay_77 : decode cX6_lay 77 = .ok (.invokevirtual 79, 3) := by decide +kernel
theorem dX6_lay_80 : decode cX6_lay 80 = .ok (.istore_n 3, 1) := by decide +kernel
theorem dX6_lay_81 : decode cX6_lay 81 = .ok (.aload_n 0, 1) := by decide +kernel
theorem dX6_lay_82 : decode cX6_lay 82 = .ok (.getfield 31, 3) := by decide +kernel
theorem dX6_lay_85 : decode cX6_lay 85 = .ok (.iload_n 2, 1) := by decide +kernel
theorem dX6_lay_86 : decode cX6_lay 86 = .ok (.iconst 1, 1) := by decide +kernel
theorem dX6_lay_87 : decode cX6_lay 87 = .ok (.iastore, 1) := by decide +kernel
theorem dX6_lay_88 : decode cX6_lay 88 = .ok (.aload_n 0, 1) := by decide +kernel
theorem dX6_lay_89 : decode cX6_lay 89 = .ok (.getfield 28, 3) := by decide +kernel
theorem dX6_lay_92 : decode cX6_lay 92 = .ok (.iload_n 2, 1) := by decide +kernel
theorem dX6_lay_93 : decode cX6_lay 93 = .ok (.iload_n 3, 1) := by decide +kernel
theorem dX6_lay_94 : decode cX6_lay 94 = .ok (.iastore, 1) := by decide +kernel
theorem dX6_lay_95 : decode cX6_lay 95 = .ok (.iload_n 3, 1) := by decide +kernel
theorem dX6_lay_96 : decode cX6_lay 96 = .ok (.bipush (-106), 2) := by decide +kernel
theorem dX6_lay_98 : decode cX6_lay 98 = .ok (.if_icmp .eq 35, 3) := by decide +kernel
theorem dX6_lay_101 : decode cX6_lay 101 = .ok (.aload_n 0, 1) := by decide +kernel
theorem dX6_lay_102 : decode cX6_lay 102 = .ok (.getfield 34, 3) := by decide +kernel
theorem dX6_lay_105 : decode cX6_lay 105 = .ok (.iload_n 3, 1) := by decide +kernel
theorem dX6_lay_106 : decode cX6_lay 106 = .ok (.dup2, 1) := by decide +kernel
theorem dX6_lay_107 : decode cX6_lay 107 = .ok (.iaload, 1) := by decide +kernel
theorem dX6_lay_108 : decode cX6_lay 108 = .ok (.aload_n 0, 1) := by decide +kernel
theorem dX6_lay_109 : decode cX6_lay 109 = .ok (.iload_n 2, 1) := by decide +kernel
theorem dX6_lay_110 : decode cX6_lay 110 = .ok (.iconst 3, 1) := by decide +kernel
theorem dX6_lay_111 : decode cX6_lay 111 = .ok (.invokevirtual 57, 3) := by decide +kernel
theorem dX6_lay_114 : decode cX6_lay 114 = .ok (.isub, 1) := by decide +kernel
theorem dX6_lay_115 : decode cX6_lay 115 = .ok (.iastore, 1) := by decide +kernel
theorem dX6_lay_116 : decode cX6_lay 116 = .ok (.aload_n 0, 1) := by decide +kernel
theorem dX6_lay_117 : decode cX6_lay 117 = .ok (.getfield 37, 3) := by decide +kernel
theorem dX6_lay_120 : decode cX6_lay 120 = .ok (.iload_n 3, 1) := by decide +kernel
theorem dX6_lay_121 : decode cX6_lay 121 = .ok (.dup2, 1) := by decide +kernel
theorem dX6_lay_122 : decode cX6_lay 122 = .ok (.iaload, 1) := by decide +kernel
theorem dX6_lay_123 : decode cX6_lay 123 = .ok (.iconst 1, 1) := by decide +kernel
theorem dX6_lay_124 : decode cX6_lay 124 = .ok (.aload_n 0, 1) := by decide +kernel
theorem dX6_lay_125 : decode cX6_lay 125 = .ok (.iload_n 2, 1) := by decide +kernel
theorem dX6_lay_126 : decode cX6_lay 126 = .ok (.iconst 1, 1) := by decide +kernel
theorem dX6_lay_127 : decode cX6_lay 127 = .ok (.invokevirtual 57, 3) := by decide +kernel
theorem dX6_lay_130 : decode cX6_lay 130 = .ok (.ishl, 1) := by decide +kernel
theorem dX6_lay_131 : decode cX6_lay 131 = .ok (.ior, 1) := by decide +kernel
theorem dX6_lay_132 : decode cX6_lay 132 = .ok (.iastore, 1) := by decide +kernel
theorem dX6_lay_133 : decode cX6_lay 133 = .ok (.iinc 1 1, 3) := by decide +kernel
theorem dX6_lay_136 : decode cX6_lay 136 = .ok (.goto (-77), 3) := by decide +kernel
theorem dX6_lay_139 : decode cX6_lay 139 = .ok (.return_, 1) := by decide +kernel
theorem dX6_keyOf_0 : decode cX6_keyOf 0 = .ok (.bipush 100, 2) := by decide +kernel
theorem dX6_keyOf_2 : decode cX6_keyOf 2 = .ok (.aload_n 0, 1) := by decide +kernel
theorem dX6_keyOf_3 : decode cX6_keyOf 3 = .ok (.iload_n 1, 1) := by decide +kernel
theorem dX6_keyOf_4 : decode cX6_keyOf 4 = .ok (.iconst 1, 1) := by decide +kernel
theorem dX6_keyOf_5 : decode cX6_keyOf 5 = .ok (.invokevirtual 57, 3) := by decide +kernel
theorem dX6_keyOf_8 : decode cX6_keyOf 8 = .ok (.imul, 1) := by decide +kernel
theorem dX6_keyOf_9 : decode cX6_keyOf 9 = .ok (.aload_n 0, 1) := by decide +kernel
theorem dX6_keyOf_10 : decode cX6_keyOf 10 = .ok (.iload_n 1, 1) := by decide +kernel
theorem dX6_keyOf_11 : decode cX6_keyOf 11 = .ok (.iconst 2, 1) := by decide +kernel
theorem dX6_keyOf_12 : decode cX6_keyOf 12 = .ok (.invokevirtual 57, 3) := by decide +kernel
theorem dX6_keyOf_15 : decode cX6_keyOf 15 = .ok (.iadd, 1) := by decide +kernel
theorem dX6_keyOf_16 : decode cX6_keyOf 16 = .ok (.ireturn, 1) := by decide +kernel
theorem dX6_layStops_0 : decode cX6_layStops 0 = .ok (.aload_n 0, 1) := by decide +kernel
theorem dX6_layStops_1 : decode cX6_layStops 1 = .ok (.iconst 0, 1) := by decide +kernel
theorem dX6_layStops_2 : decode cX6_layStops 2 = .ok (.putfield 82, 3) := by decide +kernel
theorem dX6_layStops_5 : decode cX6_layStops 5 = .ok (.iconst (-1), 1) := by decide +kernel
theorem dX6_layStops_6 : decode cX6_layStops 6 = .ok (.istore_n 2, 1) := by decide +kernel
theorem dX6_layStops_7 : decode cX6_layStops 7 = .ok (.iconst 1, 1) := by decide +kernel
theorem dX6_layStops_8 : decode cX6_layStops 8 = .ok (.istore_n 3, 1) := by decide +kernel
theorem dX6_layStops_9 : decode cX6_layStops 9 = .ok (.iload_n 3, 1) := by decide +kernel
theorem dX6_layStops_10 : decode cX6_layStops 10 = .ok (.ifCond .eq 223, 3) := by decide +kernel
theorem dX6_layStops_13 : decode cX6_layStops 13 = .ok (.sipush 1000, 3) := by decide +kernel
theorem dX6_layStops_16 : decode cX6_layStops 16 = .ok (.istore 4, 2) := by decide +kernel
theorem dX6_layStops_18 : decode cX6_layStops 18 = .ok (.iconst 0, 1) := by decide +kernel
theorem dX6_layStops_19 : decode cX6_layStops 19 = .ok (.istore 5, 2) := by decide +kernel
theorem dX6_layStops_21 : decode cX6_layStops 21 = .ok (.iload 5, 2) := by decide +kernel
theorem dX6_layStops_23 : decode cX6_layStops 23 = .ok (.aload_n 0, 1) := by decide +kernel
theorem dX6_layStops_24 : decode cX6_layStops 24 = .ok (.getfield 7, 3) := by decide +kernel
theorem dX6_layStops_27 : decode cX6_layStops 27 = .ok (.bipush 33, 2) := by decide +kernel
theorem dX6_layStops_29 : decode cX6_layStops 29 = .ok (.iaload, 1) := by decide +kernel
theorem dX6_layStops_30 : decode cX6_layStops 30 = .ok (.if_icmp .ge 66, 3) := by decide +kernel
theorem dX6_layStops_33 : decode cX6_layStops 33 = .ok (.aload_n 0, 1) := by decide +kernel
theorem dX6_layStops_34 : decode cX6_layStops 34 = .ok (.getfield 28, 3) := by decide +kernel
theorem dX6_layStops_37 : decode cX6_layStops 37 = .ok (.iload 5, 2) := by decide +kernel
theorem dX6_layStops_39 : decode cX6_layStops 39 = .ok (.iaload, 1) := by decide +kernel
theorem dX6_layStops_40 : decode cX6_layStops 40 = .ok (.iload_n 1, 1) := by decide +kernel
theorem dX6_layStops_41 : decode cX6_layStops 41 = .ok (.if_icmp .ne 28, 3) := by decide +kernel
theorem dX6_layStops_44 : decode cX6_layStops 44 = .ok (.aload_n 0, 1) := by decide +kernel
theorem dX6_layStops_45 : decode cX6_layStops 45 = .ok (.iload 5, 2) := by decide +kernel
theorem dX6_layStops_47 : decode cX6_layStops 47 = .ok (.invokevirtual 85, 3) := by decide +kernel
theorem dX6_layStops_50 : decode cX6_layStops 50 = .ok (.iload_n 2, 1) := by decide +kernel
theorem dX6_layStops_51 : decode cX6_layStops 51 = .ok (.if_icmp .le 18, 3) := by decide +kernel
theorem dX6_layStops_54 : decode cX6_layStops 54 = .ok (.aload_n 0, 1) := by decide +kernel
theorem dX6_layStops_55 : decode cX6_layStops 55 = .ok (.iload 5, 2) := by decide +kernel
theorem dX6_layStops_57 : decode cX6_layStops 57 = .ok (.invokevirtual 85, 3) := by decide +kernel
theorem dX6_layStops_60 : decode cX6_layStops 60 = .ok (.iload 4, 2) := by decide +kernel
theorem dX6_layStops_62 : decode cX6_layStops 62 = .ok (.if_icmp .ge 7, 3) := by decide +kernel
theorem dX6_layStops_65 : decode cX6_layStops 65 = .ok (.iconst 1, 1) := by decide +kernel
theorem dX6_layStops_66 : decode cX6_layStops 66 = .ok (.goto 4, 3) := by decide +kernel
theorem dX6_layStops_69 : decode cX6_layStops 69 = .ok (.iconst 0, 1) := by decide +kernel
theorem dX6_layStops_70 : decode cX6_layStops 70 = .ok (.istore 6, 2) := by decide +kernel
theorem dX6_layStops_72 : decode cX6_layStops 72 = .ok (.iload 6, 2) := by decide +kernel
theorem dX6_layStops_74 : decode cX6_layStops 74 = .ok (.ifCond .eq 12, 3) := by decide +kernel
theorem dX6_layStops_77 : decode cX6_layStops 77 = .ok (.aload_n 0, 1) := by decide +kernel
theorem dX6_layStops_78 : decode cX6_layStops 78 = .ok (.iload 5, 2) := by decide +kernel
theorem dX6_layStops_80 : decode cX6_layStops 80 = .ok (.invokevirtual 85, 3) := by decide +kernel
theorem dX6_layStops_83 : decode cX6_layStops 83 = .ok (.goto 5, 3) := by decide +kernel
theorem dX6_layStops_86 : decode cX6_layStops 86 = .ok (.iload 4, 2) := by decide +kernel
theorem dX6_layStops_88 : decode cX6_layStops 88 = .ok (.istore 4, 2) := by decide +kernel
theorem dX6_layStops_90 : decode cX6_layStops 90 = .ok (.iinc 5 1, 3) := by decide +kernel
theorem dX6_layStops_93 : decode cX6_layStops 93 = .ok (.goto (-72), 3) := by decide +kernel
theorem dX6_layStops_96 : decode cX6_layStops 96 = .ok (.iload 4, 2) := by decide +kernel
theorem dX6_layStops_98 : decode cX6_layStops 98 = .ok (.sipush 1000, 3) := by decide +kernel
theorem dX6_layStops_101 : decode cX6_layStops 101 = .ok (.if_icmp .ge 7, 3) := by decide +kernel
theorem dX6_layStops_104 : decode cX6_layStops 104 = .ok (.iconst 1, 1) := by decide +kernel
theorem dX6_layStops_105 : decode cX6_layStops 105 = .ok (.goto 4, 3) := by decide +kernel
theorem dX6_layStops_108 : decode cX6_layStops 108 = .ok (.iconst 0, 1) := by decide +kernel
theorem dX6_layStops_109 : decode cX6_layStops 109 = .ok (.istore_n 3, 1) := by decide +kernel
theorem dX6_layStops_110 : decode cX6_layStops 110 = .ok (.iload_n 3, 1) := by decide +kernel
theorem dX6_layStops_111 : decode cX6_layStops 111 = .ok (.ifCond .eq 119, 3) := by decide +kernel
theorem dX6_layStops_114 : decode cX6_layStops 114 = .ok (.aload_n 0, 1) := by decide +kernel
theorem dX6_layStops_115 : decode cX6_layStops 115 = .ok (.getfield 82, 3) := by decide +kernel
theorem dX6_layStops_118 : decode cX6_layStops 118 = .ok (.ifCond .ne 16, 3) := by decide +kernel
theorem dX6_layStops_121 : decode cX6_layStops 121 = .ok (.bipush 10, 2) := by decide +kernel
theorem dX6_layStops_123 : decode cX6_layStops 123 = .ok (.iconst 5, 1) := by decide +kernel
theorem dX6_layStops_124 : decode cX6_layStops 124 = .ok (.iload 4, 2) := by decide +kernel
theorem dX6_layStops_126 : decode cX6_layStops 126 = .ok (.bipush 100, 2) := by decide +kernel
theorem dX6_layStops_128 : decode cX6_layStops 128 = .ok (.idiv, 1) := by decide +kernel
theorem dX6_layStops_129 : decode cX6_layStops 129 = .ok (.imul, 1) := by decide +kernel
theorem dX6_layStops_130 : decode cX6_layStops 130 = .ok (.iadd, 1) := by decide +kernel
theorem dX6_layStops_131 : decode cX6_layStops 131 = .ok (.goto 31, 3) := by decide +kernel
theorem dX6_layStops_134 : decode cX6_layStops 134 = .ok (.iload 4, 2) := by decide +kernel
theorem dX6_layStops_136 : decode cX6_layStops 136 = .ok (.bipush 100, 2) := by decide +kernel
theorem dX6_layStops_138 : decode cX6_layStops 138 = .ok (.idiv, 1) := by decide +kernel
theorem dX6_layStops_139 : decode cX6_layStops 139 = .ok (.iload_n 2, 1) := by decide +kernel
theorem dX6_layStops_140 : decode cX6_layStops 140 = .ok (.bipush 100, 2) := by decide +kernel
theorem dX6_layStops_142 : decode cX6_layStops 142 = .ok (.idiv, 1) := by decide +kernel
theorem dX6_layStops_143 : decode cX6_layStops 143 = .ok (.if_icmp .ne 7, 3) := by decide +kernel
theorem dX6_layStops_146 : decode cX6_layStops 146 = .ok (.iconst 3, 1) := by decide +kernel
theorem dX6_layStops_147 : decode cX6_layStops 147 = .ok (.goto 15, 3) := by decide +kernel
theorem dX6_layStops_150 : decode cX6_layStops 150 = .ok (.iconst 5, 1) := by decide +kernel
theorem dX6_layStops_151 : decode cX6_layStops 151 = .ok (.iload 4, 2) := by decide +kernel
theorem dX6_layStops_153 : decode cX6_layStops 153 = .ok (.bipush 100, 2) := by decide +kernel
theorem dX6_layStops_155 : decode cX6_layStops 155 = .ok (.idiv, 1) := by decide +kernel
theorem dX6_layStops_156 : decode cX6_layStops 156 = .ok (.iload_n 2, 1) := by decide +kernel
theorem dX6_layStops_157 : decode cX6_layStops 157 = .ok (.bipush 100, 2) := by decide +kernel
theorem dX6_layStops_159 : decode cX6_layStops 159 = .ok (.idiv, 1) := by decide +kernel
theorem dX6_layStops_160 : decode cX6_layStops 160 = .ok (.isub, 1) := by decide +kernel
theorem dX6_layStops_161 : decode cX6_layStops 161 = .ok (.imul, 1) := by decide +kernel
theorem dX6_layStops_162 : decode cX6_layStops 162 = .ok (.istore 5, 2) := by decide +kernel
theorem dX6_layStops_164 : decode cX6_layStops 164 = .ok (.aload_n 0, 1) := by decide +kernel
theorem dX6_layStops_165 : decode cX6_layStops 165 = .ok (.getfield 40, 3) := by decide +kernel
theorem dX6_layStops_168 : decode cX6_layStops 168 = .ok (.aload_n 0, 1) := by decide +kernel
theorem dX6_layStops_169 : decode cX6_layStops 169 = .ok (.getfield 82, 3) := by decide +kernel
theorem dX6_layStops_172 : decode cX6_layStops 172 = .ok (.iload 4, 2) := by decide +kernel
theorem dX6_layStops_174 : decode cX6_layStops 174 = .ok (.iastore, 1) := by decide +kernel
theorem dX6_layStops_175 : decode cX6_layStops 175 = .ok (.aload_n 0, 1) := by decide +kernel
theorem dX6_layStops_176 : decode cX6_layStops 176 = .ok (.getfield 43, 3) := by decide +kernel
theorem dX6_layStops_179 : decode cX6_layStops 179 = .ok (.aload_n 0, 1) := by decide +kernel
theorem dX6_layStops_180 : decode cX6_layStops 180 = .ok (.getfield 82, 3) := by decide +kernel
theorem dX6_layStops_183 : decode cX6_layStops 183 = .ok (.iload 5, 2) := by decide +kernel
theorem dX6_layStops_185 : decode cX6_layStops 185 = .ok (.aload_n 0, 1) := by decide +kernel
theorem dX6_layStops_186 : decode cX6_layStops 186 = .ok (.getfield 82, 3) := by decide +kernel
theorem dX6_layStops_189 : decode cX6_layStops 189 = .ok (.ifCond .ne 15, 3) := by decide +kernel
theorem dX6_layStops_192 : decode cX6_layStops 192 = .ok (.aload_n 0, 1) := by decide +kernel
theorem dX6_layStops_193 : decode cX6_layStops 193 = .ok (.getfield 7, 3) := by decide +kernel
theorem dX6_layStops_196 : decode cX6_layStops 196 = .ok (.bipush 17, 2) := by decide +kernel
theorem dX6_layStops_198 : decode cX6_layStops 198 = .ok (.iload_n 1, 1) := by decide +kernel
theorem dX6_layStops_199 : decode cX6_layStops 199 = .ok (.iadd, 1) := by decide +kernel
theorem dX6_layStops_200 : decode cX6_layStops 200 = .ok (.iaload, 1) := by decide +kernel
theorem dX6_layStops_201 : decode cX6_layStops 201 = .ok (.goto 14, 3) := by decide +kernel
theorem dX6_layStops_204 : decode cX6_layStops 204 = .ok (.aload_n 0, 1) := by decide +kernel
theorem dX6_layStops_205 : decode cX6_layStops 205 = .ok (.getfield 43, 3) := by decide +kernel
theorem dX6_layStops_208 : decode cX6_layStops 208 = .ok (.aload_n 0, 1) := by decide +kernel
theorem dX6_layStops_209 : decode cX6_layStops 209 = .ok (.getfield 82, 3) := by decide +kernel
theorem dX6_layStops_212 : decode cX6_layStops 212 = .ok (.iconst 1, 1) := by decide +kernel
theorem dX6_layStops_213 : decode cX6_layStops 213 = .ok (.isub, 1) := by decide +kernel
theorem dX6_layStops_214 : decode cX6_layStops 214 = .ok (.iaload, 1) := by decide +kernel
theorem dX6_layStops_215 : decode cX6_layStops 215 = .ok (.iadd, 1) := by decide +kernel
theorem dX6_layStops_216 : decode cX6_layStops 216 = .ok (.iastore, 1) := by decide +kernel
theorem dX6_layStops_217 : decode cX6_layStops 217 = .ok (.aload_n 0, 1) := by decide +kernel
theorem dX6_layStops_218 : decode cX6_layStops 218 = .ok (.dup, 1) := by decide +kernel
theorem dX6_layStops_219 : decode cX6_layStops 219 = .ok (.getfield 82, 3) := by decide +kernel
theorem dX6_layStops_222 : decode cX6_layStops 222 = .ok (.iconst 1, 1) := by decide +kernel
theorem dX6_layStops_223 : decode cX6_layStops 223 = .ok (.iadd, 1) := by decide +kernel
theorem dX6_layStops_224 : decode cX6_layStops 224 = .ok (.putfield 82, 3) := by decide +kernel
theorem dX6_layStops_227 : decode cX6_layStops 227 = .ok (.iload 4, 2) := by decide +kernel
theorem dX6_layStops_229 : decode cX6_layStops 229 = .ok (.istore_n 2, 1) := by decide +kernel
theorem dX6_layStops_230 : decode cX6_layStops 230 = .ok (.goto (-221), 3) := by decide +kernel
theorem dX6_layStops_233 : decode cX6_layStops 233 = .ok (.return_, 1) := by decide +kernel
theorem dX6_minuteAt_0 : decode cX6_minuteAt 0 = .ok (.aload_n 0, 1) := by decide +kernel
theorem dX6_minuteAt_1 : decode cX6_minuteAt 1 = .ok (.iload_n 1, 1) := by decide +kernel
theorem dX6_minuteAt_2 : decode cX6_minuteAt 2 = .ok (.invokevirtual 88, 3) := by decide +kernel
theorem dX6_minuteAt_5 : decode cX6_minuteAt 5 = .ok (.iconst 0, 1) := by decide +kernel
theorem dX6_minuteAt_6 : decode cX6_minuteAt 6 = .ok (.istore_n 3, 1) := by decide +kernel
theorem dX6_minuteAt_7 : decode cX6_minuteAt 7 = .ok (.aload_n 0, 1) := by decide +kernel
theorem dX6_minuteAt_8 : decode cX6_minuteAt 8 = .ok (.getfield 40, 3) := by decide +kernel
theorem dX6_minuteAt_11 : decode cX6_minuteAt 11 = .ok (.iload_n 3, 1) := by decide +kernel
theorem dX6_minuteAt_12 : decode cX6_minuteAt 12 = .ok (.iaload, 1) := by decide +kernel
theorem dX6_minuteAt_13 : decode cX6_minuteAt 13 = .ok (.iload_n 2, 1) := by decide +kernel
theorem dX6_minuteAt_14 : decode cX6_minuteAt 14 = .ok (.if_icmp .eq 9, 3) := by decide +kernel
theorem dX6_minuteAt_17 : decode cX6_minuteAt 17 = .ok (.iinc 3 1, 3) := by decide +kernel
theorem dX6_minuteAt_20 : decode cX6_minuteAt 20 = .ok (.goto (-13), 3) := by decide +kernel
theorem dX6_minuteAt_23 : decode cX6_minuteAt 23 = .ok (.aload_n 0, 1) := by decide +kernel
theorem dX6_minuteAt_24 : decode cX6_minuteAt 24 = .ok (.getfield 43, 3) := by decide +kernel
theorem dX6_minuteAt_27 : decode cX6_minuteAt 27 = .ok (.iload_n 3, 1) := by decide +kernel
theorem dX6_minuteAt_28 : decode cX6_minuteAt 28 = .ok (.iaload, 1) := by decide +kernel
theorem dX6_minuteAt_29 : decode cX6_minuteAt 29 = .ok (.ireturn, 1) := by decide +kernel
theorem dX6_isWith_0 : decode cX6_isWith 0 = .ok (.aload_n 0, 1) := by decide +kernel
theorem dX6_isWith_1 : decode cX6_isWith 1 = .ok (.getfield 28, 3) := by decide +kernel
theorem dX6_isWith_4 : decode cX6_isWith 4 = .ok (.iload_n 1, 1) := by decide +kernel
theorem dX6_isWith_5 : decode cX6_isWith 5 = .ok (.iaload, 1) := by decide +kernel
theorem dX6_isWith_6 : decode cX6_isWith 6 = .ok (.aload_n 0, 1) := by decide +kernel
theorem dX6_isWith_7 : decode cX6_isWith 7 = .ok (.getfield 28, 3) := by decide +kernel
theorem dX6_isWith_10 : decode cX6_isWith 10 = .ok (.iload_n 2, 1) := by decide +kernel
theorem dX6_isWith_11 : decode cX6_isWith 11 = .ok (.iaload, 1) := by decide +kernel
theorem dX6_isWith_12 : decode cX6_isWith 12 = .ok (.if_icmp .ne 24, 3) := by decide +kernel
theorem dX6_isWith_15 : decode cX6_isWith 15 = .ok (.iload_n 3, 1) := by decide +kernel
theorem dX6_isWith_16 : decode cX6_isWith 16 = .ok (.ifCond .eq 16, 3) := by decide +kernel
theorem dX6_isWith_19 : decode cX6_isWith 19 = .ok (.aload_n 0, 1) := by decide +kernel
theorem dX6_isWith_20 : decode cX6_isWith 20 = .ok (.iload_n 1, 1) := by decide +kernel
theorem dX6_isWith_21 : decode cX6_isWith 21 = .ok (.invokevirtual 85, 3) := by decide +kernel
theorem dX6_isWith_24 : decode cX6_isWith 24 = .ok (.aload_n 0, 1) := by decide +kernel
theorem dX6_isWith_25 : decode cX6_isWith 25 = .ok (.iload_n 2, 1) := by decide +kernel
theorem dX6_isWith_26 : decode cX6_isWith 26 = .ok (.invokevirtual 85, 3) := by decide +kernel
theorem dX6_isWith_29 : decode cX6_isWith 29 = .ok (.if_icmp .ne 7, 3) := by decide +kernel
theorem dX6_isWith_32 : decode cX6_isWith 32 = .ok (.iconst 1, 1) := by decide +kernel
theorem dX6_isWith_33 : decode cX6_isWith 33 = .ok (.goto 4, 3) := by decide +kernel
theorem dX6_isWith_36 : decode cX6_isWith 36 = .ok (.iconst 0, 1) := by decide +kernel
theorem dX6_isWith_37 : decode cX6_isWith 37 = .ok (.ireturn, 1) := by decide +kernel
theorem dX6_part_0 : decode cX6_part 0 = .ok (.iconst 0, 1) := by decide +kernel
theorem dX6_part_1 : decode cX6_part 1 = .ok (.istore 4, 2) := by decide +kernel
theorem dX6_part_3 : decode cX6_part 3 = .ok (.iconst 0, 1) := by decide +kernel
theorem dX6_part_4 : decode cX6_part 4 = .ok (.istore 5, 2) := by decide +kernel
theorem dX6_part_6 : decode cX6_part 6 = .ok (.iload 5, 2) := by decide +kernel
theorem dX6_part_8 : decode cX6_part 8 = .ok (.aload_n 0, 1) := by decide +kernel
theorem dX6_part_9 : decode cX6_part 9 = .ok (.getfield 7, 3) := by decide +kernel
theorem dX6_part_12 : decode cX6_part 12 = .ok (.bipush 33, 2) := by decide +kernel
theorem dX6_part_14 : decode cX6_part 14 = .ok (.iaload, 1) := by decide +kernel
theorem dX6_part_15 : decode cX6_part 15 = .ok (.if_icmp .ge 36, 3) := by decide +kernel
theorem dX6_part_18 : decode cX6_part 18 = .ok (.iload 4, 2) := by decide +kernel
theorem dX6_part_20 : decode cX6_part 20 = .ok (.aload_n 0, 1) := by decide +kernel
theorem dX6_part_21 : decode cX6_part 21 = .ok (.iload 5, 2) := by decide +kernel
theorem dX6_part_23 : decode cX6_part 23 = .ok (.iload_n 1, 1) := by decide +kernel
theorem dX6_part_24 : decode cX6_part 24 = .ok (.iload_n 3, 1) := by decide +kernel
theorem dX6_part_25 : decode cX6_part 25 = .ok (.invokevirtual 92, 3) := by decide +kernel
theorem dX6_part_28 : decode cX6_part 28 = .ok (.ifCond .eq 13, 3) := by decide +kernel
theorem dX6_part_31 : decode cX6_part 31 = .ok (.aload_n 0, 1) := by decide +kernel
theorem dX6_part_32 : decode cX6_part 32 = .ok (.iload 5, 2) := by decide +kernel
theorem dX6_part_34 : decode cX6_part 34 = .ok (.iconst 3, 1) := by decide +kernel
theorem dX6_part_35 : decode cX6_part 35 = .ok (.invokevirtual 57, 3) := by decide +kernel
theorem dX6_part_38 : decode cX6_part 38 = .ok (.goto 4, 3) := by decide +kernel
theorem dX6_part_41 : decode cX6_part 41 = .ok (.iconst 0, 1) := by decide +kernel
theorem dX6_part_42 : decode cX6_part 42 = .ok (.iadd, 1) := by decide +kernel
theorem dX6_part_43 : decode cX6_part 43 = .ok (.istore 4, 2) := by decide +kernel
theorem dX6_part_45 : decode cX6_part 45 = .ok (.iinc 5 1, 3) := by decide +kernel
theorem dX6_part_48 : decode cX6_part 48 = .ok (.goto (-42), 3) := by decide +kernel
theorem dX6_part_51 : decode cX6_part 51 = .ok (.iload_n 2, 1) := by decide +kernel
theorem dX6_part_52 : decode cX6_part 52 = .ok (.istore 5, 2) := by decide +kernel
theorem dX6_part_54 : decode cX6_part 54 = .ok (.iconst 0, 1) := by decide +kernel
theorem dX6_part_55 : decode cX6_part 55 = .ok (.istore 6, 2) := by decide +kernel
theorem dX6_part_57 : decode cX6_part 57 = .ok (.iconst 0, 1) := by decide +kernel
theorem dX6_part_58 : decode cX6_part 58 = .ok (.istore 7, 2) := by decide +kernel
theorem dX6_part_60 : decode cX6_part 60 = .ok (.iload 7, 2) := by decide +kernel
theorem dX6_part_62 : decode cX6_part 62 = .ok (.aload_n 0, 1) := by decide +kernel
theorem dX6_part_63 : decode cX6_part 63 = .ok (.getfield 7, 3) := by decide +kernel
theorem dX6_part_66 : decode cX6_part 66 = .ok (.bipush 33, 2) := by decide +kernel
theorem dX6_part_68 : decode cX6_part 68 = .ok (.iaload, 1) := by decide +kernel
theorem dX6_part_69 : decode cX6_part 69 = .ok (.if_icmp .ge 66, 3) := by decide +kernel
theorem dX6_part_72 : decode cX6_part 72 = .ok (.aload_n 0, 1) := by decide +kernel
theorem dX6_part_73 : decode cX6_part 73 = .ok (.iload 7, 2) := by decide +kernel
theorem dX6_part_75 : decode cX6_part 75 = .ok (.iload_n 1, 1) := by decide +kernel
theorem dX6_part_76 : decode cX6_part 76 = .ok (.iload_n 3, 1) := by decide +kernel
theorem dX6_part_77 : decode cX6_part 77 = .ok (.invokevirtual 92, 3) := by decide +kernel
theorem dX6_part_80 : decode cX6_part 80 = .ok (.istore 8, 2) := by decide +kernel
theorem dX6_part_82 : decode cX6_part 82 = .ok (.iload 5, 2) := by decide +kernel
theorem dX6_part_84 : decode cX6_part 84 = .ok (.iload 8, 2) := by decide +kernel
theorem dX6_part_86 : decode cX6_part 86 = .ok (.ifCond .eq 18, 3) := by decide +kernel
theorem dX6_part_89 : decode cX6_part 89 = .ok (.iload_n 2, 1) := by decide +kernel
theorem dX6_part_90 : decode cX6_part 90 = .ok (.aload_n 0, 1) := by decide +kernel
theorem dX6_part_91 : decode cX6_part 91 = .ok (.iload 7, 2) := by decide +kernel
theorem dX6_part_93 : decode cX6_part 93 = .ok (.iconst 3, 1) := by decide +kernel
theorem dX6_part_94 : decode cX6_part 94 = .ok (.invokevirtual 57, 3) := by decide +kernel
theorem dX6_part_97 : decode cX6_part 97 = .ok (.imul, 1) := by decide +kernel
theorem dX6_part_98 : decode cX6_part 98 = .ok (.iload 4, 2) := by decide +kernel
theorem dX6_part_100 : decode cX6_part 100 = .ok (.idiv, 1) := by decide +kernel
theorem dX6_part_101 : decode cX6_part 101 = .ok (.goto 4, 3) := by decide +kernel
theorem dX6_part_104 : decode cX6_part 104 = .ok (.iconst 0, 1) := by decide +kernel
theorem dX6_part_105 : decode cX6_part 105 = .ok (.isub, 1) := by decide +kernel
theorem dX6_part_106 : decode cX6_part 106 = .ok (.istore 5, 2) := by decide +kernel
theorem dX6_part_108 : decode cX6_part 108 = .ok (.iload 6, 2) := by decide +kernel
theorem dX6_part_110 : decode cX6_part 110 = .ok (.iload 8, 2) := by decide +kernel
theorem dX6_part_112 : decode cX6_part 112 = .ok (.ifCond .eq 13, 3) := by decide +kernel
theorem dX6_part_115 : decode cX6_part 115 = .ok (.iload 7, 2) := by decide +kernel
theorem dX6_part_117 : decode cX6_part 117 = .ok (.iload_n 1, 1) := by decide +kernel
theorem dX6_part_118 : decode cX6_part 118 = .ok (.if_icmp .ge 7, 3) := by decide +kernel
theorem dX6_part_121 : decode cX6_part 121 = .ok (.iconst 1, 1) := by decide +kernel
theorem dX6_part_122 : decode cX6_part 122 = .ok (.goto 4, 3) := by decide +kernel
theorem dX6_part_125 : decode cX6_part 125 = .ok (.iconst 0, 1) := by decide +kernel
theorem dX6_part_126 : decode cX6_part 126 = .ok (.iadd, 1) := by decide +kernel
theorem dX6_part_127 : decode cX6_part 127 = .ok (.istore 6, 2) := by decide +kernel
theorem dX6_part_129 : decode cX6_part 129 = .ok (.iinc 7 1, 3) := by decide +kernel
theorem dX6_part_132 : decode cX6_part 132 = .ok (.goto (-72), 3) := by decide +kernel
theorem dX6_part_135 : decode cX6_part 135 = .ok (.iload_n 2, 1) := by decide +kernel
theorem dX6_part_136 : decode cX6_part 136 = .ok (.aload_n 0, 1) := by decide +kernel
theorem dX6_part_137 : decode cX6_part 137 = .ok (.iload_n 1, 1) := by decide +kernel
theorem dX6_part_138 : decode cX6_part 138 = .ok (.iconst 3, 1) := by decide +kernel
theorem dX6_part_139 : decode cX6_part 139 = .ok (.invokevirtual 57, 3) := by decide +kernel
theorem dX6_part_142 : decode cX6_part 142 = .ok (.imul, 1) := by decide +kernel
theorem dX6_part_143 : decode cX6_part 143 = .ok (.iload 4, 2) := by decide +kernel
theorem dX6_part_145 : decode cX6_part 145 = .ok (.idiv, 1) := by decide +kernel
theorem dX6_part_146 : decode cX6_part 146 = .ok (.iload 6, 2) := by decide +kernel
theorem dX6_part_148 : decode cX6_part 148 = .ok (.iload 5, 2) := by decide +kernel
theorem dX6_part_150 : decode cX6_part 150 = .ok (.if_icmp .ge 7, 3) := by decide +kernel
theorem dX6_part_153 : decode cX6_part 153 = .ok (.iconst 1, 1) := by decide +kernel
theorem dX6_part_154 : decode cX6_part 154 = .ok (.goto 4, 3) := by decide +kernel
theorem dX6_part_157 : decode cX6_part 157 = .ok (.iconst 0, 1) := by decide +kernel
theorem dX6_part_158 : decode cX6_part 158 = .ok (.iadd, 1) := by decide +kernel
theorem dX6_part_159 : decode cX6_part 159 = .ok (.ireturn, 1) := by decide +kernel
theorem dX6_fare_0 : decode cX6_fare 0 = .ok (.aload_n 0, 1) := by decide +kernel
theorem dX6_fare_1 : decode cX6_fare 1 = .ok (.getfield 28, 3) := by decide +kernel
theorem dX6_fare_4 : decode cX6_fare 4 = .ok (.iload_n 1, 1) := by decide +kernel
theorem dX6_fare_5 : decode cX6_fare 5 = .ok (.iaload, 1) := by decide +kernel
theorem dX6_fare_6 : decode cX6_fare 6 = .ok (.bipush (-106), 2) := by decide +kernel
theorem dX6_fare_8 : decode cX6_fare 8 = .ok (.if_icmp .ne 7, 3) := by decide +kernel
theorem dX6_fare_11 : decode cX6_fare 11 = .ok (.iconst 0, 1) := by decide +kernel
theorem dX6_fare_12 : decode cX6_fare 12 = .ok (.goto 28, 3) := by decide +kernel
theorem dX6_fare_15 : decode cX6_fare 15 = .ok (.aload_n 0, 1) := by decide +kernel
theorem dX6_fare_16 : decode cX6_fare 16 = .ok (.iload_n 1, 1) := by decide +kernel
theorem dX6_fare_17 : decode cX6_fare 17 = .ok (.aload_n 0, 1) := by decide +kernel
theorem dX6_fare_18 : decode cX6_fare 18 = .ok (.getfield 7, 3) := by decide +kernel
theorem dX6_fare_21 : decode cX6_fare 21 = .ok (.iconst 3, 1) := by decide +kernel
theorem dX6_fare_22 : decode cX6_fare 22 = .ok (.iaload, 1) := by decide +kernel
theorem dX6_fare_23 : decode cX6_fare 23 = .ok (.iconst 0, 1) := by decide +kernel
theorem dX6_fare_24 : decode cX6_fare 24 = .ok (.invokevirtual 96, 3) := by decide +kernel
theorem dX6_fare_27 : decode cX6_fare 27 = .ok (.aload_n 0, 1) := by decide +kernel
theorem dX6_fare_28 : decode cX6_fare 28 = .ok (.iload_n 1, 1) := by decide +kernel
theorem dX6_fare_29 : decode cX6_fare 29 = .ok (.aload_n 0, 1) := by decide +kernel
theorem dX6_fare_30 : decode cX6_fare 30 = .ok (.getfield 7, 3) := by decide +kernel
theorem dX6_fare_33 : decode cX6_fare 33 = .ok (.iconst 4, 1) := by decide +kernel
theorem dX6_fare_34 : decode cX6_fare 34 = .ok (.iaload, 1) := by decide +kernel
theorem dX6_fare_35 : decode cX6_fare 35 = .ok (.iconst 1, 1) := by decide +kernel
theorem dX6_fare_36 : decode cX6_fare 36 = .ok (.invokevirtual 96, 3) := by decide +kernel
theorem dX6_fare_39 : decode cX6_fare 39 = .ok (.iadd, 1) := by decide +kernel
theorem dX6_fare_40 : decode cX6_fare 40 = .ok (.ireturn, 1) := by decide +kernel
theorem dX6_strandedPeople_0 : decode cX6_strandedPeople 0 = .ok (.iconst 0, 1) := by decide +kernel
theorem dX6_strandedPeople_1 : decode cX6_strandedPeople 1 = .ok (.istore_n 1, 1) := by decide +kernel
theorem dX6_strandedPeople_2 : decode cX6_strandedPeople 2 = .ok (.iconst 0, 1) := by decide +kernel
theorem dX6_strandedPeople_3 : decode cX6_strandedPeople 3 = .ok (.istore_n 2, 1) := by decide +kernel
theorem dX6_strandedPeople_4 : decode cX6_strandedPeople 4 = .ok (.iload_n 2, 1) := by decide +kernel
theorem dX6_strandedPeople_5 : decode cX6_strandedPeople 5 = .ok (.aload_n 0, 1) := by decide +kernel
theorem dX6_strandedPeople_6 : decode cX6_strandedPeople 6 = .ok (.getfield 7, 3) := by decide +kernel
theorem dX6_strandedPeople_9 : decode cX6_strandedPeople 9 = .ok (.bipush 33, 2) := by decide +kernel
theorem dX6_strandedPeople_11 : decode cX6_strandedPeople 11 = .ok (.iaload, 1) := by decide +kernel
theorem dX6_strandedPeople_12 : decode cX6_strandedPeople 12 = .ok (.if_icmp .ge 33, 3) := by decide +kernel
theorem dX6_strandedPeople_15 : decode cX6_strandedPeople 15 = .ok (.iload_n 1, 1) := by decide +kernel
theorem dX6_strandedPeople_16 : decode cX6_strandedPeople 16 = .ok (.aload_n 0, 1) := by decide +kernel
theorem dX6_strandedPeople_17 : decode cX6_strandedPeople 17 = .ok (.getfield 28, 3) := by decide +kernel
theorem dX6_strandedPeople_20 : decode cX6_strandedPeople 20 = .ok (.iload_n 2, 1) := by decide +kernel
theorem dX6_strandedPeople_21 : decode cX6_strandedPeople 21 = .ok (.iaload, 1) := by decide +kernel
theorem dX6_strandedPeople_22 : decode cX6_strandedPeople 22 = .ok (.bipush (-106), 2) := by decide +kernel
theorem dX6_strandedPeople_24 : decode cX6_strandedPeople 24 = .ok (.if_icmp .ne 12, 3) := by decide +kernel
theorem dX6_strandedPeople_27 : decode cX6_strandedPeople 27 = .ok (.aload_n 0, 1) := by decide +kernel
theorem dX6_strandedPeople_28 : decode cX6_strandedPeople 28 = .ok (.iload_n 2, 1) := by decide +kernel
theorem dX6_strandedPeople_29 : decode cX6_strandedPeople 29 = .ok (.iconst 3, 1) := by decide +kernel
theorem dX6_strandedPeople_30 : decode cX6_strandedPeople 30 = .ok (.invokevirtual 57, 3) := by decide +kernel
theorem dX6_strandedPeople_33 : decode cX6_strandedPeople 33 = .ok (.goto 4, 3) := by decide +kernel
theorem dX6_strandedPeople_36 : decode cX6_strandedPeople 36 = .ok (.iconst 0, 1) := by decide +kernel
theorem dX6_strandedPeople_37 : decode cX6_strandedPeople 37 = .ok (.iadd, 1) := by decide +kernel
theorem dX6_strandedPeople_38 : decode cX6_strandedPeople 38 = .ok (.istore_n 1, 1) := by decide +kernel
theorem dX6_strandedPeople_39 : decode cX6_strandedPeople 39 = .ok (.iinc 2 1, 3) := by decide +kernel
theorem dX6_strandedPeople_42 : decode cX6_strandedPeople 42 = .ok (.goto (-38), 3) := by decide +kernel
theorem dX6_strandedPeople_45 : decode cX6_strandedPeople 45 = .ok (.iload_n 1, 1) := by decide +kernel
theorem dX6_strandedPeople_46 : decode cX6_strandedPeople 46 = .ok (.ireturn, 1) := by decide +kernel
theorem dX6_waiting_0 : decode cX6_waiting 0 = .ok (.iconst 0, 1) := by decide +kernel
theorem dX6_waiting_1 : decode cX6_waiting 1 = .ok (.istore_n 1, 1) := by decide +kernel
theorem dX6_waiting_2 : decode cX6_waiting 2 = .ok (.iconst 0, 1) := by decide +kernel
theorem dX6_waiting_3 : decode cX6_waiting 3 = .ok (.istore_n 2, 1) := by decide +kernel
theorem dX6_waiting_4 : decode cX6_waiting 4 = .ok (.iload_n 2, 1) := by decide +kernel
theorem dX6_waiting_5 : decode cX6_waiting 5 = .ok (.aload_n 0, 1) := by decide +kernel
theorem dX6_waiting_6 : decode cX6_waiting 6 = .ok (.getfield 7, 3) := by decide +kernel
theorem dX6_waiting_9 : decode cX6_waiting 9 = .ok (.bipush 33, 2) := by decide +kernel
theorem dX6_waiting_11 : decode cX6_waiting 11 = .ok (.iaload, 1) := by decide +kernel
theorem dX6_waiting_12 : decode cX6_waiting 12 = .ok (.if_icmp .ge 54, 3) := by decide +kernel
theorem dX6_waiting_15 : decode cX6_waiting 15 = .ok (.iload_n 1, 1) := by decide +kernel
theorem dX6_waiting_16 : decode cX6_waiting 16 = .ok (.aload_n 0, 1) := by decide +kernel
theorem dX6_waiting_17 : decode cX6_waiting 17 = .ok (.getfield 28, 3) := by decide +kernel
theorem dX6_waiting_20 : decode cX6_waiting 20 = .ok (.iload_n 2, 1) := by decide +kernel
theorem dX6_waiting_21 : decode cX6_waiting 21 = .ok (.iaload, 1) := by decide +kernel
theorem dX6_waiting_22 : decode cX6_waiting 22 = .ok (.bipush (-106), 2) := by decide +kernel
theorem dX6_waiting_24 : decode cX6_waiting 24 = .ok (.if_icmp .ne 7, 3) := by decide +kernel
theorem dX6_waiting_27 : decode cX6_waiting 27 = .ok (.iconst 0, 1) := by decide +kernel
theorem dX6_waiting_28 : decode cX6_waiting 28 = .ok (.goto 30, 3) := by decide +kernel
theorem dX6_waiting_31 : decode cX6_waiting 31 = .ok (.aload_n 0, 1) := by decide +kernel
theorem dX6_waiting_32 : decode cX6_waiting 32 = .ok (.iload_n 2, 1) := by decide +kernel
theorem dX6_waiting_33 : decode cX6_waiting 33 = .ok (.iconst 3, 1) := by decide +kernel
theorem dX6_waiting_34 : decode cX6_waiting 34 = .ok (.invokevirtual 57, 3) := by decide +kernel
theorem dX6_waiting_37 : decode cX6_waiting 37 = .ok (.aload_n 0, 1) := by decide +kernel
theorem dX6_waiting_38 : decode cX6_waiting 38 = .ok (.getfield 7, 3) := by decide +kernel
theorem dX6_waiting_41 : decode cX6_waiting 41 = .ok (.bipush 17, 2) := by decide +kernel
theorem dX6_waiting_43 : decode cX6_waiting 43 = .ok (.aload_n 0, 1) := by decide +kernel
theorem dX6_waiting_44 : decode cX6_waiting 44 = .ok (.getfield 28, 3) := by decide +kernel
theorem dX6_waiting_47 : decode cX6_waiting 47 = .ok (.iload_n 2, 1) := by decide +kernel
theorem dX6_waiting_48 : decode cX6_waiting 48 = .ok (.iaload, 1) := by decide +kernel
theorem dX6_waiting_49 : decode cX6_waiting 49 = .ok (.iadd, 1) := by decide +kernel
theorem dX6_waiting_50 : decode cX6_waiting 50 = .ok (.iaload, 1) := by decide +kernel
theorem dX6_waiting_51 : decode cX6_waiting 51 = .ok (.aload_n 0, 1) := by decide +kernel
theorem dX6_waiting_52 : decode cX6_waiting 52 = .ok (.iload_n 2, 1) := by decide +kernel
theorem dX6_waiting_53 : decode cX6_waiting 53 = .ok (.invokevirtual 65, 3) := by decide +kernel
theorem dX6_waiting_56 : decode cX6_waiting 56 = .ok (.isub, 1) := by decide +kernel
theorem dX6_waiting_57 : decode cX6_waiting 57 = .ok (.imul, 1) := by decide +kernel
theorem dX6_waiting_58 : decode cX6_waiting 58 = .ok (.iadd, 1) := by decide +kernel
theorem dX6_waiting_59 : decode cX6_waiting 59 = .ok (.istore_n 1, 1) := by decide +kernel
theorem dX6_waiting_60 : decode cX6_waiting 60 = .ok (.iinc 2 1, 3) := by decide +kernel
theorem dX6_waiting_63 : decode cX6_waiting 63 = .ok (.goto (-59), 3) := by decide +kernel
theorem dX6_waiting_66 : decode cX6_waiting 66 = .ok (.iload_n 1, 1) := by decide +kernel
theorem dX6_waiting_67 : decode cX6_waiting 67 = .ok (.ireturn, 1) := by decide +kernel
theorem dX6_lastMinute_0 : decode cX6_lastMinute 0 = .ok (.bipush (-106), 2) := by decide +kernel
theorem dX6_lastMinute_2 : decode cX6_lastMinute 2 = .ok (.istore_n 1, 1) := by decide +kernel
theorem dX6_lastMinute_3 : decode cX6_lastMinute 3 = .ok (.iconst 0, 1) := by decide +kernel
theorem dX6_lastMinute_4 : decode cX6_lastMinute 4 = .ok (.istore_n 2, 1) := by decide +kernel
theorem dX6_lastMinute_5 : decode cX6_lastMinute 5 = .ok (.iload_n 2, 1) := by decide +kernel
theorem dX6_lastMinute_6 : decode cX6_lastMinute 6 = .ok (.bipush 8, 2) := by decide +kernel
theorem dX6_lastMinute_8 : decode cX6_lastMinute 8 = .ok (.if_icmp .ge 68, 3) := by decide +kernel
theorem dX6_lastMinute_11 : decode cX6_lastMinute 11 = .ok (.aload_n 0, 1) := by decide +kernel
theorem dX6_lastMinute_12 : decode cX6_lastMinute 12 = .ok (.iload_n 2, 1) := by decide +kernel
end
section
theorem dX6_lastMinute_13 : decode cX6_lastMinute 13 = .ok (.invokevirtual 88, 3) := by decide +kernel
theorem dX6_lastMinute_16 : decode cX6_lastMinute 16 = .ok (.aload_n 0, 1) := by decide +kernel
theorem dX6_lastMinute_17 : decode cX6_lastMinute 17 = .ok (.getfield 82, 3) := by decide +kernel
theorem dX6_lastMinute_20 : decode cX6_lastMinute 20 = .ok (.ifCond .le 28, 3) := by decide +kernel
theorem dX6_lastMinute_23 : decode cX6_lastMinute 23 = .ok (.iload_n 1, 1) := by decide +kernel
theorem dX6_lastMinute_24 : decode cX6_lastMinute 24 = .ok (.bipush (-106), 2) := by decide +kernel
theorem dX6_lastMinute_26 : decode cX6_lastMinute 26 = .ok (.if_icmp .eq 18, 3) := by decide +kernel
theorem dX6_lastMinute_29 : decode cX6_lastMinute 29 = .ok (.aload_n 0, 1) := by decide +kernel
theorem dX6_lastMinute_30 : decode cX6_lastMinute 30 = .ok (.getfield 43, 3) := by decide +kernel
theorem dX6_lastMinute_33 : decode cX6_lastMinute 33 = .ok (.aload_n 0, 1) := by decide +kernel
theorem dX6_lastMinute_34 : decode cX6_lastMinute 34 = .ok (.getfield 82, 3) := by decide +kernel
theorem dX6_lastMinute_37 : decode cX6_lastMinute 37 = .ok (.iconst 1, 1) := by decide +kernel
theorem dX6_lastMinute_38 : decode cX6_lastMinute 38 = .ok (.isub, 1) := by decide +kernel
theorem dX6_lastMinute_39 : decode cX6_lastMinute 39 = .ok (.iaload, 1) := by decide +kernel
theorem dX6_lastMinute_40 : decode cX6_lastMinute 40 = .ok (.iload_n 1, 1) := by decide +kernel
theorem dX6_lastMinute_41 : decode cX6_lastMinute 41 = .ok (.if_icmp .le 7, 3) := by decide +kernel
theorem dX6_lastMinute_44 : decode cX6_lastMinute 44 = .ok (.iconst 1, 1) := by decide +kernel
theorem dX6_lastMinute_45 : decode cX6_lastMinute 45 = .ok (.goto 4, 3) := by decide +kernel
theorem dX6_lastMinute_48 : decode cX6_lastMinute 48 = .ok (.iconst 0, 1) := by decide +kernel
theorem dX6_lastMinute_49 : decode cX6_lastMinute 49 = .ok (.istore_n 3, 1) := by decide +kernel
theorem dX6_lastMinute_50 : decode cX6_lastMinute 50 = .ok (.iload_n 3, 1) := by decide +kernel
theorem dX6_lastMinute_51 : decode cX6_lastMinute 51 = .ok (.ifCond .eq 17, 3) := by decide +kernel
theorem dX6_lastMinute_54 : decode cX6_lastMinute 54 = .ok (.aload_n 0, 1) := by decide +kernel
theorem dX6_lastMinute_55 : decode cX6_lastMinute 55 = .ok (.getfield 43, 3) := by decide +kernel
theorem dX6_lastMinute_58 : decode cX6_lastMinute 58 = .ok (.aload_n 0, 1) := by decide +kernel
theorem dX6_lastMinute_59 : decode cX6_lastMinute 59 = .ok (.getfield 82, 3) := by decide +kernel
theorem dX6_lastMinute_62 : decode cX6_lastMinute 62 = .ok (.iconst 1, 1) := by decide +kernel
theorem dX6_lastMinute_63 : decode cX6_lastMinute 63 = .ok (.isub, 1) := by decide +kernel
theorem dX6_lastMinute_64 : decode cX6_lastMinute 64 = .ok (.iaload, 1) := by decide +kernel
theorem dX6_lastMinute_65 : decode cX6_lastMinute 65 = .ok (.goto 4, 3) := by decide +kernel
theorem dX6_lastMinute_68 : decode cX6_lastMinute 68 = .ok (.iload_n 1, 1) := by decide +kernel
theorem dX6_lastMinute_69 : decode cX6_lastMinute 69 = .ok (.istore_n 1, 1) := by decide +kernel
theorem dX6_lastMinute_70 : decode cX6_lastMinute 70 = .ok (.iinc 2 1, 3) := by decide +kernel
theorem dX6_lastMinute_73 : decode cX6_lastMinute 73 = .ok (.goto (-68), 3) := by decide +kernel
theorem dX6_lastMinute_76 : decode cX6_lastMinute 76 = .ok (.iload_n 1, 1) := by decide +kernel
theorem dX6_lastMinute_77 : decode cX6_lastMinute 77 = .ok (.ireturn, 1) := by decide +kernel
theorem dX6_leastOf_0 : decode cX6_leastOf 0 = .ok (.iload_n 0, 1) := by decide +kernel
theorem dX6_leastOf_1 : decode cX6_leastOf 1 = .ok (.iconst 2, 1) := by decide +kernel
theorem dX6_leastOf_2 : decode cX6_leastOf 2 = .ok (.if_icmp .ne 7, 3) := by decide +kernel
theorem dX6_leastOf_5 : decode cX6_leastOf 5 = .ok (.iconst 1, 1) := by decide +kernel
theorem dX6_leastOf_6 : decode cX6_leastOf 6 = .ok (.goto 4, 3) := by decide +kernel
theorem dX6_leastOf_9 : decode cX6_leastOf 9 = .ok (.iconst 0, 1) := by decide +kernel
theorem dX6_leastOf_10 : decode cX6_leastOf 10 = .ok (.ireturn, 1) := by decide +kernel
theorem dX6_mostOf_0 : decode cX6_mostOf 0 = .ok (.iload_n 0, 1) := by decide +kernel
theorem dX6_mostOf_1 : decode cX6_mostOf 1 = .ok (.tableswitch 45 0 3 #[31, 34, 38, 41], 31) := by decide +kernel
theorem dX6_mostOf_32 : decode cX6_mostOf 32 = .ok (.bipush 90, 2) := by decide +kernel
theorem dX6_mostOf_34 : decode cX6_mostOf 34 = .ok (.ireturn, 1) := by decide +kernel
theorem dX6_mostOf_35 : decode cX6_mostOf 35 = .ok (.sipush 240, 3) := by decide +kernel
theorem dX6_mostOf_38 : decode cX6_mostOf 38 = .ok (.ireturn, 1) := by decide +kernel
theorem dX6_mostOf_39 : decode cX6_mostOf 39 = .ok (.bipush 6, 2) := by decide +kernel
theorem dX6_mostOf_41 : decode cX6_mostOf 41 = .ok (.ireturn, 1) := by decide +kernel
theorem dX6_mostOf_42 : decode cX6_mostOf 42 = .ok (.sipush 300, 3) := by decide +kernel
theorem dX6_mostOf_45 : decode cX6_mostOf 45 = .ok (.ireturn, 1) := by decide +kernel
theorem dX6_mostOf_46 : decode cX6_mostOf 46 = .ok (.bipush 40, 2) := by decide +kernel
theorem dX6_mostOf_48 : decode cX6_mostOf 48 = .ok (.ireturn, 1) := by decide +kernel
theorem dX6_set_0 : decode cX6_set 0 = .ok (.iload_n 1, 1) := by decide +kernel
theorem dX6_set_1 : decode cX6_set 1 = .ok (.iconst 0, 1) := by decide +kernel
theorem dX6_set_2 : decode cX6_set 2 = .ok (.iconst 4, 1) := by decide +kernel
theorem dX6_set_3 : decode cX6_set 3 = .ok (.invokestatic 46, 3) := by decide +kernel
theorem dX6_set_6 : decode cX6_set 6 = .ok (.ifCond .eq 18, 3) := by decide +kernel
theorem dX6_set_9 : decode cX6_set 9 = .ok (.iload_n 2, 1) := by decide +kernel
theorem dX6_set_10 : decode cX6_set 10 = .ok (.iload_n 1, 1) := by decide +kernel
theorem dX6_set_11 : decode cX6_set 11 = .ok (.invokestatic 100, 3) := by decide +kernel
theorem dX6_set_14 : decode cX6_set 14 = .ok (.iload_n 1, 1) := by decide +kernel
theorem dX6_set_15 : decode cX6_set 15 = .ok (.invokestatic 103, 3) := by decide +kernel
theorem dX6_set_18 : decode cX6_set 18 = .ok (.invokestatic 46, 3) := by decide +kernel
theorem dX6_set_21 : decode cX6_set 21 = .ok (.ifCond .ne 6, 3) := by decide +kernel
theorem dX6_set_24 : decode cX6_set 24 = .ok (.bipush (-102), 2) := by decide +kernel
theorem dX6_set_26 : decode cX6_set 26 = .ok (.ireturn, 1) := by decide +kernel
theorem dX6_set_27 : decode cX6_set 27 = .ok (.aload_n 0, 1) := by decide +kernel
theorem dX6_set_28 : decode cX6_set 28 = .ok (.invokevirtual 54, 3) := by decide +kernel
theorem dX6_set_31 : decode cX6_set 31 = .ok (.aload_n 0, 1) := by decide +kernel
theorem dX6_set_32 : decode cX6_set 32 = .ok (.getfield 7, 3) := by decide +kernel
theorem dX6_set_35 : decode cX6_set 35 = .ok (.iload_n 1, 1) := by decide +kernel
theorem dX6_set_36 : decode cX6_set 36 = .ok (.iaload, 1) := by decide +kernel
theorem dX6_set_37 : decode cX6_set 37 = .ok (.istore_n 3, 1) := by decide +kernel
theorem dX6_set_38 : decode cX6_set 38 = .ok (.aload_n 0, 1) := by decide +kernel
theorem dX6_set_39 : decode cX6_set 39 = .ok (.getfield 7, 3) := by decide +kernel
theorem dX6_set_42 : decode cX6_set 42 = .ok (.iload_n 1, 1) := by decide +kernel
theorem dX6_set_43 : decode cX6_set 43 = .ok (.iload_n 2, 1) := by decide +kernel
theorem dX6_set_44 : decode cX6_set 44 = .ok (.iastore, 1) := by decide +kernel
theorem dX6_set_45 : decode cX6_set 45 = .ok (.iload_n 3, 1) := by decide +kernel
theorem dX6_set_46 : decode cX6_set 46 = .ok (.ireturn, 1) := by decide +kernel
theorem dX6_land_0 : decode cX6_land 0 = .ok (.iload_n 1, 1) := by decide +kernel
theorem dX6_land_1 : decode cX6_land 1 = .ok (.invokestatic 106, 3) := by decide +kernel
theorem dX6_land_4 : decode cX6_land 4 = .ok (.ifCond .ne 6, 3) := by decide +kernel
theorem dX6_land_7 : decode cX6_land 7 = .ok (.bipush (-101), 2) := by decide +kernel
theorem dX6_land_9 : decode cX6_land 9 = .ok (.ireturn, 1) := by decide +kernel
theorem dX6_land_10 : decode cX6_land 10 = .ok (.iload_n 2, 1) := by decide +kernel
theorem dX6_land_11 : decode cX6_land 11 = .ok (.iconst 0, 1) := by decide +kernel
theorem dX6_land_12 : decode cX6_land 12 = .ok (.sipush 1200, 3) := by decide +kernel
theorem dX6_land_15 : decode cX6_land 15 = .ok (.invokestatic 46, 3) := by decide +kernel
theorem dX6_land_18 : decode cX6_land 18 = .ok (.ifCond .ne 6, 3) := by decide +kernel
theorem dX6_land_21 : decode cX6_land 21 = .ok (.bipush (-102), 2) := by decide +kernel
theorem dX6_land_23 : decode cX6_land 23 = .ok (.ireturn, 1) := by decide +kernel
theorem dX6_land_24 : decode cX6_land 24 = .ok (.aload_n 0, 1) := by decide +kernel
theorem dX6_land_25 : decode cX6_land 25 = .ok (.invokevirtual 54, 3) := by decide +kernel
theorem dX6_land_28 : decode cX6_land 28 = .ok (.aload_n 0, 1) := by decide +kernel
theorem dX6_land_29 : decode cX6_land 29 = .ok (.getfield 7, 3) := by decide +kernel
theorem dX6_land_32 : decode cX6_land 32 = .ok (.iconst 5, 1) := by decide +kernel
theorem dX6_land_33 : decode cX6_land 33 = .ok (.iload_n 1, 1) := by decide +kernel
theorem dX6_land_34 : decode cX6_land 34 = .ok (.iadd, 1) := by decide +kernel
theorem dX6_land_35 : decode cX6_land 35 = .ok (.iaload, 1) := by decide +kernel
theorem dX6_land_36 : decode cX6_land 36 = .ok (.istore_n 3, 1) := by decide +kernel
theorem dX6_land_37 : decode cX6_land 37 = .ok (.aload_n 0, 1) := by decide +kernel
theorem dX6_land_38 : decode cX6_land 38 = .ok (.getfield 7, 3) := by decide +kernel
theorem dX6_land_41 : decode cX6_land 41 = .ok (.iconst 5, 1) := by decide +kernel
theorem dX6_land_42 : decode cX6_land 42 = .ok (.iload_n 1, 1) := by decide +kernel
theorem dX6_land_43 : decode cX6_land 43 = .ok (.iadd, 1) := by decide +kernel
theorem dX6_land_44 : decode cX6_land 44 = .ok (.iload_n 2, 1) := by decide +kernel
theorem dX6_land_45 : decode cX6_land 45 = .ok (.iastore, 1) := by decide +kernel
theorem dX6_land_46 : decode cX6_land 46 = .ok (.iload_n 3, 1) := by decide +kernel
theorem dX6_land_47 : decode cX6_land 47 = .ok (.ireturn, 1) := by decide +kernel
theorem dX6_delay_0 : decode cX6_delay 0 = .ok (.iload_n 1, 1) := by decide +kernel
theorem dX6_delay_1 : decode cX6_delay 1 = .ok (.invokestatic 106, 3) := by decide +kernel
theorem dX6_delay_4 : decode cX6_delay 4 = .ok (.ifCond .ne 6, 3) := by decide +kernel
theorem dX6_delay_7 : decode cX6_delay 7 = .ok (.bipush (-101), 2) := by decide +kernel
theorem dX6_delay_9 : decode cX6_delay 9 = .ok (.ireturn, 1) := by decide +kernel
theorem dX6_delay_10 : decode cX6_delay 10 = .ok (.iload_n 2, 1) := by decide +kernel
theorem dX6_delay_11 : decode cX6_delay 11 = .ok (.bipush (-30), 2) := by decide +kernel
theorem dX6_delay_13 : decode cX6_delay 13 = .ok (.sipush 300, 3) := by decide +kernel
theorem dX6_delay_16 : decode cX6_delay 16 = .ok (.invokestatic 46, 3) := by decide +kernel
theorem dX6_delay_19 : decode cX6_delay 19 = .ok (.ifCond .ne 6, 3) := by decide +kernel
theorem dX6_delay_22 : decode cX6_delay 22 = .ok (.bipush (-102), 2) := by decide +kernel
theorem dX6_delay_24 : decode cX6_delay 24 = .ok (.ireturn, 1) := by decide +kernel
theorem dX6_delay_25 : decode cX6_delay 25 = .ok (.aload_n 0, 1) := by decide +kernel
theorem dX6_delay_26 : decode cX6_delay 26 = .ok (.invokevirtual 54, 3) := by decide +kernel
theorem dX6_delay_29 : decode cX6_delay 29 = .ok (.aload_n 0, 1) := by decide +kernel
theorem dX6_delay_30 : decode cX6_delay 30 = .ok (.getfield 7, 3) := by decide +kernel
theorem dX6_delay_33 : decode cX6_delay 33 = .ok (.bipush 11, 2) := by decide +kernel
theorem dX6_delay_35 : decode cX6_delay 35 = .ok (.iload_n 1, 1) := by decide +kernel
theorem dX6_delay_36 : decode cX6_delay 36 = .ok (.iadd, 1) := by decide +kernel
theorem dX6_delay_37 : decode cX6_delay 37 = .ok (.iload_n 2, 1) := by decide +kernel
theorem dX6_delay_38 : decode cX6_delay 38 = .ok (.iastore, 1) := by decide +kernel
theorem dX6_delay_39 : decode cX6_delay 39 = .ok (.aload_n 0, 1) := by decide +kernel
theorem dX6_delay_40 : decode cX6_delay 40 = .ok (.iload_n 1, 1) := by decide +kernel
theorem dX6_delay_41 : decode cX6_delay 41 = .ok (.invokevirtual 61, 3) := by decide +kernel
theorem dX6_delay_44 : decode cX6_delay 44 = .ok (.ireturn, 1) := by decide +kernel
theorem dX6_van_0 : decode cX6_van 0 = .ok (.iload_n 1, 1) := by decide +kernel
theorem dX6_van_1 : decode cX6_van 1 = .ok (.invokestatic 110, 3) := by decide +kernel
theorem dX6_van_4 : decode cX6_van 4 = .ok (.ifCond .ne 6, 3) := by decide +kernel
theorem dX6_van_7 : decode cX6_van 7 = .ok (.bipush (-101), 2) := by decide +kernel
theorem dX6_van_9 : decode cX6_van 9 = .ok (.ireturn, 1) := by decide +kernel
theorem dX6_van_10 : decode cX6_van 10 = .ok (.iload_n 2, 1) := by decide +kernel
theorem dX6_van_11 : decode cX6_van 11 = .ok (.iconst 0, 1) := by decide +kernel
theorem dX6_van_12 : decode cX6_van 12 = .ok (.sipush 1500, 3) := by decide +kernel
theorem dX6_van_15 : decode cX6_van 15 = .ok (.invokestatic 46, 3) := by decide +kernel
theorem dX6_van_18 : decode cX6_van 18 = .ok (.ifCond .eq 13, 3) := by decide +kernel
theorem dX6_van_21 : decode cX6_van 21 = .ok (.iload_n 3, 1) := by decide +kernel
theorem dX6_van_22 : decode cX6_van 22 = .ok (.iconst 0, 1) := by decide +kernel
theorem dX6_van_23 : decode cX6_van 23 = .ok (.bipush 12, 2) := by decide +kernel
theorem dX6_van_25 : decode cX6_van 25 = .ok (.invokestatic 46, 3) := by decide +kernel
theorem dX6_van_28 : decode cX6_van 28 = .ok (.ifCond .ne 6, 3) := by decide +kernel
theorem dX6_van_31 : decode cX6_van 31 = .ok (.bipush (-102), 2) := by decide +kernel
theorem dX6_van_33 : decode cX6_van 33 = .ok (.ireturn, 1) := by decide +kernel
theorem dX6_van_34 : decode cX6_van 34 = .ok (.aload_n 0, 1) := by decide +kernel
theorem dX6_van_35 : decode cX6_van 35 = .ok (.invokevirtual 54, 3) := by decide +kernel
theorem dX6_van_38 : decode cX6_van 38 = .ok (.aload_n 0, 1) := by decide +kernel
theorem dX6_van_39 : decode cX6_van 39 = .ok (.getfield 7, 3) := by decide +kernel
theorem dX6_van_42 : decode cX6_van 42 = .ok (.bipush 17, 2) := by decide +kernel
theorem dX6_van_44 : decode cX6_van 44 = .ok (.iload_n 1, 1) := by decide +kernel
theorem dX6_van_45 : decode cX6_van 45 = .ok (.iadd, 1) := by decide +kernel
theorem dX6_van_46 : decode cX6_van 46 = .ok (.iload_n 2, 1) := by decide +kernel
theorem dX6_van_47 : decode cX6_van 47 = .ok (.iastore, 1) := by decide +kernel
theorem dX6_van_48 : decode cX6_van 48 = .ok (.aload_n 0, 1) := by decide +kernel
theorem dX6_van_49 : decode cX6_van 49 = .ok (.getfield 7, 3) := by decide +kernel
theorem dX6_van_52 : decode cX6_van 52 = .ok (.bipush 25, 2) := by decide +kernel
theorem dX6_van_54 : decode cX6_van 54 = .ok (.iload_n 1, 1) := by decide +kernel
theorem dX6_van_55 : decode cX6_van 55 = .ok (.iadd, 1) := by decide +kernel
theorem dX6_van_56 : decode cX6_van 56 = .ok (.iload_n 3, 1) := by decide +kernel
theorem dX6_van_57 : decode cX6_van 57 = .ok (.iastore, 1) := by decide +kernel
theorem dX6_van_58 : decode cX6_van 58 = .ok (.aload_n 0, 1) := by decide +kernel
theorem dX6_van_59 : decode cX6_van 59 = .ok (.invokevirtual 113, 3) := by decide +kernel
theorem dX6_van_62 : decode cX6_van 62 = .ok (.aload_n 0, 1) := by decide +kernel
theorem dX6_van_63 : decode cX6_van 63 = .ok (.invokevirtual 116, 3) := by decide +kernel
theorem dX6_van_66 : decode cX6_van 66 = .ok (.ireturn, 1) := by decide +kernel
theorem dX6_add_0 : decode cX6_add 0 = .ok (.bipush 34, 2) := by decide +kernel
theorem dX6_add_2 : decode cX6_add 2 = .ok (.iconst 4, 1) := by decide +kernel
theorem dX6_add_3 : decode cX6_add 3 = .ok (.aload_n 0, 1) := by decide +kernel
theorem dX6_add_4 : decode cX6_add 4 = .ok (.getfield 7, 3) := by decide +kernel
theorem dX6_add_7 : decode cX6_add 7 = .ok (.bipush 33, 2) := by decide +kernel
theorem dX6_add_9 : decode cX6_add 9 = .ok (.iaload, 1) := by decide +kernel
theorem dX6_add_10 : decode cX6_add 10 = .ok (.imul, 1) := by decide +kernel
theorem dX6_add_11 : decode cX6_add 11 = .ok (.iadd, 1) := by decide +kernel
theorem dX6_add_12 : decode cX6_add 12 = .ok (.istore 5, 2) := by decide +kernel
theorem dX6_add_14 : decode cX6_add 14 = .ok (.aload_n 0, 1) := by decide +kernel
theorem dX6_add_15 : decode cX6_add 15 = .ok (.getfield 7, 3) := by decide +kernel
theorem dX6_add_18 : decode cX6_add 18 = .ok (.iload 5, 2) := by decide +kernel
theorem dX6_add_20 : decode cX6_add 20 = .ok (.iconst 0, 1) := by decide +kernel
theorem dX6_add_21 : decode cX6_add 21 = .ok (.iadd, 1) := by decide +kernel
theorem dX6_add_22 : decode cX6_add 22 = .ok (.iload_n 1, 1) := by decide +kernel
theorem dX6_add_23 : decode cX6_add 23 = .ok (.iastore, 1) := by decide +kernel
theorem dX6_add_24 : decode cX6_add 24 = .ok (.aload_n 0, 1) := by decide +kernel
theorem dX6_add_25 : decode cX6_add 25 = .ok (.getfield 7, 3) := by decide +kernel
theorem dX6_add_28 : decode cX6_add 28 = .ok (.iload 5, 2) := by decide +kernel
theorem dX6_add_30 : decode cX6_add 30 = .ok (.iconst 1, 1) := by decide +kernel
theorem dX6_add_31 : decode cX6_add 31 = .ok (.iadd, 1) := by decide +kernel
theorem dX6_add_32 : decode cX6_add 32 = .ok (.iload_n 2, 1) := by decide +kernel
theorem dX6_add_33 : decode cX6_add 33 = .ok (.iastore, 1) := by decide +kernel
theorem dX6_add_34 : decode cX6_add 34 = .ok (.aload_n 0, 1) := by decide +kernel
theorem dX6_add_35 : decode cX6_add 35 = .ok (.getfield 7, 3) := by decide +kernel
theorem dX6_add_38 : decode cX6_add 38 = .ok (.iload 5, 2) := by decide +kernel
theorem dX6_add_40 : decode cX6_add 40 = .ok (.iconst 2, 1) := by decide +kernel
theorem dX6_add_41 : decode cX6_add 41 = .ok (.iadd, 1) := by decide +kernel
theorem dX6_add_42 : decode cX6_add 42 = .ok (.iload_n 3, 1) := by decide +kernel
theorem dX6_add_43 : decode cX6_add 43 = .ok (.iastore, 1) := by decide +kernel
theorem dX6_add_44 : decode cX6_add 44 = .ok (.aload_n 0, 1) := by decide +kernel
theorem dX6_add_45 : decode cX6_add 45 = .ok (.getfield 7, 3) := by decide +kernel
theorem dX6_add_48 : decode cX6_add 48 = .ok (.iload 5, 2) := by decide +kernel
theorem dX6_add_50 : decode cX6_add 50 = .ok (.iconst 3, 1) := by decide +kernel
theorem dX6_add_51 : decode cX6_add 51 = .ok (.iadd, 1) := by decide +kernel
theorem dX6_add_52 : decode cX6_add 52 = .ok (.iload 4, 2) := by decide +kernel
theorem dX6_add_54 : decode cX6_add 54 = .ok (.iastore, 1) := by decide +kernel
theorem dX6_add_55 : decode cX6_add 55 = .ok (.aload_n 0, 1) := by decide +kernel
theorem dX6_add_56 : decode cX6_add 56 = .ok (.getfield 7, 3) := by decide +kernel
theorem dX6_add_59 : decode cX6_add 59 = .ok (.bipush 33, 2) := by decide +kernel
theorem dX6_add_61 : decode cX6_add 61 = .ok (.dup2, 1) := by decide +kernel
theorem dX6_add_62 : decode cX6_add 62 = .ok (.iaload, 1) := by decide +kernel
theorem dX6_add_63 : decode cX6_add 63 = .ok (.iconst 1, 1) := by decide +kernel
theorem dX6_add_64 : decode cX6_add 64 = .ok (.iadd, 1) := by decide +kernel
theorem dX6_add_65 : decode cX6_add 65 = .ok (.iastore, 1) := by decide +kernel
theorem dX6_add_66 : decode cX6_add 66 = .ok (.return_, 1) := by decide +kernel
theorem dX6_ride_0 : decode cX6_ride 0 = .ok (.iload_n 1, 1) := by decide +kernel
theorem dX6_ride_1 : decode cX6_ride 1 = .ok (.invokestatic 106, 3) := by decide +kernel
theorem dX6_ride_4 : decode cX6_ride 4 = .ok (.ifCond .eq 12, 3) := by decide +kernel
theorem dX6_ride_7 : decode cX6_ride 7 = .ok (.iload_n 2, 1) := by decide +kernel
theorem dX6_ride_8 : decode cX6_ride 8 = .ok (.iconst 0, 1) := by decide +kernel
theorem dX6_ride_9 : decode cX6_ride 9 = .ok (.iconst 5, 1) := by decide +kernel
theorem dX6_ride_10 : decode cX6_ride 10 = .ok (.invokestatic 46, 3) := by decide +kernel
theorem dX6_ride_13 : decode cX6_ride 13 = .ok (.ifCond .ne 6, 3) := by decide +kernel
theorem dX6_ride_16 : decode cX6_ride 16 = .ok (.bipush (-101), 2) := by decide +kernel
theorem dX6_ride_18 : decode cX6_ride 18 = .ok (.ireturn, 1) := by decide +kernel
theorem dX6_ride_19 : decode cX6_ride 19 = .ok (.iload_n 3, 1) := by decide +kernel
theorem dX6_ride_20 : decode cX6_ride 20 = .ok (.iconst 0, 1) := by decide +kernel
theorem dX6_ride_21 : decode cX6_ride 21 = .ok (.bipush 99, 2) := by decide +kernel
theorem dX6_ride_23 : decode cX6_ride 23 = .ok (.invokestatic 46, 3) := by decide +kernel
theorem dX6_ride_26 : decode cX6_ride 26 = .ok (.ifCond .eq 13, 3) := by decide +kernel
theorem dX6_ride_29 : decode cX6_ride 29 = .ok (.iload 4, 2) := by decide +kernel
theorem dX6_ride_31 : decode cX6_ride 31 = .ok (.iconst 1, 1) := by decide +kernel
theorem dX6_ride_32 : decode cX6_ride 32 = .ok (.iconst 4, 1) := by decide +kernel
theorem dX6_ride_33 : decode cX6_ride 33 = .ok (.invokestatic 46, 3) := by decide +kernel
theorem dX6_ride_36 : decode cX6_ride 36 = .ok (.ifCond .ne 6, 3) := by decide +kernel
theorem dX6_ride_39 : decode cX6_ride 39 = .ok (.bipush (-102), 2) := by decide +kernel
theorem dX6_ride_41 : decode cX6_ride 41 = .ok (.ireturn, 1) := by decide +kernel
theorem dX6_ride_42 : decode cX6_ride 42 = .ok (.aload_n 0, 1) := by decide +kernel
theorem dX6_ride_43 : decode cX6_ride 43 = .ok (.getfield 7, 3) := by decide +kernel
theorem dX6_ride_46 : decode cX6_ride 46 = .ok (.bipush 33, 2) := by decide +kernel
theorem dX6_ride_48 : decode cX6_ride 48 = .ok (.iaload, 1) := by decide +kernel
theorem dX6_ride_49 : decode cX6_ride 49 = .ok (.bipush 24, 2) := by decide +kernel
theorem dX6_ride_51 : decode cX6_ride 51 = .ok (.if_icmp .ne 6, 3) := by decide +kernel
theorem dX6_ride_54 : decode cX6_ride 54 = .ok (.bipush (-104), 2) := by decide +kernel
theorem dX6_ride_56 : decode cX6_ride 56 = .ok (.ireturn, 1) := by decide +kernel
theorem dX6_ride_57 : decode cX6_ride 57 = .ok (.aload_n 0, 1) := by decide +kernel
theorem dX6_ride_58 : decode cX6_ride 58 = .ok (.invokevirtual 54, 3) := by decide +kernel
theorem dX6_ride_61 : decode cX6_ride 61 = .ok (.aload_n 0, 1) := by decide +kernel
theorem dX6_ride_62 : decode cX6_ride 62 = .ok (.iload_n 1, 1) := by decide +kernel
theorem dX6_ride_63 : decode cX6_ride 63 = .ok (.iload_n 2, 1) := by decide +kernel
theorem dX6_ride_64 : decode cX6_ride 64 = .ok (.iload_n 3, 1) := by decide +kernel
theorem dX6_ride_65 : decode cX6_ride 65 = .ok (.iload 4, 2) := by decide +kernel
theorem dX6_ride_67 : decode cX6_ride 67 = .ok (.invokevirtual 119, 3) := by decide +kernel
theorem dX6_ride_70 : decode cX6_ride 70 = .ok (.aload_n 0, 1) := by decide +kernel
theorem dX6_ride_71 : decode cX6_ride 71 = .ok (.getfield 7, 3) := by decide +kernel
theorem dX6_ride_74 : decode cX6_ride 74 = .ok (.bipush 33, 2) := by decide +kernel
theorem dX6_ride_76 : decode cX6_ride 76 = .ok (.iaload, 1) := by decide +kernel
theorem dX6_ride_77 : decode cX6_ride 77 = .ok (.iconst 1, 1) := by decide +kernel
theorem dX6_ride_78 : decode cX6_ride 78 = .ok (.isub, 1) := by decide +kernel
theorem dX6_ride_79 : decode cX6_ride 79 = .ok (.ireturn, 1) := by decide +kernel
theorem dX6_cancel_0 : decode cX6_cancel 0 = .ok (.aload_n 0, 1) := by decide +kernel
theorem dX6_cancel_1 : decode cX6_cancel 1 = .ok (.iload_n 1, 1) := by decide +kernel
theorem dX6_cancel_2 : decode cX6_cancel 2 = .ok (.invokevirtual 123, 3) := by decide +kernel
theorem dX6_cancel_5 : decode cX6_cancel 5 = .ok (.ifCond .ne 6, 3) := by decide +kernel
theorem dX6_cancel_8 : decode cX6_cancel 8 = .ok (.bipush (-101), 2) := by decide +kernel
theorem dX6_cancel_10 : decode cX6_cancel 10 = .ok (.ireturn, 1) := by decide +kernel
theorem dX6_cancel_11 : decode cX6_cancel 11 = .ok (.aload_n 0, 1) := by decide +kernel
theorem dX6_cancel_12 : decode cX6_cancel 12 = .ok (.invokevirtual 113, 3) := by decide +kernel
theorem dX6_cancel_15 : decode cX6_cancel 15 = .ok (.aload_n 0, 1) := by decide +kernel
theorem dX6_cancel_16 : decode cX6_cancel 16 = .ok (.iload_n 1, 1) := by decide +kernel
theorem dX6_cancel_17 : decode cX6_cancel 17 = .ok (.invokevirtual 126, 3) := by decide +kernel
theorem dX6_cancel_20 : decode cX6_cancel 20 = .ok (.istore_n 2, 1) := by decide +kernel
theorem dX6_cancel_21 : decode cX6_cancel 21 = .ok (.aload_n 0, 1) := by decide +kernel
theorem dX6_cancel_22 : decode cX6_cancel 22 = .ok (.invokevirtual 54, 3) := by decide +kernel
theorem dX6_cancel_25 : decode cX6_cancel 25 = .ok (.aload_n 0, 1) := by decide +kernel
theorem dX6_cancel_26 : decode cX6_cancel 26 = .ok (.getfield 7, 3) := by decide +kernel
theorem dX6_cancel_29 : decode cX6_cancel 29 = .ok (.bipush 33, 2) := by decide +kernel
theorem dX6_cancel_31 : decode cX6_cancel 31 = .ok (.dup2, 1) := by decide +kernel
theorem dX6_cancel_32 : decode cX6_cancel 32 = .ok (.iaload, 1) := by decide +kernel
theorem dX6_cancel_33 : decode cX6_cancel 33 = .ok (.iconst 1, 1) := by decide +kernel
theorem dX6_cancel_34 : decode cX6_cancel 34 = .ok (.isub, 1) := by decide +kernel
theorem dX6_cancel_35 : decode cX6_cancel 35 = .ok (.iastore, 1) := by decide +kernel
theorem dX6_cancel_36 : decode cX6_cancel 36 = .ok (.bipush 34, 2) := by decide +kernel
theorem dX6_cancel_38 : decode cX6_cancel 38 = .ok (.iconst 4, 1) := by decide +kernel
theorem dX6_cancel_39 : decode cX6_cancel 39 = .ok (.iload_n 1, 1) := by decide +kernel
theorem dX6_cancel_40 : decode cX6_cancel 40 = .ok (.imul, 1) := by decide +kernel
theorem dX6_cancel_41 : decode cX6_cancel 41 = .ok (.iadd, 1) := by decide +kernel
theorem dX6_cancel_42 : decode cX6_cancel 42 = .ok (.istore_n 3, 1) := by decide +kernel
theorem dX6_cancel_43 : decode cX6_cancel 43 = .ok (.iload_n 3, 1) := by decide +kernel
theorem dX6_cancel_44 : decode cX6_cancel 44 = .ok (.bipush 34, 2) := by decide +kernel
theorem dX6_cancel_46 : decode cX6_cancel 46 = .ok (.iconst 4, 1) := by decide +kernel
theorem dX6_cancel_47 : decode cX6_cancel 47 = .ok (.aload_n 0, 1) := by decide +kernel
theorem dX6_cancel_48 : decode cX6_cancel 48 = .ok (.getfield 7, 3) := by decide +kernel
theorem dX6_cancel_51 : decode cX6_cancel 51 = .ok (.bipush 33, 2) := by decide +kernel
theorem dX6_cancel_53 : decode cX6_cancel 53 = .ok (.iaload, 1) := by decide +kernel
theorem dX6_cancel_54 : decode cX6_cancel 54 = .ok (.imul, 1) := by decide +kernel
theorem dX6_cancel_55 : decode cX6_cancel 55 = .ok (.iadd, 1) := by decide +kernel
theorem dX6_cancel_56 : decode cX6_cancel 56 = .ok (.if_icmp .ge 23, 3) := by decide +kernel
theorem dX6_cancel_59 : decode cX6_cancel 59 = .ok (.aload_n 0, 1) := by decide +kernel
theorem dX6_cancel_60 : decode cX6_cancel 60 = .ok (.getfield 7, 3) := by decide +kernel
theorem dX6_cancel_63 : decode cX6_cancel 63 = .ok (.iload_n 3, 1) := by decide +kernel
theorem dX6_cancel_64 : decode cX6_cancel 64 = .ok (.aload_n 0, 1) := by decide +kernel
theorem dX6_cancel_65 : decode cX6_cancel 65 = .ok (.getfield 7, 3) := by decide +kernel
theorem dX6_cancel_68 : decode cX6_cancel 68 = .ok (.iload_n 3, 1) := by decide +kernel
theorem dX6_cancel_69 : decode cX6_cancel 69 = .ok (.iconst 4, 1) := by decide +kernel
theorem dX6_cancel_70 : decode cX6_cancel 70 = .ok (.iadd, 1) := by decide +kernel
theorem dX6_cancel_71 : decode cX6_cancel 71 = .ok (.iaload, 1) := by decide +kernel
theorem dX6_cancel_72 : decode cX6_cancel 72 = .ok (.iastore, 1) := by decide +kernel
theorem dX6_cancel_73 : decode cX6_cancel 73 = .ok (.iinc 3 1, 3) := by decide +kernel
theorem dX6_cancel_76 : decode cX6_cancel 76 = .ok (.goto (-33), 3) := by decide +kernel
theorem dX6_cancel_79 : decode cX6_cancel 79 = .ok (.iload_n 2, 1) := by decide +kernel
theorem dX6_cancel_80 : decode cX6_cancel 80 = .ok (.ireturn, 1) := by decide +kernel
theorem dX6_rebook_0 : decode cX6_rebook 0 = .ok (.aload_n 0, 1) := by decide +kernel
theorem dX6_rebook_1 : decode cX6_rebook 1 = .ok (.iload_n 1, 1) := by decide +kernel
theorem dX6_rebook_2 : decode cX6_rebook 2 = .ok (.invokevirtual 123, 3) := by decide +kernel
theorem dX6_rebook_5 : decode cX6_rebook 5 = .ok (.ifCond .eq 10, 3) := by decide +kernel
theorem dX6_rebook_8 : decode cX6_rebook 8 = .ok (.iload_n 2, 1) := by decide +kernel
theorem dX6_rebook_9 : decode cX6_rebook 9 = .ok (.invokestatic 106, 3) := by decide +kernel
theorem dX6_rebook_12 : decode cX6_rebook 12 = .ok (.ifCond .ne 6, 3) := by decide +kernel
theorem dX6_rebook_15 : decode cX6_rebook 15 = .ok (.bipush (-101), 2) := by decide +kernel
theorem dX6_rebook_17 : decode cX6_rebook 17 = .ok (.ireturn, 1) := by decide +kernel
theorem dX6_rebook_18 : decode cX6_rebook 18 = .ok (.aload_n 0, 1) := by decide +kernel
theorem dX6_rebook_19 : decode cX6_rebook 19 = .ok (.iload_n 1, 1) := by decide +kernel
theorem dX6_rebook_20 : decode cX6_rebook 20 = .ok (.iconst 0, 1) := by decide +kernel
theorem dX6_rebook_21 : decode cX6_rebook 21 = .ok (.invokevirtual 57, 3) := by decide +kernel
theorem dX6_rebook_24 : decode cX6_rebook 24 = .ok (.iload_n 2, 1) := by decide +kernel
theorem dX6_rebook_25 : decode cX6_rebook 25 = .ok (.if_icmp .ne 6, 3) := by decide +kernel
theorem dX6_rebook_28 : decode cX6_rebook 28 = .ok (.bipush (-105), 2) := by decide +kernel
theorem dX6_rebook_30 : decode cX6_rebook 30 = .ok (.ireturn, 1) := by decide +kernel
theorem dX6_rebook_31 : decode cX6_rebook 31 = .ok (.aload_n 0, 1) := by decide +kernel
theorem dX6_rebook_32 : decode cX6_rebook 32 = .ok (.invokevirtual 54, 3) := by decide +kernel
theorem dX6_rebook_35 : decode cX6_rebook 35 = .ok (.aload_n 0, 1) := by decide +kernel
theorem dX6_rebook_36 : decode cX6_rebook 36 = .ok (.getfield 7, 3) := by decide +kernel
theorem dX6_rebook_39 : decode cX6_rebook 39 = .ok (.bipush 34, 2) := by decide +kernel
theorem dX6_rebook_41 : decode cX6_rebook 41 = .ok (.iconst 4, 1) := by decide +kernel
theorem dX6_rebook_42 : decode cX6_rebook 42 = .ok (.iload_n 1, 1) := by decide +kernel
theorem dX6_rebook_43 : decode cX6_rebook 43 = .ok (.imul, 1) := by decide +kernel
theorem dX6_rebook_44 : decode cX6_rebook 44 = .ok (.iadd, 1) := by decide +kernel
theorem dX6_rebook_45 : decode cX6_rebook 45 = .ok (.iconst 0, 1) := by decide +kernel
theorem dX6_rebook_46 : decode cX6_rebook 46 = .ok (.iadd, 1) := by decide +kernel
theorem dX6_rebook_47 : decode cX6_rebook 47 = .ok (.iload_n 2, 1) := by decide +kernel
theorem dX6_rebook_48 : decode cX6_rebook 48 = .ok (.iastore, 1) := by decide +kernel
theorem dX6_rebook_49 : decode cX6_rebook 49 = .ok (.aload_n 0, 1) := by decide +kernel
theorem dX6_rebook_50 : decode cX6_rebook 50 = .ok (.invokevirtual 113, 3) := by decide +kernel
theorem dX6_rebook_53 : decode cX6_rebook 53 = .ok (.aload_n 0, 1) := by decide +kernel
theorem dX6_rebook_54 : decode cX6_rebook 54 = .ok (.getfield 28, 3) := by decide +kernel
theorem dX6_rebook_57 : decode cX6_rebook 57 = .ok (.iload_n 1, 1) := by decide +kernel
theorem dX6_rebook_58 : decode cX6_rebook 58 = .ok (.iaload, 1) := by decide +kernel
theorem dX6_rebook_59 : decode cX6_rebook 59 = .ok (.ireturn, 1) := by decide +kernel
theorem dX6_sharing_0 : decode cX6_sharing 0 = .ok (.iconst 0, 1) := by decide +kernel
theorem dX6_sharing_1 : decode cX6_sharing 1 = .ok (.istore_n 2, 1) := by decide +kernel
theorem dX6_sharing_2 : decode cX6_sharing 2 = .ok (.iconst 0, 1) := by decide +kernel
theorem dX6_sharing_3 : decode cX6_sharing 3 = .ok (.istore_n 3, 1) := by decide +kernel
theorem dX6_sharing_4 : decode cX6_sharing 4 = .ok (.iload_n 3, 1) := by decide +kernel
theorem dX6_sharing_5 : decode cX6_sharing 5 = .ok (.aload_n 0, 1) := by decide +kernel
theorem dX6_sharing_6 : decode cX6_sharing 6 = .ok (.getfield 7, 3) := by decide +kernel
theorem dX6_sharing_9 : decode cX6_sharing 9 = .ok (.bipush 33, 2) := by decide +kernel
theorem dX6_sharing_11 : decode cX6_sharing 11 = .ok (.iaload, 1) := by decide +kernel
theorem dX6_sharing_12 : decode cX6_sharing 12 = .ok (.if_icmp .ge 32, 3) := by decide +kernel
theorem dX6_sharing_15 : decode cX6_sharing 15 = .ok (.iload_n 2, 1) := by decide +kernel
theorem dX6_sharing_16 : decode cX6_sharing 16 = .ok (.iload_n 3, 1) := by decide +kernel
theorem dX6_sharing_17 : decode cX6_sharing 17 = .ok (.iload_n 1, 1) := by decide +kernel
theorem dX6_sharing_18 : decode cX6_sharing 18 = .ok (.if_icmp .eq 17, 3) := by decide +kernel
theorem dX6_sharing_21 : decode cX6_sharing 21 = .ok (.aload_n 0, 1) := by decide +kernel
theorem dX6_sharing_22 : decode cX6_sharing 22 = .ok (.iload_n 3, 1) := by decide +kernel
theorem dX6_sharing_23 : decode cX6_sharing 23 = .ok (.iload_n 1, 1) := by decide +kernel
theorem dX6_sharing_24 : decode cX6_sharing 24 = .ok (.iconst 1, 1) := by decide +kernel
theorem dX6_sharing_25 : decode cX6_sharing 25 = .ok (.invokevirtual 92, 3) := by decide +kernel
theorem dX6_sharing_28 : decode cX6_sharing 28 = .ok (.ifCond .eq 7, 3) := by decide +kernel
theorem dX6_sharing_31 : decode cX6_sharing 31 = .ok (.iconst 1, 1) := by decide +kernel
theorem dX6_sharing_32 : decode cX6_sharing 32 = .ok (.goto 4, 3) := by decide +kernel
theorem dX6_sharing_35 : decode cX6_sharing 35 = .ok (.iconst 0, 1) := by decide +kernel
theorem dX6_sharing_36 : decode cX6_sharing 36 = .ok (.iadd, 1) := by decide +kernel
theorem dX6_sharing_37 : decode cX6_sharing 37 = .ok (.istore_n 2, 1) := by decide +kernel
theorem dX6_sharing_38 : decode cX6_sharing 38 = .ok (.iinc 3 1, 3) := by decide +kernel
theorem dX6_sharing_41 : decode cX6_sharing 41 = .ok (.goto (-37), 3) := by decide +kernel
theorem dX6_sharing_44 : decode cX6_sharing 44 = .ok (.iload_n 2, 1) := by decide +kernel
theorem dX6_sharing_45 : decode cX6_sharing 45 = .ok (.ireturn, 1) := by decide +kernel
theorem dX6_tellsDriven_0 : decode cX6_tellsDriven 0 = .ok (.aload_n 0, 1) := by decide +kernel
theorem dX6_tellsDriven_1 : decode cX6_tellsDriven 1 = .ok (.getfield 28, 3) := by decide +kernel
theorem dX6_tellsDriven_4 : decode cX6_tellsDriven 4 = .ok (.iload_n 1, 1) := by decide +kernel
theorem dX6_tellsDriven_5 : decode cX6_tellsDriven 5 = .ok (.iaload, 1) := by decide +kernel
theorem dX6_tellsDriven_6 : decode cX6_tellsDriven 6 = .ok (.istore_n 3, 1) := by decide +kernel
theorem dX6_tellsDriven_7 : decode cX6_tellsDriven 7 = .ok (.iload_n 2, 1) := by decide +kernel
theorem dX6_tellsDriven_8 : decode cX6_tellsDriven 8 = .ok (.bipush 6, 2) := by decide +kernel
theorem dX6_tellsDriven_10 : decode cX6_tellsDriven 10 = .ok (.if_icmp .ne 21, 3) := by decide +kernel
theorem dX6_tellsDriven_13 : decode cX6_tellsDriven 13 = .ok (.aload_n 0, 1) := by decide +kernel
theorem dX6_tellsDriven_14 : decode cX6_tellsDriven 14 = .ok (.getfield 7, 3) := by decide +kernel
theorem dX6_tellsDriven_17 : decode cX6_tellsDriven 17 = .ok (.bipush 17, 2) := by decide +kernel
theorem dX6_tellsDriven_19 : decode cX6_tellsDriven 19 = .ok (.iload_n 3, 1) := by decide +kernel
theorem dX6_tellsDriven_20 : decode cX6_tellsDriven 20 = .ok (.iadd, 1) := by decide +kernel
theorem dX6_tellsDriven_21 : decode cX6_tellsDriven 21 = .ok (.iaload, 1) := by decide +kernel
theorem dX6_tellsDriven_22 : decode cX6_tellsDriven 22 = .ok (.aload_n 0, 1) := by decide +kernel
theorem dX6_tellsDriven_23 : decode cX6_tellsDriven 23 = .ok (.iload_n 1, 1) := by decide +kernel
theorem dX6_tellsDriven_24 : decode cX6_tellsDriven 24 = .ok (.invokevirtual 65, 3) := by decide +kernel
theorem dX6_tellsDriven_27 : decode cX6_tellsDriven 27 = .ok (.isub, 1) := by decide +kernel
theorem dX6_tellsDriven_28 : decode cX6_tellsDriven 28 = .ok (.goto 27, 3) := by decide +kernel
theorem dX6_tellsDriven_31 : decode cX6_tellsDriven 31 = .ok (.iload_n 2, 1) := by decide +kernel
theorem dX6_tellsDriven_32 : decode cX6_tellsDriven 32 = .ok (.bipush 7, 2) := by decide +kernel
theorem dX6_tellsDriven_34 : decode cX6_tellsDriven 34 = .ok (.if_icmp .ne 16, 3) := by decide +kernel
theorem dX6_tellsDriven_37 : decode cX6_tellsDriven 37 = .ok (.aload_n 0, 1) := by decide +kernel
theorem dX6_tellsDriven_38 : decode cX6_tellsDriven 38 = .ok (.iload_n 3, 1) := by decide +kernel
theorem dX6_tellsDriven_39 : decode cX6_tellsDriven 39 = .ok (.aload_n 0, 1) := by decide +kernel
theorem dX6_tellsDriven_40 : decode cX6_tellsDriven 40 = .ok (.iload_n 1, 1) := by decide +kernel
theorem dX6_tellsDriven_41 : decode cX6_tellsDriven 41 = .ok (.invokevirtual 85, 3) := by decide +kernel
theorem dX6_tellsDriven_44 : decode cX6_tellsDriven 44 = .ok (.invokevirtual 129, 3) := by decide +kernel
theorem dX6_tellsDriven_47 : decode cX6_tellsDriven 47 = .ok (.goto 8, 3) := by decide +kernel
theorem dX6_tellsDriven_50 : decode cX6_tellsDriven 50 = .ok (.aload_n 0, 1) := by decide +kernel
theorem dX6_tellsDriven_51 : decode cX6_tellsDriven 51 = .ok (.iload_n 1, 1) := by decide +kernel
theorem dX6_tellsDriven_52 : decode cX6_tellsDriven 52 = .ok (.invokevirtual 132, 3) := by decide +kernel
theorem dX6_tellsDriven_55 : decode cX6_tellsDriven 55 = .ok (.ireturn, 1) := by decide +kernel
theorem dX6_rider_0 : decode cX6_rider 0 = .ok (.aload_n 0, 1) := by decide +kernel
theorem dX6_rider_1 : decode cX6_rider 1 = .ok (.iload_n 1, 1) := by decide +kernel
theorem dX6_rider_2 : decode cX6_rider 2 = .ok (.invokevirtual 123, 3) := by decide +kernel
theorem dX6_rider_5 : decode cX6_rider 5 = .ok (.ifCond .ne 6, 3) := by decide +kernel
theorem dX6_rider_8 : decode cX6_rider 8 = .ok (.bipush (-101), 2) := by decide +kernel
theorem dX6_rider_10 : decode cX6_rider 10 = .ok (.ireturn, 1) := by decide +kernel
theorem dX6_rider_11 : decode cX6_rider 11 = .ok (.aload_n 0, 1) := by decide +kernel
theorem dX6_rider_12 : decode cX6_rider 12 = .ok (.invokevirtual 113, 3) := by decide +kernel
theorem dX6_rider_15 : decode cX6_rider 15 = .ok (.aload_n 0, 1) := by decide +kernel
theorem dX6_rider_16 : decode cX6_rider 16 = .ok (.getfield 28, 3) := by decide +kernel
theorem dX6_rider_19 : decode cX6_rider 19 = .ok (.iload_n 1, 1) := by decide +kernel
theorem dX6_rider_20 : decode cX6_rider 20 = .ok (.iaload, 1) := by decide +kernel
theorem dX6_rider_21 : decode cX6_rider 21 = .ok (.bipush (-106), 2) := by decide +kernel
theorem dX6_rider_23 : decode cX6_rider 23 = .ok (.if_icmp .ne 7, 3) := by decide +kernel
theorem dX6_rider_26 : decode cX6_rider 26 = .ok (.iconst 1, 1) := by decide +kernel
theorem dX6_rider_27 : decode cX6_rider 27 = .ok (.goto 4, 3) := by decide +kernel
theorem dX6_rider_30 : decode cX6_rider 30 = .ok (.iconst 0, 1) := by decide +kernel
theorem dX6_rider_31 : decode cX6_rider 31 = .ok (.istore_n 3, 1) := by decide +kernel
theorem dX6_rider_32 : decode cX6_rider 32 = .ok (.iload_n 2, 1) := by decide +kernel
theorem dX6_rider_33 : decode cX6_rider 33 = .ok (.tableswitch 112 0 9 #[55, 55, 55, 55, 62, 68, 75, 75, 91, 97], 55) := by decide +kernel
theorem dX6_rider_88 : decode cX6_rider 88 = .ok (.aload_n 0, 1) := by decide +kernel
theorem dX6_rider_89 : decode cX6_rider 89 = .ok (.iload_n 1, 1) := by decide +kernel
theorem dX6_rider_90 : decode cX6_rider 90 = .ok (.iload_n 2, 1) := by decide +kernel
theorem dX6_rider_91 : decode cX6_rider 91 = .ok (.invokevirtual 57, 3) := by decide +kernel
theorem dX6_rider_94 : decode cX6_rider 94 = .ok (.ireturn, 1) := by decide +kernel
theorem dX6_rider_95 : decode cX6_rider 95 = .ok (.aload_n 0, 1) := by decide +kernel
theorem dX6_rider_96 : decode cX6_rider 96 = .ok (.iload_n 1, 1) := by decide +kernel
theorem dX6_rider_97 : decode cX6_rider 97 = .ok (.invokevirtual 65, 3) := by decide +kernel
theorem dX6_rider_100 : decode cX6_rider 100 = .ok (.ireturn, 1) := by decide +kernel
theorem dX6_rider_101 : decode cX6_rider 101 = .ok (.aload_n 0, 1) := by decide +kernel
theorem dX6_rider_102 : decode cX6_rider 102 = .ok (.getfield 28, 3) := by decide +kernel
theorem dX6_rider_105 : decode cX6_rider 105 = .ok (.iload_n 1, 1) := by decide +kernel
theorem dX6_rider_106 : decode cX6_rider 106 = .ok (.iaload, 1) := by decide +kernel
theorem dX6_rider_107 : decode cX6_rider 107 = .ok (.ireturn, 1) := by decide +kernel
theorem dX6_rider_108 : decode cX6_rider 108 = .ok (.iload_n 3, 1) := by decide +kernel
theorem dX6_rider_109 : decode cX6_rider 109 = .ok (.ifCond .eq 8, 3) := by decide +kernel
theorem dX6_rider_112 : decode cX6_rider 112 = .ok (.bipush (-106), 2) := by decide +kernel
theorem dX6_rider_114 : decode cX6_rider 114 = .ok (.goto 9, 3) := by decide +kernel
theorem dX6_rider_117 : decode cX6_rider 117 = .ok (.aload_n 0, 1) := by decide +kernel
theorem dX6_rider_118 : decode cX6_rider 118 = .ok (.iload_n 1, 1) := by decide +kernel
theorem dX6_rider_119 : decode cX6_rider 119 = .ok (.iload_n 2, 1) := by decide +kernel
theorem dX6_rider_120 : decode cX6_rider 120 = .ok (.invokevirtual 135, 3) := by decide +kernel
theorem dX6_rider_123 : decode cX6_rider 123 = .ok (.ireturn, 1) := by decide +kernel
theorem dX6_rider_124 : decode cX6_rider 124 = .ok (.aload_n 0, 1) := by decide +kernel
theorem dX6_rider_125 : decode cX6_rider 125 = .ok (.iload_n 1, 1) := by decide +kernel
theorem dX6_rider_126 : decode cX6_rider 126 = .ok (.invokevirtual 126, 3) := by decide +kernel
theorem dX6_rider_129 : decode cX6_rider 129 = .ok (.ireturn, 1) := by decide +kernel
theorem dX6_rider_130 : decode cX6_rider 130 = .ok (.iload_n 3, 1) := by decide +kernel
theorem dX6_rider_131 : decode cX6_rider 131 = .ok (.ifCond .eq 7, 3) := by decide +kernel
theorem dX6_rider_134 : decode cX6_rider 134 = .ok (.iconst 0, 1) := by decide +kernel
theorem dX6_rider_135 : decode cX6_rider 135 = .ok (.goto 9, 3) := by decide +kernel
theorem dX6_rider_138 : decode cX6_rider 138 = .ok (.aload_n 0, 1) := by decide +kernel
theorem dX6_rider_139 : decode cX6_rider 139 = .ok (.iload_n 1, 1) := by decide +kernel
theorem dX6_rider_140 : decode cX6_rider 140 = .ok (.iload_n 2, 1) := by decide +kernel
theorem dX6_rider_141 : decode cX6_rider 141 = .ok (.invokevirtual 135, 3) := by decide +kernel
theorem dX6_rider_144 : decode cX6_rider 144 = .ok (.ireturn, 1) := by decide +kernel
theorem dX6_rider_145 : decode cX6_rider 145 = .ok (.bipush (-102), 2) := by decide +kernel
theorem dX6_rider_147 : decode cX6_rider 147 = .ok (.ireturn, 1) := by decide +kernel
theorem dX6_peopleIn_0 : decode cX6_peopleIn 0 = .ok (.aload_n 0, 1) := by decide +kernel
theorem dX6_peopleIn_1 : decode cX6_peopleIn 1 = .ok (.getfield 7, 3) := by decide +kernel
theorem dX6_peopleIn_4 : decode cX6_peopleIn 4 = .ok (.bipush 25, 2) := by decide +kernel
theorem dX6_peopleIn_6 : decode cX6_peopleIn 6 = .ok (.iload_n 1, 1) := by decide +kernel
theorem dX6_peopleIn_7 : decode cX6_peopleIn 7 = .ok (.iadd, 1) := by decide +kernel
theorem dX6_peopleIn_8 : decode cX6_peopleIn 8 = .ok (.iaload, 1) := by decide +kernel
theorem dX6_peopleIn_9 : decode cX6_peopleIn 9 = .ok (.aload_n 0, 1) := by decide +kernel
theorem dX6_peopleIn_10 : decode cX6_peopleIn 10 = .ok (.getfield 34, 3) := by decide +kernel
theorem dX6_peopleIn_13 : decode cX6_peopleIn 13 = .ok (.iload_n 1, 1) := by decide +kernel
theorem dX6_peopleIn_14 : decode cX6_peopleIn 14 = .ok (.iaload, 1) := by decide +kernel
theorem dX6_peopleIn_15 : decode cX6_peopleIn 15 = .ok (.isub, 1) := by decide +kernel
theorem dX6_peopleIn_16 : decode cX6_peopleIn 16 = .ok (.ireturn, 1) := by decide +kernel
theorem dX6_ridersIn_0 : decode cX6_ridersIn 0 = .ok (.iconst 0, 1) := by decide +kernel
theorem dX6_ridersIn_1 : decode cX6_ridersIn 1 = .ok (.istore_n 2, 1) := by decide +kernel
theorem dX6_ridersIn_2 : decode cX6_ridersIn 2 = .ok (.iconst 0, 1) := by decide +kernel
theorem dX6_ridersIn_3 : decode cX6_ridersIn 3 = .ok (.istore_n 3, 1) := by decide +kernel
theorem dX6_ridersIn_4 : decode cX6_ridersIn 4 = .ok (.iload_n 3, 1) := by decide +kernel
theorem dX6_ridersIn_5 : decode cX6_ridersIn 5 = .ok (.aload_n 0, 1) := by decide +kernel
theorem dX6_ridersIn_6 : decode cX6_ridersIn 6 = .ok (.getfield 7, 3) := by decide +kernel
theorem dX6_ridersIn_9 : decode cX6_ridersIn 9 = .ok (.bipush 33, 2) := by decide +kernel
theorem dX6_ridersIn_11 : decode cX6_ridersIn 11 = .ok (.iaload, 1) := by decide +kernel
theorem dX6_ridersIn_12 : decode cX6_ridersIn 12 = .ok (.if_icmp .ge 29, 3) := by decide +kernel
theorem dX6_ridersIn_15 : decode cX6_ridersIn 15 = .ok (.iload_n 2, 1) := by decide +kernel
theorem dX6_ridersIn_16 : decode cX6_ridersIn 16 = .ok (.aload_n 0, 1) := by decide +kernel
theorem dX6_ridersIn_17 : decode cX6_ridersIn 17 = .ok (.getfield 28, 3) := by decide +kernel
theorem dX6_ridersIn_20 : decode cX6_ridersIn 20 = .ok (.iload_n 3, 1) := by decide +kernel
theorem dX6_ridersIn_21 : decode cX6_ridersIn 21 = .ok (.iaload, 1) := by decide +kernel
theorem dX6_ridersIn_22 : decode cX6_ridersIn 22 = .ok (.iload_n 1, 1) := by decide +kernel
theorem dX6_ridersIn_23 : decode cX6_ridersIn 23 = .ok (.if_icmp .ne 9, 3) := by decide +kernel
theorem dX6_ridersIn_26 : decode cX6_ridersIn 26 = .ok (.iconst 1, 1) := by decide +kernel
theorem dX6_ridersIn_27 : decode cX6_ridersIn 27 = .ok (.iload_n 3, 1) := by decide +kernel
theorem dX6_ridersIn_28 : decode cX6_ridersIn 28 = .ok (.ishl, 1) := by decide +kernel
theorem dX6_ridersIn_29 : decode cX6_ridersIn 29 = .ok (.goto 4, 3) := by decide +kernel
theorem dX6_ridersIn_32 : decode cX6_ridersIn 32 = .ok (.iconst 0, 1) := by decide +kernel
theorem dX6_ridersIn_33 : decode cX6_ridersIn 33 = .ok (.ior, 1) := by decide +kernel
theorem dX6_ridersIn_34 : decode cX6_ridersIn 34 = .ok (.istore_n 2, 1) := by decide +kernel
theorem dX6_ridersIn_35 : decode cX6_ridersIn 35 = .ok (.iinc 3 1, 3) := by decide +kernel
theorem dX6_ridersIn_38 : decode cX6_ridersIn 38 = .ok (.goto (-34), 3) := by decide +kernel
theorem dX6_ridersIn_41 : decode cX6_ridersIn 41 = .ok (.iload_n 2, 1) := by decide +kernel
theorem dX6_ridersIn_42 : decode cX6_ridersIn 42 = .ok (.ireturn, 1) := by decide +kernel
theorem dX6_faresIn_0 : decode cX6_faresIn 0 = .ok (.iconst 0, 1) := by decide +kernel
theorem dX6_faresIn_1 : decode cX6_faresIn 1 = .ok (.istore_n 2, 1) := by decide +kernel
theorem dX6_faresIn_2 : decode cX6_faresIn 2 = .ok (.iconst 0, 1) := by decide +kernel
theorem dX6_faresIn_3 : decode cX6_faresIn 3 = .ok (.istore_n 3, 1) := by decide +kernel
theorem dX6_faresIn_4 : decode cX6_faresIn 4 = .ok (.iload_n 3, 1) := by decide +kernel
theorem dX6_faresIn_5 : decode cX6_faresIn 5 = .ok (.aload_n 0, 1) := by decide +kernel
theorem dX6_faresIn_6 : decode cX6_faresIn 6 = .ok (.getfield 7, 3) := by decide +kernel
theorem dX6_faresIn_9 : decode cX6_faresIn 9 = .ok (.bipush 33, 2) := by decide +kernel
theorem dX6_faresIn_11 : decode cX6_faresIn 11 = .ok (.iaload, 1) := by decide +kernel
theorem dX6_faresIn_12 : decode cX6_faresIn 12 = .ok (.if_icmp .ge 31, 3) := by decide +kernel
theorem dX6_faresIn_15 : decode cX6_faresIn 15 = .ok (.iload_n 2, 1) := by decide +kernel
theorem dX6_faresIn_16 : decode cX6_faresIn 16 = .ok (.aload_n 0, 1) := by decide +kernel
theorem dX6_faresIn_17 : decode cX6_faresIn 17 = .ok (.getfield 28, 3) := by decide +kernel
theorem dX6_faresIn_20 : decode cX6_faresIn 20 = .ok (.iload_n 3, 1) := by decide +kernel
theorem dX6_faresIn_21 : decode cX6_faresIn 21 = .ok (.iaload, 1) := by decide +kernel
theorem dX6_faresIn_22 : decode cX6_faresIn 22 = .ok (.iload_n 1, 1) := by decide +kernel
theorem dX6_faresIn_23 : decode cX6_faresIn 23 = .ok (.if_icmp .ne 11, 3) := by decide +kernel
theorem dX6_faresIn_26 : decode cX6_faresIn 26 = .ok (.aload_n 0, 1) := by decide +kernel
theorem dX6_faresIn_27 : decode cX6_faresIn 27 = .ok (.iload_n 3, 1) := by decide +kernel
theorem dX6_faresIn_28 : decode cX6_faresIn 28 = .ok (.invokevirtual 126, 3) := by decide +kernel
theorem dX6_faresIn_31 : decode cX6_faresIn 31 = .ok (.goto 4, 3) := by decide +kernel
theorem dX6_faresIn_34 : decode cX6_faresIn 34 = .ok (.iconst 0, 1) := by decide +kernel
theorem dX6_faresIn_35 : decode cX6_faresIn 35 = .ok (.iadd, 1) := by decide +kernel
theorem dX6_faresIn_36 : decode cX6_faresIn 36 = .ok (.istore_n 2, 1) := by decide +kernel
theorem dX6_faresIn_37 : decode cX6_faresIn 37 = .ok (.iinc 3 1, 3) := by decide +kernel
theorem dX6_faresIn_40 : decode cX6_faresIn 40 = .ok (.goto (-36), 3) := by decide +kernel
theorem dX6_faresIn_43 : decode cX6_faresIn 43 = .ok (.iload_n 2, 1) := by decide +kernel
theorem dX6_faresIn_44 : decode cX6_faresIn 44 = .ok (.ireturn, 1) := by decide +kernel
theorem dX6_vanOf_0 : decode cX6_vanOf 0 = .ok (.iload_n 1, 1) := by decide +kernel
theorem dX6_vanOf_1 : decode cX6_vanOf 1 = .ok (.invokestatic 110, 3) := by decide +kernel
theorem dX6_vanOf_4 : decode cX6_vanOf 4 = .ok (.ifCond .ne 6, 3) := by decide +kernel
theorem dX6_vanOf_7 : decode cX6_vanOf 7 = .ok (.bipush (-101), 2) := by decide +kernel
theorem dX6_vanOf_9 : decode cX6_vanOf 9 = .ok (.ireturn, 1) := by decide +kernel
theorem dX6_vanOf_10 : decode cX6_vanOf 10 = .ok (.aload_n 0, 1) := by decide +kernel
theorem dX6_vanOf_11 : decode cX6_vanOf 11 = .ok (.invokevirtual 113, 3) := by decide +kernel
theorem dX6_vanOf_14 : decode cX6_vanOf 14 = .ok (.aload_n 0, 1) := by decide +kernel
theorem dX6_vanOf_15 : decode cX6_vanOf 15 = .ok (.iload_n 1, 1) := by decide +kernel
theorem dX6_vanOf_16 : decode cX6_vanOf 16 = .ok (.invokevirtual 88, 3) := by decide +kernel
theorem dX6_vanOf_19 : decode cX6_vanOf 19 = .ok (.iload_n 2, 1) := by decide +kernel
theorem dX6_vanOf_20 : decode cX6_vanOf 20 = .ok (.tableswitch 122 0 7 #[48, 58, 68, 74, 80, 87, 92, 116], 48) := by decide +kernel
theorem dX6_vanOf_68 : decode cX6_vanOf 68 = .ok (.aload_n 0, 1) := by decide +kernel
theorem dX6_vanOf_69 : decode cX6_vanOf 69 = .ok (.getfield 7, 3) := by decide +kernel
theorem dX6_vanOf_72 : decode cX6_vanOf 72 = .ok (.bipush 17, 2) := by decide +kernel
theorem dX6_vanOf_74 : decode cX6_vanOf 74 = .ok (.iload_n 1, 1) := by decide +kernel
theorem dX6_vanOf_75 : decode cX6_vanOf 75 = .ok (.iadd, 1) := by decide +kernel
theorem dX6_vanOf_76 : decode cX6_vanOf 76 = .ok (.iaload, 1) := by decide +kernel
theorem dX6_vanOf_77 : decode cX6_vanOf 77 = .ok (.ireturn, 1) := by decide +kernel
theorem dX6_vanOf_78 : decode cX6_vanOf 78 = .ok (.aload_n 0, 1) := by decide +kernel
theorem dX6_vanOf_79 : decode cX6_vanOf 79 = .ok (.getfield 7, 3) := by decide +kernel
theorem dX6_vanOf_82 : decode cX6_vanOf 82 = .ok (.bipush 25, 2) := by decide +kernel
theorem dX6_vanOf_84 : decode cX6_vanOf 84 = .ok (.iload_n 1, 1) := by decide +kernel
theorem dX6_vanOf_85 : decode cX6_vanOf 85 = .ok (.iadd, 1) := by decide +kernel
theorem dX6_vanOf_86 : decode cX6_vanOf 86 = .ok (.iaload, 1) := by decide +kernel
theorem dX6_vanOf_87 : decode cX6_vanOf 87 = .ok (.ireturn, 1) := by decide +kernel
theorem dX6_vanOf_88 : decode cX6_vanOf 88 = .ok (.aload_n 0, 1) := by decide +kernel
theorem dX6_vanOf_89 : decode cX6_vanOf 89 = .ok (.iload_n 1, 1) := by decide +kernel
theorem dX6_vanOf_90 : decode cX6_vanOf 90 = .ok (.invokevirtual 138, 3) := by decide +kernel
theorem dX6_vanOf_93 : decode cX6_vanOf 93 = .ok (.ireturn, 1) := by decide +kernel
theorem dX6_vanOf_94 : decode cX6_vanOf 94 = .ok (.aload_n 0, 1) := by decide +kernel
theorem dX6_vanOf_95 : decode cX6_vanOf 95 = .ok (.iload_n 1, 1) := by decide +kernel
theorem dX6_vanOf_96 : decode cX6_vanOf 96 = .ok (.invokevirtual 141, 3) := by decide +kernel
theorem dX6_vanOf_99 : decode cX6_vanOf 99 = .ok (.ireturn, 1) := by decide +kernel
theorem dX6_vanOf_100 : decode cX6_vanOf 100 = .ok (.aload_n 0, 1) := by decide +kernel
theorem dX6_vanOf_101 : decode cX6_vanOf 101 = .ok (.getfield 37, 3) := by decide +kernel
theorem dX6_vanOf_104 : decode cX6_vanOf 104 = .ok (.iload_n 1, 1) := by decide +kernel
theorem dX6_vanOf_105 : decode cX6_vanOf 105 = .ok (.iaload, 1) := by decide +kernel
theorem dX6_vanOf_106 : decode cX6_vanOf 106 = .ok (.ireturn, 1) := by decide +kernel
theorem dX6_vanOf_107 : decode cX6_vanOf 107 = .ok (.aload_n 0, 1) := by decide +kernel
theorem dX6_vanOf_108 : decode cX6_vanOf 108 = .ok (.getfield 82, 3) := by decide +kernel
theorem dX6_vanOf_111 : decode cX6_vanOf 111 = .ok (.ireturn, 1) := by decide +kernel
theorem dX6_vanOf_112 : decode cX6_vanOf 112 = .ok (.aload_n 0, 1) := by decide +kernel
theorem dX6_vanOf_113 : decode cX6_vanOf 113 = .ok (.getfield 82, 3) := by decide +kernel
theorem dX6_vanOf_116 : decode cX6_vanOf 116 = .ok (.ifCond .ne 8, 3) := by decide +kernel
theorem dX6_vanOf_119 : decode cX6_vanOf 119 = .ok (.bipush (-106), 2) := by decide +kernel
theorem dX6_vanOf_121 : decode cX6_vanOf 121 = .ok (.goto 14, 3) := by decide +kernel
theorem dX6_vanOf_124 : decode cX6_vanOf 124 = .ok (.aload_n 0, 1) := by decide +kernel
theorem dX6_vanOf_125 : decode cX6_vanOf 125 = .ok (.getfield 43, 3) := by decide +kernel
theorem dX6_vanOf_128 : decode cX6_vanOf 128 = .ok (.aload_n 0, 1) := by decide +kernel
theorem dX6_vanOf_129 : decode cX6_vanOf 129 = .ok (.getfield 82, 3) := by decide +kernel
theorem dX6_vanOf_132 : decode cX6_vanOf 132 = .ok (.iconst 1, 1) := by decide +kernel
theorem dX6_vanOf_133 : decode cX6_vanOf 133 = .ok (.isub, 1) := by decide +kernel
theorem dX6_vanOf_134 : decode cX6_vanOf 134 = .ok (.iaload, 1) := by decide +kernel
theorem dX6_vanOf_135 : decode cX6_vanOf 135 = .ok (.ireturn, 1) := by decide +kernel
theorem dX6_vanOf_136 : decode cX6_vanOf 136 = .ok (.aload_n 0, 1) := by decide +kernel
theorem dX6_vanOf_137 : decode cX6_vanOf 137 = .ok (.iload_n 1, 1) := by decide +kernel
theorem dX6_vanOf_138 : decode cX6_vanOf 138 = .ok (.invokevirtual 144, 3) := by decide +kernel
theorem dX6_vanOf_141 : decode cX6_vanOf 141 = .ok (.ireturn, 1) := by decide +kernel
theorem dX6_vanOf_142 : decode cX6_vanOf 142 = .ok (.bipush (-102), 2) := by decide +kernel
theorem dX6_vanOf_144 : decode cX6_vanOf 144 = .ok (.ireturn, 1) := by decide +kernel
theorem dX6_peopleOf_0 : decode cX6_peopleOf 0 = .ok (.iconst 0, 1) := by decide +kernel
theorem dX6_peopleOf_1 : decode cX6_peopleOf 1 = .ok (.istore_n 3, 1) := by decide +kernel
theorem dX6_peopleOf_2 : decode cX6_peopleOf 2 = .ok (.iconst 0, 1) := by decide +kernel
theorem dX6_peopleOf_3 : decode cX6_peopleOf 3 = .ok (.istore 4, 2) := by decide +kernel
theorem dX6_peopleOf_5 : decode cX6_peopleOf 5 = .ok (.iload 4, 2) := by decide +kernel
theorem dX6_peopleOf_7 : decode cX6_peopleOf 7 = .ok (.aload_n 0, 1) := by decide +kernel
theorem dX6_peopleOf_8 : decode cX6_peopleOf 8 = .ok (.getfield 7, 3) := by decide +kernel
theorem dX6_peopleOf_11 : decode cX6_peopleOf 11 = .ok (.bipush 33, 2) := by decide +kernel
theorem dX6_peopleOf_13 : decode cX6_peopleOf 13 = .ok (.iaload, 1) := by decide +kernel
theorem dX6_peopleOf_14 : decode cX6_peopleOf 14 = .ok (.if_icmp .ge 62, 3) := by decide +kernel
theorem dX6_peopleOf_17 : decode cX6_peopleOf 17 = .ok (.aload_n 0, 1) := by decide +kernel
theorem dX6_peopleOf_18 : decode cX6_peopleOf 18 = .ok (.iload 4, 2) := by decide +kernel
theorem dX6_peopleOf_20 : decode cX6_peopleOf 20 = .ok (.iconst 0, 1) := by decide +kernel
theorem dX6_peopleOf_21 : decode cX6_peopleOf 21 = .ok (.invokevirtual 57, 3) := by decide +kernel
theorem dX6_peopleOf_24 : decode cX6_peopleOf 24 = .ok (.iload_n 1, 1) := by decide +kernel
theorem dX6_peopleOf_25 : decode cX6_peopleOf 25 = .ok (.if_icmp .ne 23, 3) := by decide +kernel
theorem dX6_peopleOf_28 : decode cX6_peopleOf 28 = .ok (.iload_n 2, 1) := by decide +kernel
theorem dX6_peopleOf_29 : decode cX6_peopleOf 29 = .ok (.ifCond .eq 15, 3) := by decide +kernel
theorem dX6_peopleOf_32 : decode cX6_peopleOf 32 = .ok (.aload_n 0, 1) := by decide +kernel
theorem dX6_peopleOf_33 : decode cX6_peopleOf 33 = .ok (.getfield 28, 3) := by decide +kernel
theorem dX6_peopleOf_36 : decode cX6_peopleOf 36 = .ok (.iload 4, 2) := by decide +kernel
theorem dX6_peopleOf_38 : decode cX6_peopleOf 38 = .ok (.iaload, 1) := by decide +kernel
theorem dX6_peopleOf_39 : decode cX6_peopleOf 39 = .ok (.bipush (-106), 2) := by decide +kernel
theorem dX6_peopleOf_41 : decode cX6_peopleOf 41 = .ok (.if_icmp .ne 7, 3) := by decide +kernel
theorem dX6_peopleOf_44 : decode cX6_peopleOf 44 = .ok (.iconst 1, 1) := by decide +kernel
theorem dX6_peopleOf_45 : decode cX6_peopleOf 45 = .ok (.goto 4, 3) := by decide +kernel
theorem dX6_peopleOf_48 : decode cX6_peopleOf 48 = .ok (.iconst 0, 1) := by decide +kernel
theorem dX6_peopleOf_49 : decode cX6_peopleOf 49 = .ok (.istore 5, 2) := by decide +kernel
theorem dX6_peopleOf_51 : decode cX6_peopleOf 51 = .ok (.iload_n 3, 1) := by decide +kernel
theorem dX6_peopleOf_52 : decode cX6_peopleOf 52 = .ok (.iload 5, 2) := by decide +kernel
theorem dX6_peopleOf_54 : decode cX6_peopleOf 54 = .ok (.ifCond .eq 13, 3) := by decide +kernel
theorem dX6_peopleOf_57 : decode cX6_peopleOf 57 = .ok (.aload_n 0, 1) := by decide +kernel
theorem dX6_peopleOf_58 : decode cX6_peopleOf 58 = .ok (.iload 4, 2) := by decide +kernel
theorem dX6_peopleOf_60 : decode cX6_peopleOf 60 = .ok (.iconst 3, 1) := by decide +kernel
theorem dX6_peopleOf_61 : decode cX6_peopleOf 61 = .ok (.invokevirtual 57, 3) := by decide +kernel
theorem dX6_peopleOf_64 : decode cX6_peopleOf 64 = .ok (.goto 4, 3) := by decide +kernel
theorem dX6_peopleOf_67 : decode cX6_peopleOf 67 = .ok (.iconst 0, 1) := by decide +kernel
theorem dX6_peopleOf_68 : decode cX6_peopleOf 68 = .ok (.iadd, 1) := by decide +kernel
theorem dX6_peopleOf_69 : decode cX6_peopleOf 69 = .ok (.istore_n 3, 1) := by decide +kernel
theorem dX6_peopleOf_70 : decode cX6_peopleOf 70 = .ok (.iinc 4 1, 3) := by decide +kernel
theorem dX6_peopleOf_73 : decode cX6_peopleOf 73 = .ok (.goto (-68), 3) := by decide +kernel
theorem dX6_peopleOf_76 : decode cX6_peopleOf 76 = .ok (.iload_n 3, 1) := by decide +kernel
theorem dX6_peopleOf_77 : decode cX6_peopleOf 77 = .ok (.ireturn, 1) := by decide +kernel
theorem dX6_flight_0 : decode cX6_flight 0 = .ok (.iload_n 1, 1) := by decide +kernel
theorem dX6_flight_1 : decode cX6_flight 1 = .ok (.invokestatic 106, 3) := by decide +kernel
theorem dX6_flight_4 : decode cX6_flight 4 = .ok (.ifCond .ne 6, 3) := by decide +kernel
theorem dX6_flight_7 : decode cX6_flight 7 = .ok (.bipush (-101), 2) := by decide +kernel
theorem dX6_flight_9 : decode cX6_flight 9 = .ok (.ireturn, 1) := by decide +kernel
theorem dX6_flight_10 : decode cX6_flight 10 = .ok (.aload_n 0, 1) := by decide +kernel
theorem dX6_flight_11 : decode cX6_flight 11 = .ok (.invokevirtual 113, 3) := by decide +kernel
theorem dX6_flight_14 : decode cX6_flight 14 = .ok (.iload_n 2, 1) := by decide +kernel
theorem dX6_flight_15 : decode cX6_flight 15 = .ok (.tableswitch 72 0 4 #[33, 42, 52, 58, 65], 33) := by decide +kernel
theorem dX6_flight_48 : decode cX6_flight 48 = .ok (.aload_n 0, 1) := by decide +kernel
theorem dX6_flight_49 : decode cX6_flight 49 = .ok (.getfield 7, 3) := by decide +kernel
theorem dX6_flight_52 : decode cX6_flight 52 = .ok (.iconst 5, 1) := by decide +kernel
theorem dX6_flight_53 : decode cX6_flight 53 = .ok (.iload_n 1, 1) := by decide +kernel
theorem dX6_flight_54 : decode cX6_flight 54 = .ok (.iadd, 1) := by decide +kernel
theorem dX6_flight_55 : decode cX6_flight 55 = .ok (.iaload, 1) := by decide +kernel
theorem dX6_flight_56 : decode cX6_flight 56 = .ok (.ireturn, 1) := by decide +kernel
theorem dX6_flight_57 : decode cX6_flight 57 = .ok (.aload_n 0, 1) := by decide +kernel
theorem dX6_flight_58 : decode cX6_flight 58 = .ok (.getfield 7, 3) := by decide +kernel
theorem dX6_flight_61 : decode cX6_flight 61 = .ok (.bipush 11, 2) := by decide +kernel
theorem dX6_flight_63 : decode cX6_flight 63 = .ok (.iload_n 1, 1) := by decide +kernel
theorem dX6_flight_64 : decode cX6_flight 64 = .ok (.iadd, 1) := by decide +kernel
theorem dX6_flight_65 : decode cX6_flight 65 = .ok (.iaload, 1) := by decide +kernel
theorem dX6_flight_66 : decode cX6_flight 66 = .ok (.ireturn, 1) := by decide +kernel
theorem dX6_flight_67 : decode cX6_flight 67 = .ok (.aload_n 0, 1) := by decide +kernel
theorem dX6_flight_68 : decode cX6_flight 68 = .ok (.iload_n 1, 1) := by decide +kernel
theorem dX6_flight_69 : decode cX6_flight 69 = .ok (.invokevirtual 61, 3) := by decide +kernel
theorem dX6_flight_72 : decode cX6_flight 72 = .ok (.ireturn, 1) := by decide +kernel
theorem dX6_flight_73 : decode cX6_flight 73 = .ok (.aload_n 0, 1) := by decide +kernel
theorem dX6_flight_74 : decode cX6_flight 74 = .ok (.iload_n 1, 1) := by decide +kernel
theorem dX6_flight_75 : decode cX6_flight 75 = .ok (.iconst 0, 1) := by decide +kernel
theorem dX6_flight_76 : decode cX6_flight 76 = .ok (.invokevirtual 147, 3) := by decide +kernel
theorem dX6_flight_79 : decode cX6_flight 79 = .ok (.ireturn, 1) := by decide +kernel
theorem dX6_flight_80 : decode cX6_flight 80 = .ok (.aload_n 0, 1) := by decide +kernel
theorem dX6_flight_81 : decode cX6_flight 81 = .ok (.iload_n 1, 1) := by decide +kernel
theorem dX6_flight_82 : decode cX6_flight 82 = .ok (.iconst 1, 1) := by decide +kernel
theorem dX6_flight_83 : decode cX6_flight 83 = .ok (.invokevirtual 147, 3) := by decide +kernel
theorem dX6_flight_86 : decode cX6_flight 86 = .ok (.ireturn, 1) := by decide +kernel
theorem dX6_flight_87 : decode cX6_flight 87 = .ok (.bipush (-102), 2) := by decide +kernel
theorem dX6_flight_89 : decode cX6_flight 89 = .ok (.ireturn, 1) := by decide +kernel
theorem dX6_gettingOut_0 : decode cX6_gettingOut 0 = .ok (.iconst 0, 1) := by decide +kernel
theorem dX6_gettingOut_1 : decode cX6_gettingOut 1 = .ok (.istore_n 3, 1) := by decide +kernel
theorem dX6_gettingOut_2 : decode cX6_gettingOut 2 = .ok (.iconst 0, 1) := by decide +kernel
theorem dX6_gettingOut_3 : decode cX6_gettingOut 3 = .ok (.istore 4, 2) := by decide +kernel
theorem dX6_gettingOut_5 : decode cX6_gettingOut 5 = .ok (.iload 4, 2) := by decide +kernel
theorem dX6_gettingOut_7 : decode cX6_gettingOut 7 = .ok (.aload_n 0, 1) := by decide +kernel
theorem dX6_gettingOut_8 : decode cX6_gettingOut 8 = .ok (.getfield 7, 3) := by decide +kernel
theorem dX6_gettingOut_11 : decode cX6_gettingOut 11 = .ok (.bipush 33, 2) := by decide +kernel
theorem dX6_gettingOut_13 : decode cX6_gettingOut 13 = .ok (.iaload, 1) := by decide +kernel
theorem dX6_gettingOut_14 : decode cX6_gettingOut 14 = .ok (.if_icmp .ge 44, 3) := by decide +kernel
theorem dX6_gettingOut_17 : decode cX6_gettingOut 17 = .ok (.iload_n 3, 1) := by decide +kernel
theorem dX6_gettingOut_18 : decode cX6_gettingOut 18 = .ok (.aload_n 0, 1) := by decide +kernel
theorem dX6_gettingOut_19 : decode cX6_gettingOut 19 = .ok (.getfield 28, 3) := by decide +kernel
theorem dX6_gettingOut_22 : decode cX6_gettingOut 22 = .ok (.iload 4, 2) := by decide +kernel
theorem dX6_gettingOut_24 : decode cX6_gettingOut 24 = .ok (.iaload, 1) := by decide +kernel
theorem dX6_gettingOut_25 : decode cX6_gettingOut 25 = .ok (.iload_n 1, 1) := by decide +kernel
theorem dX6_gettingOut_26 : decode cX6_gettingOut 26 = .ok (.if_icmp .ne 23, 3) := by decide +kernel
theorem dX6_gettingOut_29 : decode cX6_gettingOut 29 = .ok (.aload_n 0, 1) := by decide +kernel
theorem dX6_gettingOut_30 : decode cX6_gettingOut 30 = .ok (.iload 4, 2) := by decide +kernel
theorem dX6_gettingOut_32 : decode cX6_gettingOut 32 = .ok (.invokevirtual 85, 3) := by decide +kernel
theorem dX6_gettingOut_35 : decode cX6_gettingOut 35 = .ok (.iload_n 2, 1) := by decide +kernel
theorem dX6_gettingOut_36 : decode cX6_gettingOut 36 = .ok (.if_icmp .ne 13, 3) := by decide +kernel
theorem dX6_gettingOut_39 : decode cX6_gettingOut 39 = .ok (.aload_n 0, 1) := by decide +kernel
theorem dX6_gettingOut_40 : decode cX6_gettingOut 40 = .ok (.iload 4, 2) := by decide +kernel
theorem dX6_gettingOut_42 : decode cX6_gettingOut 42 = .ok (.iconst 3, 1) := by decide +kernel
theorem dX6_gettingOut_43 : decode cX6_gettingOut 43 = .ok (.invokevirtual 57, 3) := by decide +kernel
theorem dX6_gettingOut_46 : decode cX6_gettingOut 46 = .ok (.goto 4, 3) := by decide +kernel
theorem dX6_gettingOut_49 : decode cX6_gettingOut 49 = .ok (.iconst 0, 1) := by decide +kernel
theorem dX6_gettingOut_50 : decode cX6_gettingOut 50 = .ok (.iadd, 1) := by decide +kernel
theorem dX6_gettingOut_51 : decode cX6_gettingOut 51 = .ok (.istore_n 3, 1) := by decide +kernel
theorem dX6_gettingOut_52 : decode cX6_gettingOut 52 = .ok (.iinc 4 1, 3) := by decide +kernel
theorem dX6_gettingOut_55 : decode cX6_gettingOut 55 = .ok (.goto (-50), 3) := by decide +kernel
theorem dX6_gettingOut_58 : decode cX6_gettingOut 58 = .ok (.iload_n 3, 1) := by decide +kernel
theorem dX6_gettingOut_59 : decode cX6_gettingOut 59 = .ok (.ireturn, 1) := by decide +kernel
theorem dX6_stop_0 : decode cX6_stop 0 = .ok (.iload_n 1, 1) := by decide +kernel
theorem dX6_stop_1 : decode cX6_stop 1 = .ok (.invokestatic 110, 3) := by decide +kernel
theorem dX6_stop_4 : decode cX6_stop 4 = .ok (.ifCond .ne 6, 3) := by decide +kernel
theorem dX6_stop_7 : decode cX6_stop 7 = .ok (.bipush (-101), 2) := by decide +kernel
theorem dX6_stop_9 : decode cX6_stop 9 = .ok (.ireturn, 1) := by decide +kernel
theorem dX6_stop_10 : decode cX6_stop 10 = .ok (.aload_n 0, 1) := by decide +kernel
theorem dX6_stop_11 : decode cX6_stop 11 = .ok (.invokevirtual 113, 3) := by decide +kernel
theorem dX6_stop_14 : decode cX6_stop 14 = .ok (.aload_n 0, 1) := by decide +kernel
theorem dX6_stop_15 : decode cX6_stop 15 = .ok (.iload_n 1, 1) := by decide +kernel
theorem dX6_stop_16 : decode cX6_stop 16 = .ok (.invokevirtual 88, 3) := by decide +kernel
end
section
theorem dX6_stop_19 : decode cX6_stop 19 = .ok (.iload_n 2, 1) := by decide +kernel
theorem dX6_stop_20 : decode cX6_stop 20 = .ok (.iconst 0, 1) := by decide +kernel
theorem dX6_stop_21 : decode cX6_stop 21 = .ok (.aload_n 0, 1) := by decide +kernel
theorem dX6_stop_22 : decode cX6_stop 22 = .ok (.getfield 82, 3) := by decide +kernel
theorem dX6_stop_25 : decode cX6_stop 25 = .ok (.iconst 1, 1) := by decide +kernel
theorem dX6_stop_26 : decode cX6_stop 26 = .ok (.isub, 1) := by decide +kernel
theorem dX6_stop_27 : decode cX6_stop 27 = .ok (.invokestatic 46, 3) := by decide +kernel
theorem dX6_stop_30 : decode cX6_stop 30 = .ok (.ifCond .ne 6, 3) := by decide +kernel
theorem dX6_stop_33 : decode cX6_stop 33 = .ok (.bipush (-101), 2) := by decide +kernel
theorem dX6_stop_35 : decode cX6_stop 35 = .ok (.ireturn, 1) := by decide +kernel
theorem dX6_stop_36 : decode cX6_stop 36 = .ok (.iload_n 3, 1) := by decide +kernel
theorem dX6_stop_37 : decode cX6_stop 37 = .ok (.tableswitch 70 0 3 #[31, 41, 51, 58], 31) := by decide +kernel
theorem dX6_stop_68 : decode cX6_stop 68 = .ok (.aload_n 0, 1) := by decide +kernel
theorem dX6_stop_69 : decode cX6_stop 69 = .ok (.getfield 40, 3) := by decide +kernel
theorem dX6_stop_72 : decode cX6_stop 72 = .ok (.iload_n 2, 1) := by decide +kernel
theorem dX6_stop_73 : decode cX6_stop 73 = .ok (.iaload, 1) := by decide +kernel
theorem dX6_stop_74 : decode cX6_stop 74 = .ok (.bipush 100, 2) := by decide +kernel
theorem dX6_stop_76 : decode cX6_stop 76 = .ok (.idiv, 1) := by decide +kernel
theorem dX6_stop_77 : decode cX6_stop 77 = .ok (.ireturn, 1) := by decide +kernel
theorem dX6_stop_78 : decode cX6_stop 78 = .ok (.aload_n 0, 1) := by decide +kernel
theorem dX6_stop_79 : decode cX6_stop 79 = .ok (.getfield 40, 3) := by decide +kernel
theorem dX6_stop_82 : decode cX6_stop 82 = .ok (.iload_n 2, 1) := by decide +kernel
theorem dX6_stop_83 : decode cX6_stop 83 = .ok (.iaload, 1) := by decide +kernel
theorem dX6_stop_84 : decode cX6_stop 84 = .ok (.bipush 100, 2) := by decide +kernel
theorem dX6_stop_86 : decode cX6_stop 86 = .ok (.irem, 1) := by decide +kernel
theorem dX6_stop_87 : decode cX6_stop 87 = .ok (.ireturn, 1) := by decide +kernel
theorem dX6_stop_88 : decode cX6_stop 88 = .ok (.aload_n 0, 1) := by decide +kernel
theorem dX6_stop_89 : decode cX6_stop 89 = .ok (.getfield 43, 3) := by decide +kernel
theorem dX6_stop_92 : decode cX6_stop 92 = .ok (.iload_n 2, 1) := by decide +kernel
theorem dX6_stop_93 : decode cX6_stop 93 = .ok (.iaload, 1) := by decide +kernel
theorem dX6_stop_94 : decode cX6_stop 94 = .ok (.ireturn, 1) := by decide +kernel
theorem dX6_stop_95 : decode cX6_stop 95 = .ok (.aload_n 0, 1) := by decide +kernel
theorem dX6_stop_96 : decode cX6_stop 96 = .ok (.iload_n 1, 1) := by decide +kernel
theorem dX6_stop_97 : decode cX6_stop 97 = .ok (.aload_n 0, 1) := by decide +kernel
theorem dX6_stop_98 : decode cX6_stop 98 = .ok (.getfield 40, 3) := by decide +kernel
theorem dX6_stop_101 : decode cX6_stop 101 = .ok (.iload_n 2, 1) := by decide +kernel
theorem dX6_stop_102 : decode cX6_stop 102 = .ok (.iaload, 1) := by decide +kernel
theorem dX6_stop_103 : decode cX6_stop 103 = .ok (.invokevirtual 151, 3) := by decide +kernel
theorem dX6_stop_106 : decode cX6_stop 106 = .ok (.ireturn, 1) := by decide +kernel
theorem dX6_stop_107 : decode cX6_stop 107 = .ok (.bipush (-102), 2) := by decide +kernel
theorem dX6_stop_109 : decode cX6_stop 109 = .ok (.ireturn, 1) := by decide +kernel
theorem dX6_allPeople_0 : decode cX6_allPeople 0 = .ok (.iconst 0, 1) := by decide +kernel
theorem dX6_allPeople_1 : decode cX6_allPeople 1 = .ok (.istore_n 1, 1) := by decide +kernel
theorem dX6_allPeople_2 : decode cX6_allPeople 2 = .ok (.iconst 0, 1) := by decide +kernel
theorem dX6_allPeople_3 : decode cX6_allPeople 3 = .ok (.istore_n 2, 1) := by decide +kernel
theorem dX6_allPeople_4 : decode cX6_allPeople 4 = .ok (.iload_n 2, 1) := by decide +kernel
theorem dX6_allPeople_5 : decode cX6_allPeople 5 = .ok (.bipush 6, 2) := by decide +kernel
theorem dX6_allPeople_7 : decode cX6_allPeople 7 = .ok (.if_icmp .ge 18, 3) := by decide +kernel
theorem dX6_allPeople_10 : decode cX6_allPeople 10 = .ok (.iload_n 1, 1) := by decide +kernel
theorem dX6_allPeople_11 : decode cX6_allPeople 11 = .ok (.aload_n 0, 1) := by decide +kernel
theorem dX6_allPeople_12 : decode cX6_allPeople 12 = .ok (.iload_n 2, 1) := by decide +kernel
theorem dX6_allPeople_13 : decode cX6_allPeople 13 = .ok (.iconst 0, 1) := by decide +kernel
theorem dX6_allPeople_14 : decode cX6_allPeople 14 = .ok (.invokevirtual 147, 3) := by decide +kernel
theorem dX6_allPeople_17 : decode cX6_allPeople 17 = .ok (.iadd, 1) := by decide +kernel
theorem dX6_allPeople_18 : decode cX6_allPeople 18 = .ok (.istore_n 1, 1) := by decide +kernel
theorem dX6_allPeople_19 : decode cX6_allPeople 19 = .ok (.iinc 2 1, 3) := by decide +kernel
theorem dX6_allPeople_22 : decode cX6_allPeople 22 = .ok (.goto (-18), 3) := by decide +kernel
theorem dX6_allPeople_25 : decode cX6_allPeople 25 = .ok (.iload_n 1, 1) := by decide +kernel
theorem dX6_allPeople_26 : decode cX6_allPeople 26 = .ok (.ireturn, 1) := by decide +kernel
theorem dX6_strandedRiders_0 : decode cX6_strandedRiders 0 = .ok (.iconst 0, 1) := by decide +kernel
theorem dX6_strandedRiders_1 : decode cX6_strandedRiders 1 = .ok (.istore_n 1, 1) := by decide +kernel
theorem dX6_strandedRiders_2 : decode cX6_strandedRiders 2 = .ok (.iconst 0, 1) := by decide +kernel
theorem dX6_strandedRiders_3 : decode cX6_strandedRiders 3 = .ok (.istore_n 2, 1) := by decide +kernel
theorem dX6_strandedRiders_4 : decode cX6_strandedRiders 4 = .ok (.iload_n 2, 1) := by decide +kernel
theorem dX6_strandedRiders_5 : decode cX6_strandedRiders 5 = .ok (.aload_n 0, 1) := by decide +kernel
theorem dX6_strandedRiders_6 : decode cX6_strandedRiders 6 = .ok (.getfield 7, 3) := by decide +kernel
theorem dX6_strandedRiders_9 : decode cX6_strandedRiders 9 = .ok (.bipush 33, 2) := by decide +kernel
theorem dX6_strandedRiders_11 : decode cX6_strandedRiders 11 = .ok (.iaload, 1) := by decide +kernel
theorem dX6_strandedRiders_12 : decode cX6_strandedRiders 12 = .ok (.if_icmp .ge 28, 3) := by decide +kernel
theorem dX6_strandedRiders_15 : decode cX6_strandedRiders 15 = .ok (.iload_n 1, 1) := by decide +kernel
theorem dX6_strandedRiders_16 : decode cX6_strandedRiders 16 = .ok (.aload_n 0, 1) := by decide +kernel
theorem dX6_strandedRiders_17 : decode cX6_strandedRiders 17 = .ok (.getfield 28, 3) := by decide +kernel
theorem dX6_strandedRiders_20 : decode cX6_strandedRiders 20 = .ok (.iload_n 2, 1) := by decide +kernel
theorem dX6_strandedRiders_21 : decode cX6_strandedRiders 21 = .ok (.iaload, 1) := by decide +kernel
theorem dX6_strandedRiders_22 : decode cX6_strandedRiders 22 = .ok (.bipush (-106), 2) := by decide +kernel
theorem dX6_strandedRiders_24 : decode cX6_strandedRiders 24 = .ok (.if_icmp .ne 7, 3) := by decide +kernel
theorem dX6_strandedRiders_27 : decode cX6_strandedRiders 27 = .ok (.iconst 1, 1) := by decide +kernel
theorem dX6_strandedRiders_28 : decode cX6_strandedRiders 28 = .ok (.goto 4, 3) := by decide +kernel
theorem dX6_strandedRiders_31 : decode cX6_strandedRiders 31 = .ok (.iconst 0, 1) := by decide +kernel
theorem dX6_strandedRiders_32 : decode cX6_strandedRiders 32 = .ok (.iadd, 1) := by decide +kernel
theorem dX6_strandedRiders_33 : decode cX6_strandedRiders 33 = .ok (.istore_n 1, 1) := by decide +kernel
theorem dX6_strandedRiders_34 : decode cX6_strandedRiders 34 = .ok (.iinc 2 1, 3) := by decide +kernel
theorem dX6_strandedRiders_37 : decode cX6_strandedRiders 37 = .ok (.goto (-33), 3) := by decide +kernel
theorem dX6_strandedRiders_40 : decode cX6_strandedRiders 40 = .ok (.iload_n 1, 1) := by decide +kernel
theorem dX6_strandedRiders_41 : decode cX6_strandedRiders 41 = .ok (.ireturn, 1) := by decide +kernel
theorem dX6_allFares_0 : decode cX6_allFares 0 = .ok (.iconst 0, 1) := by decide +kernel
theorem dX6_allFares_1 : decode cX6_allFares 1 = .ok (.istore_n 1, 1) := by decide +kernel
theorem dX6_allFares_2 : decode cX6_allFares 2 = .ok (.iconst 0, 1) := by decide +kernel
theorem dX6_allFares_3 : decode cX6_allFares 3 = .ok (.istore_n 2, 1) := by decide +kernel
theorem dX6_allFares_4 : decode cX6_allFares 4 = .ok (.iload_n 2, 1) := by decide +kernel
theorem dX6_allFares_5 : decode cX6_allFares 5 = .ok (.aload_n 0, 1) := by decide +kernel
theorem dX6_allFares_6 : decode cX6_allFares 6 = .ok (.getfield 7, 3) := by decide +kernel
theorem dX6_allFares_9 : decode cX6_allFares 9 = .ok (.bipush 33, 2) := by decide +kernel
theorem dX6_allFares_11 : decode cX6_allFares 11 = .ok (.iaload, 1) := by decide +kernel
theorem dX6_allFares_12 : decode cX6_allFares 12 = .ok (.if_icmp .ge 17, 3) := by decide +kernel
theorem dX6_allFares_15 : decode cX6_allFares 15 = .ok (.iload_n 1, 1) := by decide +kernel
theorem dX6_allFares_16 : decode cX6_allFares 16 = .ok (.aload_n 0, 1) := by decide +kernel
theorem dX6_allFares_17 : decode cX6_allFares 17 = .ok (.iload_n 2, 1) := by decide +kernel
theorem dX6_allFares_18 : decode cX6_allFares 18 = .ok (.invokevirtual 126, 3) := by decide +kernel
theorem dX6_allFares_21 : decode cX6_allFares 21 = .ok (.iadd, 1) := by decide +kernel
theorem dX6_allFares_22 : decode cX6_allFares 22 = .ok (.istore_n 1, 1) := by decide +kernel
theorem dX6_allFares_23 : decode cX6_allFares 23 = .ok (.iinc 2 1, 3) := by decide +kernel
theorem dX6_allFares_26 : decode cX6_allFares 26 = .ok (.goto (-22), 3) := by decide +kernel
theorem dX6_allFares_29 : decode cX6_allFares 29 = .ok (.iload_n 1, 1) := by decide +kernel
theorem dX6_allFares_30 : decode cX6_allFares 30 = .ok (.ireturn, 1) := by decide +kernel
theorem dX6_usedVans_0 : decode cX6_usedVans 0 = .ok (.iconst 0, 1) := by decide +kernel
theorem dX6_usedVans_1 : decode cX6_usedVans 1 = .ok (.istore_n 1, 1) := by decide +kernel
theorem dX6_usedVans_2 : decode cX6_usedVans 2 = .ok (.iconst 0, 1) := by decide +kernel
theorem dX6_usedVans_3 : decode cX6_usedVans 3 = .ok (.istore_n 2, 1) := by decide +kernel
theorem dX6_usedVans_4 : decode cX6_usedVans 4 = .ok (.iload_n 2, 1) := by decide +kernel
theorem dX6_usedVans_5 : decode cX6_usedVans 5 = .ok (.bipush 8, 2) := by decide +kernel
theorem dX6_usedVans_7 : decode cX6_usedVans 7 = .ok (.if_icmp .ge 26, 3) := by decide +kernel
theorem dX6_usedVans_10 : decode cX6_usedVans 10 = .ok (.iload_n 1, 1) := by decide +kernel
theorem dX6_usedVans_11 : decode cX6_usedVans 11 = .ok (.aload_n 0, 1) := by decide +kernel
theorem dX6_usedVans_12 : decode cX6_usedVans 12 = .ok (.getfield 37, 3) := by decide +kernel
theorem dX6_usedVans_15 : decode cX6_usedVans 15 = .ok (.iload_n 2, 1) := by decide +kernel
theorem dX6_usedVans_16 : decode cX6_usedVans 16 = .ok (.iaload, 1) := by decide +kernel
theorem dX6_usedVans_17 : decode cX6_usedVans 17 = .ok (.ifCond .eq 7, 3) := by decide +kernel
theorem dX6_usedVans_20 : decode cX6_usedVans 20 = .ok (.iconst 1, 1) := by decide +kernel
theorem dX6_usedVans_21 : decode cX6_usedVans 21 = .ok (.goto 4, 3) := by decide +kernel
theorem dX6_usedVans_24 : decode cX6_usedVans 24 = .ok (.iconst 0, 1) := by decide +kernel
theorem dX6_usedVans_25 : decode cX6_usedVans 25 = .ok (.iadd, 1) := by decide +kernel
theorem dX6_usedVans_26 : decode cX6_usedVans 26 = .ok (.istore_n 1, 1) := by decide +kernel
theorem dX6_usedVans_27 : decode cX6_usedVans 27 = .ok (.iinc 2 1, 3) := by decide +kernel
theorem dX6_usedVans_30 : decode cX6_usedVans 30 = .ok (.goto (-26), 3) := by decide +kernel
theorem dX6_usedVans_33 : decode cX6_usedVans 33 = .ok (.iload_n 1, 1) := by decide +kernel
theorem dX6_usedVans_34 : decode cX6_usedVans 34 = .ok (.ireturn, 1) := by decide +kernel
theorem dX6_allStops_0 : decode cX6_allStops 0 = .ok (.iconst 0, 1) := by decide +kernel
theorem dX6_allStops_1 : decode cX6_allStops 1 = .ok (.istore_n 1, 1) := by decide +kernel
theorem dX6_allStops_2 : decode cX6_allStops 2 = .ok (.iconst 0, 1) := by decide +kernel
theorem dX6_allStops_3 : decode cX6_allStops 3 = .ok (.istore_n 2, 1) := by decide +kernel
theorem dX6_allStops_4 : decode cX6_allStops 4 = .ok (.iload_n 2, 1) := by decide +kernel
theorem dX6_allStops_5 : decode cX6_allStops 5 = .ok (.bipush 8, 2) := by decide +kernel
theorem dX6_allStops_7 : decode cX6_allStops 7 = .ok (.if_icmp .ge 21, 3) := by decide +kernel
theorem dX6_allStops_10 : decode cX6_allStops 10 = .ok (.aload_n 0, 1) := by decide +kernel
theorem dX6_allStops_11 : decode cX6_allStops 11 = .ok (.iload_n 2, 1) := by decide +kernel
theorem dX6_allStops_12 : decode cX6_allStops 12 = .ok (.invokevirtual 88, 3) := by decide +kernel
theorem dX6_allStops_15 : decode cX6_allStops 15 = .ok (.iload_n 1, 1) := by decide +kernel
theorem dX6_allStops_16 : decode cX6_allStops 16 = .ok (.aload_n 0, 1) := by decide +kernel
theorem dX6_allStops_17 : decode cX6_allStops 17 = .ok (.getfield 82, 3) := by decide +kernel
theorem dX6_allStops_20 : decode cX6_allStops 20 = .ok (.iadd, 1) := by decide +kernel
theorem dX6_allStops_21 : decode cX6_allStops 21 = .ok (.istore_n 1, 1) := by decide +kernel
theorem dX6_allStops_22 : decode cX6_allStops 22 = .ok (.iinc 2 1, 3) := by decide +kernel
theorem dX6_allStops_25 : decode cX6_allStops 25 = .ok (.goto (-21), 3) := by decide +kernel
theorem dX6_allStops_28 : decode cX6_allStops 28 = .ok (.iload_n 1, 1) := by decide +kernel
theorem dX6_allStops_29 : decode cX6_allStops 29 = .ok (.ireturn, 1) := by decide +kernel
theorem dX6_count_0 : decode cX6_count 0 = .ok (.iload_n 1, 1) := by decide +kernel
theorem dX6_count_1 : decode cX6_count 1 = .ok (.iconst 0, 1) := by decide +kernel
theorem dX6_count_2 : decode cX6_count 2 = .ok (.iconst 4, 1) := by decide +kernel
theorem dX6_count_3 : decode cX6_count 3 = .ok (.invokestatic 46, 3) := by decide +kernel
theorem dX6_count_6 : decode cX6_count 6 = .ok (.ifCond .eq 10, 3) := by decide +kernel
theorem dX6_count_9 : decode cX6_count 9 = .ok (.aload_n 0, 1) := by decide +kernel
theorem dX6_count_10 : decode cX6_count 10 = .ok (.getfield 7, 3) := by decide +kernel
theorem dX6_count_13 : decode cX6_count 13 = .ok (.iload_n 1, 1) := by decide +kernel
theorem dX6_count_14 : decode cX6_count 14 = .ok (.iaload, 1) := by decide +kernel
theorem dX6_count_15 : decode cX6_count 15 = .ok (.ireturn, 1) := by decide +kernel
theorem dX6_count_16 : decode cX6_count 16 = .ok (.aload_n 0, 1) := by decide +kernel
theorem dX6_count_17 : decode cX6_count 17 = .ok (.invokevirtual 113, 3) := by decide +kernel
theorem dX6_count_20 : decode cX6_count 20 = .ok (.iload_n 1, 1) := by decide +kernel
theorem dX6_count_21 : decode cX6_count 21 = .ok (.tableswitch 117 5 15 #[59, 67, 72, 77, 82, 87, 92, 97, 102, 107, 112], 59) := by decide +kernel
theorem dX6_count_80 : decode cX6_count 80 = .ok (.aload_n 0, 1) := by decide +kernel
theorem dX6_count_81 : decode cX6_count 81 = .ok (.getfield 7, 3) := by decide +kernel
theorem dX6_count_84 : decode cX6_count 84 = .ok (.bipush 33, 2) := by decide +kernel
theorem dX6_count_86 : decode cX6_count 86 = .ok (.iaload, 1) := by decide +kernel
theorem dX6_count_87 : decode cX6_count 87 = .ok (.ireturn, 1) := by decide +kernel
theorem dX6_count_88 : decode cX6_count 88 = .ok (.aload_n 0, 1) := by decide +kernel
theorem dX6_count_89 : decode cX6_count 89 = .ok (.invokevirtual 154, 3) := by decide +kernel
theorem dX6_count_92 : decode cX6_count 92 = .ok (.ireturn, 1) := by decide +kernel
theorem dX6_count_93 : decode cX6_count 93 = .ok (.aload_n 0, 1) := by decide +kernel
theorem dX6_count_94 : decode cX6_count 94 = .ok (.invokevirtual 157, 3) := by decide +kernel
theorem dX6_count_97 : decode cX6_count 97 = .ok (.ireturn, 1) := by decide +kernel
theorem dX6_count_98 : decode cX6_count 98 = .ok (.aload_n 0, 1) := by decide +kernel
theorem dX6_count_99 : decode cX6_count 99 = .ok (.invokevirtual 116, 3) := by decide +kernel
theorem dX6_count_102 : decode cX6_count 102 = .ok (.ireturn, 1) := by decide +kernel
theorem dX6_count_103 : decode cX6_count 103 = .ok (.aload_n 0, 1) := by decide +kernel
theorem dX6_count_104 : decode cX6_count 104 = .ok (.invokevirtual 160, 3) := by decide +kernel
theorem dX6_count_107 : decode cX6_count 107 = .ok (.ireturn, 1) := by decide +kernel
theorem dX6_count_108 : decode cX6_count 108 = .ok (.aload_n 0, 1) := by decide +kernel
theorem dX6_count_109 : decode cX6_count 109 = .ok (.invokevirtual 163, 3) := by decide +kernel
theorem dX6_count_112 : decode cX6_count 112 = .ok (.ireturn, 1) := by decide +kernel
theorem dX6_count_113 : decode cX6_count 113 = .ok (.aload_n 0, 1) := by decide +kernel
theorem dX6_count_114 : decode cX6_count 114 = .ok (.invokevirtual 166, 3) := by decide +kernel
theorem dX6_count_117 : decode cX6_count 117 = .ok (.ireturn, 1) := by decide +kernel
theorem dX6_count_118 : decode cX6_count 118 = .ok (.aload_n 0, 1) := by decide +kernel
theorem dX6_count_119 : decode cX6_count 119 = .ok (.invokevirtual 169, 3) := by decide +kernel
theorem dX6_count_122 : decode cX6_count 122 = .ok (.ireturn, 1) := by decide +kernel
theorem dX6_count_123 : decode cX6_count 123 = .ok (.aload_n 0, 1) := by decide +kernel
theorem dX6_count_124 : decode cX6_count 124 = .ok (.invokevirtual 172, 3) := by decide +kernel
theorem dX6_count_127 : decode cX6_count 127 = .ok (.ireturn, 1) := by decide +kernel
theorem dX6_count_128 : decode cX6_count 128 = .ok (.aload_n 0, 1) := by decide +kernel
theorem dX6_count_129 : decode cX6_count 129 = .ok (.getfield 175, 3) := by decide +kernel
theorem dX6_count_132 : decode cX6_count 132 = .ok (.ireturn, 1) := by decide +kernel
theorem dX6_count_133 : decode cX6_count 133 = .ok (.aload_n 0, 1) := by decide +kernel
theorem dX6_count_134 : decode cX6_count 134 = .ok (.getfield 50, 3) := by decide +kernel
theorem dX6_count_137 : decode cX6_count 137 = .ok (.ireturn, 1) := by decide +kernel
theorem dX6_count_138 : decode cX6_count 138 = .ok (.bipush (-102), 2) := by decide +kernel
theorem dX6_count_140 : decode cX6_count 140 = .ok (.ireturn, 1) := by decide +kernel
theorem dX6_kerb_0 : decode cX6_kerb 0 = .ok (.iload_n 1, 1) := by decide +kernel
theorem dX6_kerb_1 : decode cX6_kerb 1 = .ok (.iconst 0, 1) := by decide +kernel
theorem dX6_kerb_2 : decode cX6_kerb 2 = .ok (.sipush 3000, 3) := by decide +kernel
theorem dX6_kerb_5 : decode cX6_kerb 5 = .ok (.invokestatic 46, 3) := by decide +kernel
theorem dX6_kerb_8 : decode cX6_kerb 8 = .ok (.ifCond .ne 6, 3) := by decide +kernel
theorem dX6_kerb_11 : decode cX6_kerb 11 = .ok (.bipush (-102), 2) := by decide +kernel
theorem dX6_kerb_13 : decode cX6_kerb 13 = .ok (.ireturn, 1) := by decide +kernel
theorem dX6_kerb_14 : decode cX6_kerb 14 = .ok (.aload_n 0, 1) := by decide +kernel
theorem dX6_kerb_15 : decode cX6_kerb 15 = .ok (.invokevirtual 113, 3) := by decide +kernel
theorem dX6_kerb_18 : decode cX6_kerb 18 = .ok (.iconst 0, 1) := by decide +kernel
theorem dX6_kerb_19 : decode cX6_kerb 19 = .ok (.istore_n 2, 1) := by decide +kernel
theorem dX6_kerb_20 : decode cX6_kerb 20 = .ok (.iconst 0, 1) := by decide +kernel
theorem dX6_kerb_21 : decode cX6_kerb 21 = .ok (.istore_n 3, 1) := by decide +kernel
theorem dX6_kerb_22 : decode cX6_kerb 22 = .ok (.iload_n 3, 1) := by decide +kernel
theorem dX6_kerb_23 : decode cX6_kerb 23 = .ok (.aload_n 0, 1) := by decide +kernel
theorem dX6_kerb_24 : decode cX6_kerb 24 = .ok (.getfield 7, 3) := by decide +kernel
theorem dX6_kerb_27 : decode cX6_kerb 27 = .ok (.bipush 33, 2) := by decide +kernel
theorem dX6_kerb_29 : decode cX6_kerb 29 = .ok (.iaload, 1) := by decide +kernel
theorem dX6_kerb_30 : decode cX6_kerb 30 = .ok (.if_icmp .ge 91, 3) := by decide +kernel
theorem dX6_kerb_33 : decode cX6_kerb 33 = .ok (.iload_n 1, 1) := by decide +kernel
theorem dX6_kerb_34 : decode cX6_kerb 34 = .ok (.aload_n 0, 1) := by decide +kernel
theorem dX6_kerb_35 : decode cX6_kerb 35 = .ok (.iload_n 3, 1) := by decide +kernel
theorem dX6_kerb_36 : decode cX6_kerb 36 = .ok (.invokevirtual 65, 3) := by decide +kernel
theorem dX6_kerb_39 : decode cX6_kerb 39 = .ok (.isub, 1) := by decide +kernel
theorem dX6_kerb_40 : decode cX6_kerb 40 = .ok (.istore 4, 2) := by decide +kernel
theorem dX6_kerb_42 : decode cX6_kerb 42 = .ok (.aload_n 0, 1) := by decide +kernel
theorem dX6_kerb_43 : decode cX6_kerb 43 = .ok (.getfield 28, 3) := by decide +kernel
theorem dX6_kerb_46 : decode cX6_kerb 46 = .ok (.iload_n 3, 1) := by decide +kernel
theorem dX6_kerb_47 : decode cX6_kerb 47 = .ok (.iaload, 1) := by decide +kernel
theorem dX6_kerb_48 : decode cX6_kerb 48 = .ok (.istore 5, 2) := by decide +kernel
theorem dX6_kerb_50 : decode cX6_kerb 50 = .ok (.iload 4, 2) := by decide +kernel
theorem dX6_kerb_52 : decode cX6_kerb 52 = .ok (.ifCond .lt 42, 3) := by decide +kernel
theorem dX6_kerb_55 : decode cX6_kerb 55 = .ok (.iload 5, 2) := by decide +kernel
theorem dX6_kerb_57 : decode cX6_kerb 57 = .ok (.bipush (-106), 2) := by decide +kernel
theorem dX6_kerb_59 : decode cX6_kerb 59 = .ok (.if_icmp .ne 17, 3) := by decide +kernel
theorem dX6_kerb_62 : decode cX6_kerb 62 = .ok (.iload 4, 2) := by decide +kernel
theorem dX6_kerb_64 : decode cX6_kerb 64 = .ok (.aload_n 0, 1) := by decide +kernel
theorem dX6_kerb_65 : decode cX6_kerb 65 = .ok (.getfield 7, 3) := by decide +kernel
theorem dX6_kerb_68 : decode cX6_kerb 68 = .ok (.iconst 1, 1) := by decide +kernel
theorem dX6_kerb_69 : decode cX6_kerb 69 = .ok (.iaload, 1) := by decide +kernel
theorem dX6_kerb_70 : decode cX6_kerb 70 = .ok (.if_icmp .gt 24, 3) := by decide +kernel
theorem dX6_kerb_73 : decode cX6_kerb 73 = .ok (.goto 17, 3) := by decide +kernel
theorem dX6_kerb_76 : decode cX6_kerb 76 = .ok (.aload_n 0, 1) := by decide +kernel
theorem dX6_kerb_77 : decode cX6_kerb 77 = .ok (.getfield 7, 3) := by decide +kernel
theorem dX6_kerb_80 : decode cX6_kerb 80 = .ok (.bipush 17, 2) := by decide +kernel
theorem dX6_kerb_82 : decode cX6_kerb 82 = .ok (.iload 5, 2) := by decide +kernel
theorem dX6_kerb_84 : decode cX6_kerb 84 = .ok (.iadd, 1) := by decide +kernel
theorem dX6_kerb_85 : decode cX6_kerb 85 = .ok (.iaload, 1) := by decide +kernel
theorem dX6_kerb_86 : decode cX6_kerb 86 = .ok (.iload_n 1, 1) := by decide +kernel
theorem dX6_kerb_87 : decode cX6_kerb 87 = .ok (.if_icmp .le 7, 3) := by decide +kernel
theorem dX6_kerb_90 : decode cX6_kerb 90 = .ok (.iconst 1, 1) := by decide +kernel
theorem dX6_kerb_91 : decode cX6_kerb 91 = .ok (.goto 4, 3) := by decide +kernel
theorem dX6_kerb_94 : decode cX6_kerb 94 = .ok (.iconst 0, 1) := by decide +kernel
theorem dX6_kerb_95 : decode cX6_kerb 95 = .ok (.istore 6, 2) := by decide +kernel
theorem dX6_kerb_97 : decode cX6_kerb 97 = .ok (.iload_n 2, 1) := by decide +kernel
theorem dX6_kerb_98 : decode cX6_kerb 98 = .ok (.iload 6, 2) := by decide +kernel
theorem dX6_kerb_100 : decode cX6_kerb 100 = .ok (.ifCond .eq 12, 3) := by decide +kernel
theorem dX6_kerb_103 : decode cX6_kerb 103 = .ok (.aload_n 0, 1) := by decide +kernel
theorem dX6_kerb_104 : decode cX6_kerb 104 = .ok (.iload_n 3, 1) := by decide +kernel
theorem dX6_kerb_105 : decode cX6_kerb 105 = .ok (.iconst 3, 1) := by decide +kernel
theorem dX6_kerb_106 : decode cX6_kerb 106 = .ok (.invokevirtual 57, 3) := by decide +kernel
theorem dX6_kerb_109 : decode cX6_kerb 109 = .ok (.goto 4, 3) := by decide +kernel
theorem dX6_kerb_112 : decode cX6_kerb 112 = .ok (.iconst 0, 1) := by decide +kernel
theorem dX6_kerb_113 : decode cX6_kerb 113 = .ok (.iadd, 1) := by decide +kernel
theorem dX6_kerb_114 : decode cX6_kerb 114 = .ok (.istore_n 2, 1) := by decide +kernel
theorem dX6_kerb_115 : decode cX6_kerb 115 = .ok (.iinc 3 1, 3) := by decide +kernel
theorem dX6_kerb_118 : decode cX6_kerb 118 = .ok (.goto (-96), 3) := by decide +kernel
theorem dX6_kerb_121 : decode cX6_kerb 121 = .ok (.iload_n 2, 1) := by decide +kernel
theorem dX6_kerb_122 : decode cX6_kerb 122 = .ok (.ireturn, 1) := by decide +kernel
theorem dX6_ifDelayed_0 : decode cX6_ifDelayed 0 = .ok (.iload_n 1, 1) := by decide +kernel
theorem dX6_ifDelayed_1 : decode cX6_ifDelayed 1 = .ok (.invokestatic 106, 3) := by decide +kernel
theorem dX6_ifDelayed_4 : decode cX6_ifDelayed 4 = .ok (.ifCond .ne 6, 3) := by decide +kernel
theorem dX6_ifDelayed_7 : decode cX6_ifDelayed 7 = .ok (.bipush (-101), 2) := by decide +kernel
theorem dX6_ifDelayed_9 : decode cX6_ifDelayed 9 = .ok (.ireturn, 1) := by decide +kernel
theorem dX6_ifDelayed_10 : decode cX6_ifDelayed 10 = .ok (.iload_n 2, 1) := by decide +kernel
theorem dX6_ifDelayed_11 : decode cX6_ifDelayed 11 = .ok (.bipush (-30), 2) := by decide +kernel
theorem dX6_ifDelayed_13 : decode cX6_ifDelayed 13 = .ok (.sipush 300, 3) := by decide +kernel
theorem dX6_ifDelayed_16 : decode cX6_ifDelayed 16 = .ok (.invokestatic 46, 3) := by decide +kernel
theorem dX6_ifDelayed_19 : decode cX6_ifDelayed 19 = .ok (.ifCond .eq 12, 3) := by decide +kernel
theorem dX6_ifDelayed_22 : decode cX6_ifDelayed 22 = .ok (.iload_n 3, 1) := by decide +kernel
theorem dX6_ifDelayed_23 : decode cX6_ifDelayed 23 = .ok (.iconst 0, 1) := by decide +kernel
theorem dX6_ifDelayed_24 : decode cX6_ifDelayed 24 = .ok (.iconst 2, 1) := by decide +kernel
theorem dX6_ifDelayed_25 : decode cX6_ifDelayed 25 = .ok (.invokestatic 46, 3) := by decide +kernel
theorem dX6_ifDelayed_28 : decode cX6_ifDelayed 28 = .ok (.ifCond .ne 6, 3) := by decide +kernel
theorem dX6_ifDelayed_31 : decode cX6_ifDelayed 31 = .ok (.bipush (-102), 2) := by decide +kernel
theorem dX6_ifDelayed_33 : decode cX6_ifDelayed 33 = .ok (.ireturn, 1) := by decide +kernel
theorem dX6_ifDelayed_34 : decode cX6_ifDelayed 34 = .ok (.aload_n 0, 1) := by decide +kernel
theorem dX6_ifDelayed_35 : decode cX6_ifDelayed 35 = .ok (.getfield 7, 3) := by decide +kernel
theorem dX6_ifDelayed_38 : decode cX6_ifDelayed 38 = .ok (.bipush 11, 2) := by decide +kernel
theorem dX6_ifDelayed_40 : decode cX6_ifDelayed 40 = .ok (.iload_n 1, 1) := by decide +kernel
theorem dX6_ifDelayed_41 : decode cX6_ifDelayed 41 = .ok (.iadd, 1) := by decide +kernel
theorem dX6_ifDelayed_42 : decode cX6_ifDelayed 42 = .ok (.iaload, 1) := by decide +kernel
theorem dX6_ifDelayed_43 : decode cX6_ifDelayed 43 = .ok (.istore 4, 2) := by decide +kernel
theorem dX6_ifDelayed_45 : decode cX6_ifDelayed 45 = .ok (.aload_n 0, 1) := by decide +kernel
theorem dX6_ifDelayed_46 : decode cX6_ifDelayed 46 = .ok (.getfield 7, 3) := by decide +kernel
theorem dX6_ifDelayed_49 : decode cX6_ifDelayed 49 = .ok (.bipush 11, 2) := by decide +kernel
theorem dX6_ifDelayed_51 : decode cX6_ifDelayed 51 = .ok (.iload_n 1, 1) := by decide +kernel
theorem dX6_ifDelayed_52 : decode cX6_ifDelayed 52 = .ok (.iadd, 1) := by decide +kernel
theorem dX6_ifDelayed_53 : decode cX6_ifDelayed 53 = .ok (.iload_n 2, 1) := by decide +kernel
theorem dX6_ifDelayed_54 : decode cX6_ifDelayed 54 = .ok (.iastore, 1) := by decide +kernel
theorem dX6_ifDelayed_55 : decode cX6_ifDelayed 55 = .ok (.aload_n 0, 1) := by decide +kernel
theorem dX6_ifDelayed_56 : decode cX6_ifDelayed 56 = .ok (.invokevirtual 113, 3) := by decide +kernel
theorem dX6_ifDelayed_59 : decode cX6_ifDelayed 59 = .ok (.iload_n 3, 1) := by decide +kernel
theorem dX6_ifDelayed_60 : decode cX6_ifDelayed 60 = .ok (.ifCond .ne 10, 3) := by decide +kernel
theorem dX6_ifDelayed_63 : decode cX6_ifDelayed 63 = .ok (.aload_n 0, 1) := by decide +kernel
theorem dX6_ifDelayed_64 : decode cX6_ifDelayed 64 = .ok (.invokevirtual 116, 3) := by decide +kernel
theorem dX6_ifDelayed_67 : decode cX6_ifDelayed 67 = .ok (.goto 19, 3) := by decide +kernel
theorem dX6_ifDelayed_70 : decode cX6_ifDelayed 70 = .ok (.iload_n 3, 1) := by decide +kernel
theorem dX6_ifDelayed_71 : decode cX6_ifDelayed 71 = .ok (.iconst 1, 1) := by decide +kernel
theorem dX6_ifDelayed_72 : decode cX6_ifDelayed 72 = .ok (.if_icmp .ne 10, 3) := by decide +kernel
theorem dX6_ifDelayed_75 : decode cX6_ifDelayed 75 = .ok (.aload_n 0, 1) := by decide +kernel
theorem dX6_ifDelayed_76 : decode cX6_ifDelayed 76 = .ok (.invokevirtual 160, 3) := by decide +kernel
theorem dX6_ifDelayed_79 : decode cX6_ifDelayed 79 = .ok (.goto 7, 3) := by decide +kernel
theorem dX6_ifDelayed_82 : decode cX6_ifDelayed 82 = .ok (.aload_n 0, 1) := by decide +kernel
theorem dX6_ifDelayed_83 : decode cX6_ifDelayed 83 = .ok (.invokevirtual 172, 3) := by decide +kernel
theorem dX6_ifDelayed_86 : decode cX6_ifDelayed 86 = .ok (.istore 5, 2) := by decide +kernel
theorem dX6_ifDelayed_88 : decode cX6_ifDelayed 88 = .ok (.aload_n 0, 1) := by decide +kernel
theorem dX6_ifDelayed_89 : decode cX6_ifDelayed 89 = .ok (.getfield 7, 3) := by decide +kernel
theorem dX6_ifDelayed_92 : decode cX6_ifDelayed 92 = .ok (.bipush 11, 2) := by decide +kernel
theorem dX6_ifDelayed_94 : decode cX6_ifDelayed 94 = .ok (.iload_n 1, 1) := by decide +kernel
theorem dX6_ifDelayed_95 : decode cX6_ifDelayed 95 = .ok (.iadd, 1) := by decide +kernel
theorem dX6_ifDelayed_96 : decode cX6_ifDelayed 96 = .ok (.iload 4, 2) := by decide +kernel
theorem dX6_ifDelayed_98 : decode cX6_ifDelayed 98 = .ok (.iastore, 1) := by decide +kernel
theorem dX6_ifDelayed_99 : decode cX6_ifDelayed 99 = .ok (.iload 5, 2) := by decide +kernel
theorem dX6_ifDelayed_101 : decode cX6_ifDelayed 101 = .ok (.ireturn, 1) := by decide +kernel
theorem dX6_mostDelay_0 : decode cX6_mostDelay 0 = .ok (.iload_n 1, 1) := by decide +kernel
theorem dX6_mostDelay_1 : decode cX6_mostDelay 1 = .ok (.invokestatic 106, 3) := by decide +kernel
theorem dX6_mostDelay_4 : decode cX6_mostDelay 4 = .ok (.ifCond .ne 6, 3) := by decide +kernel
theorem dX6_mostDelay_7 : decode cX6_mostDelay 7 = .ok (.bipush (-101), 2) := by decide +kernel
theorem dX6_mostDelay_9 : decode cX6_mostDelay 9 = .ok (.ireturn, 1) := by decide +kernel
theorem dX6_mostDelay_10 : decode cX6_mostDelay 10 = .ok (.aload_n 0, 1) := by decide +kernel
theorem dX6_mostDelay_11 : decode cX6_mostDelay 11 = .ok (.invokevirtual 113, 3) := by decide +kernel
theorem dX6_mostDelay_14 : decode cX6_mostDelay 14 = .ok (.aload_n 0, 1) := by decide +kernel
theorem dX6_mostDelay_15 : decode cX6_mostDelay 15 = .ok (.invokevirtual 116, 3) := by decide +kernel
theorem dX6_mostDelay_18 : decode cX6_mostDelay 18 = .ok (.istore_n 2, 1) := by decide +kernel
theorem dX6_mostDelay_19 : decode cX6_mostDelay 19 = .ok (.aload_n 0, 1) := by decide +kernel
theorem dX6_mostDelay_20 : decode cX6_mostDelay 20 = .ok (.getfield 7, 3) := by decide +kernel
theorem dX6_mostDelay_23 : decode cX6_mostDelay 23 = .ok (.bipush 11, 2) := by decide +kernel
theorem dX6_mostDelay_25 : decode cX6_mostDelay 25 = .ok (.iload_n 1, 1) := by decide +kernel
theorem dX6_mostDelay_26 : decode cX6_mostDelay 26 = .ok (.iadd, 1) := by decide +kernel
theorem dX6_mostDelay_27 : decode cX6_mostDelay 27 = .ok (.iaload, 1) := by decide +kernel
theorem dX6_mostDelay_28 : decode cX6_mostDelay 28 = .ok (.istore_n 3, 1) := by decide +kernel
theorem dX6_mostDelay_29 : decode cX6_mostDelay 29 = .ok (.iload_n 3, 1) := by decide +kernel
theorem dX6_mostDelay_30 : decode cX6_mostDelay 30 = .ok (.istore 4, 2) := by decide +kernel
theorem dX6_mostDelay_32 : decode cX6_mostDelay 32 = .ok (.bipush (-30), 2) := by decide +kernel
theorem dX6_mostDelay_34 : decode cX6_mostDelay 34 = .ok (.istore 5, 2) := by decide +kernel
theorem dX6_mostDelay_36 : decode cX6_mostDelay 36 = .ok (.iload 5, 2) := by decide +kernel
theorem dX6_mostDelay_38 : decode cX6_mostDelay 38 = .ok (.sipush 300, 3) := by decide +kernel
theorem dX6_mostDelay_41 : decode cX6_mostDelay 41 = .ok (.if_icmp .gt 48, 3) := by decide +kernel
theorem dX6_mostDelay_44 : decode cX6_mostDelay 44 = .ok (.aload_n 0, 1) := by decide +kernel
theorem dX6_mostDelay_45 : decode cX6_mostDelay 45 = .ok (.getfield 7, 3) := by decide +kernel
theorem dX6_mostDelay_48 : decode cX6_mostDelay 48 = .ok (.bipush 11, 2) := by decide +kernel
theorem dX6_mostDelay_50 : decode cX6_mostDelay 50 = .ok (.iload_n 1, 1) := by decide +kernel
theorem dX6_mostDelay_51 : decode cX6_mostDelay 51 = .ok (.iadd, 1) := by decide +kernel
theorem dX6_mostDelay_52 : decode cX6_mostDelay 52 = .ok (.iload 5, 2) := by decide +kernel
theorem dX6_mostDelay_54 : decode cX6_mostDelay 54 = .ok (.iastore, 1) := by decide +kernel
theorem dX6_mostDelay_55 : decode cX6_mostDelay 55 = .ok (.aload_n 0, 1) := by decide +kernel
theorem dX6_mostDelay_56 : decode cX6_mostDelay 56 = .ok (.invokevirtual 113, 3) := by decide +kernel
theorem dX6_mostDelay_59 : decode cX6_mostDelay 59 = .ok (.iload 5, 2) := by decide +kernel
theorem dX6_mostDelay_61 : decode cX6_mostDelay 61 = .ok (.iload 4, 2) := by decide +kernel
theorem dX6_mostDelay_63 : decode cX6_mostDelay 63 = .ok (.if_icmp .le 16, 3) := by decide +kernel
theorem dX6_mostDelay_66 : decode cX6_mostDelay 66 = .ok (.aload_n 0, 1) := by decide +kernel
theorem dX6_mostDelay_67 : decode cX6_mostDelay 67 = .ok (.invokevirtual 116, 3) := by decide +kernel
theorem dX6_mostDelay_70 : decode cX6_mostDelay 70 = .ok (.iload_n 2, 1) := by decide +kernel
theorem dX6_mostDelay_71 : decode cX6_mostDelay 71 = .ok (.if_icmp .gt 8, 3) := by decide +kernel
theorem dX6_mostDelay_74 : decode cX6_mostDelay 74 = .ok (.iload 5, 2) := by decide +kernel
theorem dX6_mostDelay_76 : decode cX6_mostDelay 76 = .ok (.goto 5, 3) := by decide +kernel
theorem dX6_mostDelay_79 : decode cX6_mostDelay 79 = .ok (.iload 4, 2) := by decide +kernel
theorem dX6_mostDelay_81 : decode cX6_mostDelay 81 = .ok (.istore 4, 2) := by decide +kernel
theorem dX6_mostDelay_83 : decode cX6_mostDelay 83 = .ok (.iinc 5 1, 3) := by decide +kernel
theorem dX6_mostDelay_86 : decode cX6_mostDelay 86 = .ok (.goto (-50), 3) := by decide +kernel
theorem dX6_mostDelay_89 : decode cX6_mostDelay 89 = .ok (.aload_n 0, 1) := by decide +kernel
theorem dX6_mostDelay_90 : decode cX6_mostDelay 90 = .ok (.getfield 7, 3) := by decide +kernel
theorem dX6_mostDelay_93 : decode cX6_mostDelay 93 = .ok (.bipush 11, 2) := by decide +kernel
theorem dX6_mostDelay_95 : decode cX6_mostDelay 95 = .ok (.iload_n 1, 1) := by decide +kernel
theorem dX6_mostDelay_96 : decode cX6_mostDelay 96 = .ok (.iadd, 1) := by decide +kernel
theorem dX6_mostDelay_97 : decode cX6_mostDelay 97 = .ok (.iload_n 3, 1) := by decide +kernel
theorem dX6_mostDelay_98 : decode cX6_mostDelay 98 = .ok (.iastore, 1) := by decide +kernel
theorem dX6_mostDelay_99 : decode cX6_mostDelay 99 = .ok (.iload 4, 2) := by decide +kernel
theorem dX6_mostDelay_101 : decode cX6_mostDelay 101 = .ok (.ireturn, 1) := by decide +kernel
theorem dX6_bestMinute_0 : decode cX6_bestMinute 0 = .ok (.iload_n 1, 1) := by decide +kernel
theorem dX6_bestMinute_1 : decode cX6_bestMinute 1 = .ok (.invokestatic 110, 3) := by decide +kernel
theorem dX6_bestMinute_4 : decode cX6_bestMinute 4 = .ok (.ifCond .ne 6, 3) := by decide +kernel
theorem dX6_bestMinute_7 : decode cX6_bestMinute 7 = .ok (.bipush (-101), 2) := by decide +kernel
theorem dX6_bestMinute_9 : decode cX6_bestMinute 9 = .ok (.ireturn, 1) := by decide +kernel
theorem dX6_bestMinute_10 : decode cX6_bestMinute 10 = .ok (.aload_n 0, 1) := by decide +kernel
theorem dX6_bestMinute_11 : decode cX6_bestMinute 11 = .ok (.getfield 7, 3) := by decide +kernel
theorem dX6_bestMinute_14 : decode cX6_bestMinute 14 = .ok (.bipush 17, 2) := by decide +kernel
theorem dX6_bestMinute_16 : decode cX6_bestMinute 16 = .ok (.iload_n 1, 1) := by decide +kernel
theorem dX6_bestMinute_17 : decode cX6_bestMinute 17 = .ok (.iadd, 1) := by decide +kernel
theorem dX6_bestMinute_18 : decode cX6_bestMinute 18 = .ok (.iaload, 1) := by decide +kernel
theorem dX6_bestMinute_19 : decode cX6_bestMinute 19 = .ok (.istore_n 2, 1) := by decide +kernel
theorem dX6_bestMinute_20 : decode cX6_bestMinute 20 = .ok (.iconst 0, 1) := by decide +kernel
theorem dX6_bestMinute_21 : decode cX6_bestMinute 21 = .ok (.istore_n 3, 1) := by decide +kernel
theorem dX6_bestMinute_22 : decode cX6_bestMinute 22 = .ok (.iconst 0, 1) := by decide +kernel
theorem dX6_bestMinute_23 : decode cX6_bestMinute 23 = .ok (.istore 4, 2) := by decide +kernel
theorem dX6_bestMinute_25 : decode cX6_bestMinute 25 = .ok (.iconst 0, 1) := by decide +kernel
theorem dX6_bestMinute_26 : decode cX6_bestMinute 26 = .ok (.istore 5, 2) := by decide +kernel
theorem dX6_bestMinute_28 : decode cX6_bestMinute 28 = .ok (.iconst 0, 1) := by decide +kernel
theorem dX6_bestMinute_29 : decode cX6_bestMinute 29 = .ok (.istore 6, 2) := by decide +kernel
theorem dX6_bestMinute_31 : decode cX6_bestMinute 31 = .ok (.iload 6, 2) := by decide +kernel
theorem dX6_bestMinute_33 : decode cX6_bestMinute 33 = .ok (.sipush 1500, 3) := by decide +kernel
theorem dX6_bestMinute_36 : decode cX6_bestMinute 36 = .ok (.if_icmp .gt 73, 3) := by decide +kernel
theorem dX6_bestMinute_39 : decode cX6_bestMinute 39 = .ok (.aload_n 0, 1) := by decide +kernel
theorem dX6_bestMinute_40 : decode cX6_bestMinute 40 = .ok (.getfield 7, 3) := by decide +kernel
theorem dX6_bestMinute_43 : decode cX6_bestMinute 43 = .ok (.bipush 17, 2) := by decide +kernel
theorem dX6_bestMinute_45 : decode cX6_bestMinute 45 = .ok (.iload_n 1, 1) := by decide +kernel
theorem dX6_bestMinute_46 : decode cX6_bestMinute 46 = .ok (.iadd, 1) := by decide +kernel
theorem dX6_bestMinute_47 : decode cX6_bestMinute 47 = .ok (.iload 6, 2) := by decide +kernel
theorem dX6_bestMinute_49 : decode cX6_bestMinute 49 = .ok (.iastore, 1) := by decide +kernel
theorem dX6_bestMinute_50 : decode cX6_bestMinute 50 = .ok (.aload_n 0, 1) := by decide +kernel
theorem dX6_bestMinute_51 : decode cX6_bestMinute 51 = .ok (.invokevirtual 113, 3) := by decide +kernel
theorem dX6_bestMinute_54 : decode cX6_bestMinute 54 = .ok (.aload_n 0, 1) := by decide +kernel
theorem dX6_bestMinute_55 : decode cX6_bestMinute 55 = .ok (.invokevirtual 116, 3) := by decide +kernel
theorem dX6_bestMinute_58 : decode cX6_bestMinute 58 = .ok (.istore 7, 2) := by decide +kernel
theorem dX6_bestMinute_60 : decode cX6_bestMinute 60 = .ok (.aload_n 0, 1) := by decide +kernel
theorem dX6_bestMinute_61 : decode cX6_bestMinute 61 = .ok (.invokevirtual 160, 3) := by decide +kernel
theorem dX6_bestMinute_64 : decode cX6_bestMinute 64 = .ok (.istore 8, 2) := by decide +kernel
theorem dX6_bestMinute_66 : decode cX6_bestMinute 66 = .ok (.iload 6, 2) := by decide +kernel
theorem dX6_bestMinute_68 : decode cX6_bestMinute 68 = .ok (.ifCond .eq 24, 3) := by decide +kernel
theorem dX6_bestMinute_71 : decode cX6_bestMinute 71 = .ok (.iload 7, 2) := by decide +kernel
theorem dX6_bestMinute_73 : decode cX6_bestMinute 73 = .ok (.iload 4, 2) := by decide +kernel
theorem dX6_bestMinute_75 : decode cX6_bestMinute 75 = .ok (.if_icmp .lt 17, 3) := by decide +kernel
theorem dX6_bestMinute_78 : decode cX6_bestMinute 78 = .ok (.iload 7, 2) := by decide +kernel
theorem dX6_bestMinute_80 : decode cX6_bestMinute 80 = .ok (.iload 4, 2) := by decide +kernel
theorem dX6_bestMinute_82 : decode cX6_bestMinute 82 = .ok (.if_icmp .ne 21, 3) := by decide +kernel
theorem dX6_bestMinute_85 : decode cX6_bestMinute 85 = .ok (.iload 8, 2) := by decide +kernel
theorem dX6_bestMinute_87 : decode cX6_bestMinute 87 = .ok (.iload 5, 2) := by decide +kernel
theorem dX6_bestMinute_89 : decode cX6_bestMinute 89 = .ok (.if_icmp .ge 14, 3) := by decide +kernel
theorem dX6_bestMinute_92 : decode cX6_bestMinute 92 = .ok (.iload 6, 2) := by decide +kernel
theorem dX6_bestMinute_94 : decode cX6_bestMinute 94 = .ok (.istore_n 3, 1) := by decide +kernel
theorem dX6_bestMinute_95 : decode cX6_bestMinute 95 = .ok (.iload 7, 2) := by decide +kernel
theorem dX6_bestMinute_97 : decode cX6_bestMinute 97 = .ok (.istore 4, 2) := by decide +kernel
theorem dX6_bestMinute_99 : decode cX6_bestMinute 99 = .ok (.iload 8, 2) := by decide +kernel
theorem dX6_bestMinute_101 : decode cX6_bestMinute 101 = .ok (.istore 5, 2) := by decide +kernel
theorem dX6_bestMinute_103 : decode cX6_bestMinute 103 = .ok (.iinc 6 5, 3) := by decide +kernel
theorem dX6_bestMinute_106 : decode cX6_bestMinute 106 = .ok (.goto (-75), 3) := by decide +kernel
theorem dX6_bestMinute_109 : decode cX6_bestMinute 109 = .ok (.aload_n 0, 1) := by decide +kernel
theorem dX6_bestMinute_110 : decode cX6_bestMinute 110 = .ok (.getfield 7, 3) := by decide +kernel
theorem dX6_bestMinute_113 : decode cX6_bestMinute 113 = .ok (.bipush 17, 2) := by decide +kernel
theorem dX6_bestMinute_115 : decode cX6_bestMinute 115 = .ok (.iload_n 1, 1) := by decide +kernel
theorem dX6_bestMinute_116 : decode cX6_bestMinute 116 = .ok (.iadd, 1) := by decide +kernel
theorem dX6_bestMinute_117 : decode cX6_bestMinute 117 = .ok (.iload_n 2, 1) := by decide +kernel
theorem dX6_bestMinute_118 : decode cX6_bestMinute 118 = .ok (.iastore, 1) := by decide +kernel
theorem dX6_bestMinute_119 : decode cX6_bestMinute 119 = .ok (.iload_n 3, 1) := by decide +kernel
theorem dX6_bestMinute_120 : decode cX6_bestMinute 120 = .ok (.ireturn, 1) := by decide +kernel
theorem dX6_fullest_0 : decode cX6_fullest 0 = .ok (.aload_n 0, 1) := by decide +kernel
theorem dX6_fullest_1 : decode cX6_fullest 1 = .ok (.invokevirtual 113, 3) := by decide +kernel
theorem dX6_fullest_4 : decode cX6_fullest 4 = .ok (.bipush (-106), 2) := by decide +kernel
theorem dX6_fullest_6 : decode cX6_fullest 6 = .ok (.istore_n 1, 1) := by decide +kernel
theorem dX6_fullest_7 : decode cX6_fullest 7 = .ok (.iconst 0, 1) := by decide +kernel
theorem dX6_fullest_8 : decode cX6_fullest 8 = .ok (.istore_n 2, 1) := by decide +kernel
theorem dX6_fullest_9 : decode cX6_fullest 9 = .ok (.iload_n 2, 1) := by decide +kernel
theorem dX6_fullest_10 : decode cX6_fullest 10 = .ok (.bipush 8, 2) := by decide +kernel
theorem dX6_fullest_12 : decode cX6_fullest 12 = .ok (.if_icmp .ge 52, 3) := by decide +kernel
theorem dX6_fullest_15 : decode cX6_fullest 15 = .ok (.aload_n 0, 1) := by decide +kernel
theorem dX6_fullest_16 : decode cX6_fullest 16 = .ok (.iload_n 2, 1) := by decide +kernel
theorem dX6_fullest_17 : decode cX6_fullest 17 = .ok (.invokevirtual 138, 3) := by decide +kernel
theorem dX6_fullest_20 : decode cX6_fullest 20 = .ok (.ifCond .le 26, 3) := by decide +kernel
theorem dX6_fullest_23 : decode cX6_fullest 23 = .ok (.iload_n 1, 1) := by decide +kernel
theorem dX6_fullest_24 : decode cX6_fullest 24 = .ok (.bipush (-106), 2) := by decide +kernel
theorem dX6_fullest_26 : decode cX6_fullest 26 = .ok (.if_icmp .eq 16, 3) := by decide +kernel
theorem dX6_fullest_29 : decode cX6_fullest 29 = .ok (.aload_n 0, 1) := by decide +kernel
theorem dX6_fullest_30 : decode cX6_fullest 30 = .ok (.iload_n 2, 1) := by decide +kernel
theorem dX6_fullest_31 : decode cX6_fullest 31 = .ok (.invokevirtual 138, 3) := by decide +kernel
theorem dX6_fullest_34 : decode cX6_fullest 34 = .ok (.aload_n 0, 1) := by decide +kernel
theorem dX6_fullest_35 : decode cX6_fullest 35 = .ok (.iload_n 1, 1) := by decide +kernel
theorem dX6_fullest_36 : decode cX6_fullest 36 = .ok (.invokevirtual 138, 3) := by decide +kernel
theorem dX6_fullest_39 : decode cX6_fullest 39 = .ok (.if_icmp .le 7, 3) := by decide +kernel
theorem dX6_fullest_42 : decode cX6_fullest 42 = .ok (.iconst 1, 1) := by decide +kernel
theorem dX6_fullest_43 : decode cX6_fullest 43 = .ok (.goto 4, 3) := by decide +kernel
theorem dX6_fullest_46 : decode cX6_fullest 46 = .ok (.iconst 0, 1) := by decide +kernel
theorem dX6_fullest_47 : decode cX6_fullest 47 = .ok (.istore_n 3, 1) := by decide +kernel
theorem dX6_fullest_48 : decode cX6_fullest 48 = .ok (.iload_n 3, 1) := by decide +kernel
theorem dX6_fullest_49 : decode cX6_fullest 49 = .ok (.ifCond .eq 7, 3) := by decide +kernel
theorem dX6_fullest_52 : decode cX6_fullest 52 = .ok (.iload_n 2, 1) := by decide +kernel
theorem dX6_fullest_53 : decode cX6_fullest 53 = .ok (.goto 4, 3) := by decide +kernel
theorem dX6_fullest_56 : decode cX6_fullest 56 = .ok (.iload_n 1, 1) := by decide +kernel
theorem dX6_fullest_57 : decode cX6_fullest 57 = .ok (.istore_n 1, 1) := by decide +kernel
theorem dX6_fullest_58 : decode cX6_fullest 58 = .ok (.iinc 2 1, 3) := by decide +kernel
theorem dX6_fullest_61 : decode cX6_fullest 61 = .ok (.goto (-52), 3) := by decide +kernel
theorem dX6_fullest_64 : decode cX6_fullest 64 = .ok (.iload_n 1, 1) := by decide +kernel
theorem dX6_fullest_65 : decode cX6_fullest 65 = .ok (.ireturn, 1) := by decide +kernel
theorem dX6_codeAt_0 : decode cX6_codeAt 0 = .ok (.lload_n 0, 1) := by decide +kernel
theorem dX6_codeAt_1 : decode cX6_codeAt 1 = .ok (.bipush 8, 2) := by decide +kernel
theorem dX6_codeAt_3 : decode cX6_codeAt 3 = .ok (.iload_n 2, 1) := by decide +kernel
theorem dX6_codeAt_4 : decode cX6_codeAt 4 = .ok (.imul, 1) := by decide +kernel
theorem dX6_codeAt_5 : decode cX6_codeAt 5 = .ok (.lushr, 1) := by decide +kernel
theorem dX6_codeAt_6 : decode cX6_codeAt 6 = .ok (.ldc2_w 178, 3) := by decide +kernel
theorem dX6_codeAt_9 : decode cX6_codeAt 9 = .ok (.land, 1) := by decide +kernel
theorem dX6_codeAt_10 : decode cX6_codeAt 10 = .ok (.l2i, 1) := by decide +kernel
theorem dX6_codeAt_11 : decode cX6_codeAt 11 = .ok (.ireturn, 1) := by decide +kernel
theorem dX6_charactersIn_0 : decode cX6_charactersIn 0 = .ok (.iconst 0, 1) := by decide +kernel
theorem dX6_charactersIn_1 : decode cX6_charactersIn 1 = .ok (.istore_n 2, 1) := by decide +kernel
theorem dX6_charactersIn_2 : decode cX6_charactersIn 2 = .ok (.iload_n 2, 1) := by decide +kernel
theorem dX6_charactersIn_3 : decode cX6_charactersIn 3 = .ok (.bipush 8, 2) := by decide +kernel
theorem dX6_charactersIn_5 : decode cX6_charactersIn 5 = .ok (.if_icmp .ge 17, 3) := by decide +kernel
theorem dX6_charactersIn_8 : decode cX6_charactersIn 8 = .ok (.lload_n 0, 1) := by decide +kernel
theorem dX6_charactersIn_9 : decode cX6_charactersIn 9 = .ok (.iload_n 2, 1) := by decide +kernel
theorem dX6_charactersIn_10 : decode cX6_charactersIn 10 = .ok (.invokestatic 180, 3) := by decide +kernel
theorem dX6_charactersIn_13 : decode cX6_charactersIn 13 = .ok (.ifCond .eq 9, 3) := by decide +kernel
theorem dX6_charactersIn_16 : decode cX6_charactersIn 16 = .ok (.iinc 2 1, 3) := by decide +kernel
theorem dX6_charactersIn_19 : decode cX6_charactersIn 19 = .ok (.goto (-17), 3) := by decide +kernel
theorem dX6_charactersIn_22 : decode cX6_charactersIn 22 = .ok (.iload_n 2, 1) := by decide +kernel
theorem dX6_charactersIn_23 : decode cX6_charactersIn 23 = .ok (.bipush 8, 2) := by decide +kernel
theorem dX6_charactersIn_25 : decode cX6_charactersIn 25 = .ok (.if_icmp .eq 14, 3) := by decide +kernel
theorem dX6_charactersIn_28 : decode cX6_charactersIn 28 = .ok (.lload_n 0, 1) := by decide +kernel
theorem dX6_charactersIn_29 : decode cX6_charactersIn 29 = .ok (.bipush 8, 2) := by decide +kernel
theorem dX6_charactersIn_31 : decode cX6_charactersIn 31 = .ok (.iload_n 2, 1) := by decide +kernel
theorem dX6_charactersIn_32 : decode cX6_charactersIn 32 = .ok (.imul, 1) := by decide +kernel
theorem dX6_charactersIn_33 : decode cX6_charactersIn 33 = .ok (.lushr, 1) := by decide +kernel
theorem dX6_charactersIn_34 : decode cX6_charactersIn 34 = .ok (.lconst 0, 1) := by decide +kernel
theorem dX6_charactersIn_35 : decode cX6_charactersIn 35 = .ok (.lcmp, 1) := by decide +kernel
theorem dX6_charactersIn_36 : decode cX6_charactersIn 36 = .ok (.ifCond .ne 7, 3) := by decide +kernel
theorem dX6_charactersIn_39 : decode cX6_charactersIn 39 = .ok (.iconst 1, 1) := by decide +kernel
theorem dX6_charactersIn_40 : decode cX6_charactersIn 40 = .ok (.goto 4, 3) := by decide +kernel
theorem dX6_charactersIn_43 : decode cX6_charactersIn 43 = .ok (.iconst 0, 1) := by decide +kernel
theorem dX6_charactersIn_44 : decode cX6_charactersIn 44 = .ok (.istore_n 3, 1) := by decide +kernel
theorem dX6_charactersIn_45 : decode cX6_charactersIn 45 = .ok (.iconst 0, 1) := by decide +kernel
theorem dX6_charactersIn_46 : decode cX6_charactersIn 46 = .ok (.istore 4, 2) := by decide +kernel
theorem dX6_charactersIn_48 : decode cX6_charactersIn 48 = .ok (.iload 4, 2) := by decide +kernel
theorem dX6_charactersIn_50 : decode cX6_charactersIn 50 = .ok (.iload_n 2, 1) := by decide +kernel
theorem dX6_charactersIn_51 : decode cX6_charactersIn 51 = .ok (.if_icmp .ge 35, 3) := by decide +kernel
theorem dX6_charactersIn_54 : decode cX6_charactersIn 54 = .ok (.iload_n 3, 1) := by decide +kernel
theorem dX6_charactersIn_55 : decode cX6_charactersIn 55 = .ok (.ifCond .eq 23, 3) := by decide +kernel
theorem dX6_charactersIn_58 : decode cX6_charactersIn 58 = .ok (.lload_n 0, 1) := by decide +kernel
theorem dX6_charactersIn_59 : decode cX6_charactersIn 59 = .ok (.iload 4, 2) := by decide +kernel
theorem dX6_charactersIn_61 : decode cX6_charactersIn 61 = .ok (.invokestatic 180, 3) := by decide +kernel
theorem dX6_charactersIn_64 : decode cX6_charactersIn 64 = .ok (.bipush 33, 2) := by decide +kernel
theorem dX6_charactersIn_66 : decode cX6_charactersIn 66 = .ok (.bipush 126, 2) := by decide +kernel
theorem dX6_charactersIn_68 : decode cX6_charactersIn 68 = .ok (.invokestatic 46, 3) := by decide +kernel
theorem dX6_charactersIn_71 : decode cX6_charactersIn 71 = .ok (.ifCond .eq 7, 3) := by decide +kernel
theorem dX6_charactersIn_74 : decode cX6_charactersIn 74 = .ok (.iconst 1, 1) := by decide +kernel
theorem dX6_charactersIn_75 : decode cX6_charactersIn 75 = .ok (.goto 4, 3) := by decide +kernel
theorem dX6_charactersIn_78 : decode cX6_charactersIn 78 = .ok (.iconst 0, 1) := by decide +kernel
theorem dX6_charactersIn_79 : decode cX6_charactersIn 79 = .ok (.istore_n 3, 1) := by decide +kernel
theorem dX6_charactersIn_80 : decode cX6_charactersIn 80 = .ok (.iinc 4 1, 3) := by decide +kernel
theorem dX6_charactersIn_83 : decode cX6_charactersIn 83 = .ok (.goto (-35), 3) := by decide +kernel
theorem dX6_charactersIn_86 : decode cX6_charactersIn 86 = .ok (.iload_n 3, 1) := by decide +kernel
theorem dX6_charactersIn_87 : decode cX6_charactersIn 87 = .ok (.ifCond .eq 7, 3) := by decide +kernel
theorem dX6_charactersIn_90 : decode cX6_charactersIn 90 = .ok (.iload_n 2, 1) := by decide +kernel
theorem dX6_charactersIn_91 : decode cX6_charactersIn 91 = .ok (.goto 4, 3) := by decide +kernel
theorem dX6_charactersIn_94 : decode cX6_charactersIn 94 = .ok (.iconst 0, 1) := by decide +kernel
theorem dX6_charactersIn_95 : decode cX6_charactersIn 95 = .ok (.ireturn, 1) := by decide +kernel
theorem dX6_put_0 : decode cX6_put 0 = .ok (.lload_n 1, 1) := by decide +kernel
theorem dX6_put_1 : decode cX6_put 1 = .ok (.invokestatic 184, 3) := by decide +kernel
theorem dX6_put_4 : decode cX6_put 4 = .ok (.istore_n 3, 1) := by decide +kernel
theorem dX6_put_5 : decode cX6_put 5 = .ok (.iload_n 3, 1) := by decide +kernel
theorem dX6_put_6 : decode cX6_put 6 = .ok (.ifCond .ne 6, 3) := by decide +kernel
theorem dX6_put_9 : decode cX6_put 9 = .ok (.bipush (-102), 2) := by decide +kernel
theorem dX6_put_11 : decode cX6_put 11 = .ok (.ireturn, 1) := by decide +kernel
theorem dX6_put_12 : decode cX6_put 12 = .ok (.aload_n 0, 1) := by decide +kernel
theorem dX6_put_13 : decode cX6_put 13 = .ok (.getfield 175, 3) := by decide +kernel
theorem dX6_put_16 : decode cX6_put 16 = .ok (.iload_n 3, 1) := by decide +kernel
theorem dX6_put_17 : decode cX6_put 17 = .ok (.iadd, 1) := by decide +kernel
theorem dX6_put_18 : decode cX6_put 18 = .ok (.bipush 60, 2) := by decide +kernel
theorem dX6_put_20 : decode cX6_put 20 = .ok (.if_icmp .le 6, 3) := by decide +kernel
theorem dX6_put_23 : decode cX6_put 23 = .ok (.bipush (-104), 2) := by decide +kernel
theorem dX6_put_25 : decode cX6_put 25 = .ok (.ireturn, 1) := by decide +kernel
theorem dX6_put_26 : decode cX6_put 26 = .ok (.iload_n 3, 1) := by decide +kernel
theorem dX6_put_27 : decode cX6_put 27 = .ok (.iconst 1, 1) := by decide +kernel
theorem dX6_put_28 : decode cX6_put 28 = .ok (.isub, 1) := by decide +kernel
theorem dX6_put_29 : decode cX6_put 29 = .ok (.istore 4, 2) := by decide +kernel
theorem dX6_put_31 : decode cX6_put 31 = .ok (.iload 4, 2) := by decide +kernel
theorem dX6_put_33 : decode cX6_put 33 = .ok (.ifCond .lt 34, 3) := by decide +kernel
theorem dX6_put_36 : decode cX6_put 36 = .ok (.aload_n 0, 1) := by decide +kernel
theorem dX6_put_37 : decode cX6_put 37 = .ok (.getfield 22, 3) := by decide +kernel
theorem dX6_put_40 : decode cX6_put 40 = .ok (.aload_n 0, 1) := by decide +kernel
theorem dX6_put_41 : decode cX6_put 41 = .ok (.getfield 175, 3) := by decide +kernel
theorem dX6_put_44 : decode cX6_put 44 = .ok (.lload_n 1, 1) := by decide +kernel
theorem dX6_put_45 : decode cX6_put 45 = .ok (.iload 4, 2) := by decide +kernel
theorem dX6_put_47 : decode cX6_put 47 = .ok (.invokestatic 180, 3) := by decide +kernel
theorem dX6_put_50 : decode cX6_put 50 = .ok (.iastore, 1) := by decide +kernel
theorem dX6_put_51 : decode cX6_put 51 = .ok (.aload_n 0, 1) := by decide +kernel
theorem dX6_put_52 : decode cX6_put 52 = .ok (.dup, 1) := by decide +kernel
theorem dX6_put_53 : decode cX6_put 53 = .ok (.getfield 175, 3) := by decide +kernel
theorem dX6_put_56 : decode cX6_put 56 = .ok (.iconst 1, 1) := by decide +kernel
theorem dX6_put_57 : decode cX6_put 57 = .ok (.iadd, 1) := by decide +kernel
theorem dX6_put_58 : decode cX6_put 58 = .ok (.putfield 175, 3) := by decide +kernel
theorem dX6_put_61 : decode cX6_put 61 = .ok (.iinc 4 (-1), 3) := by decide +kernel
theorem dX6_put_64 : decode cX6_put 64 = .ok (.goto (-33), 3) := by decide +kernel
theorem dX6_put_67 : decode cX6_put 67 = .ok (.aload_n 0, 1) := by decide +kernel
theorem dX6_put_68 : decode cX6_put 68 = .ok (.getfield 175, 3) := by decide +kernel
theorem dX6_put_71 : decode cX6_put 71 = .ok (.ireturn, 1) := by decide +kernel
theorem dX6_wipe_0 : decode cX6_wipe 0 = .ok (.aload_n 0, 1) := by decide +kernel
theorem dX6_wipe_1 : decode cX6_wipe 1 = .ok (.getfield 175, 3) := by decide +kernel
theorem dX6_wipe_4 : decode cX6_wipe 4 = .ok (.istore_n 1, 1) := by decide +kernel
theorem dX6_wipe_5 : decode cX6_wipe 5 = .ok (.aload_n 0, 1) := by decide +kernel
theorem dX6_wipe_6 : decode cX6_wipe 6 = .ok (.iconst 0, 1) := by decide +kernel
theorem dX6_wipe_7 : decode cX6_wipe 7 = .ok (.putfield 175, 3) := by decide +kernel
theorem dX6_wipe_10 : decode cX6_wipe 10 = .ok (.iload_n 1, 1) := by decide +kernel
theorem dX6_wipe_11 : decode cX6_wipe 11 = .ok (.ireturn, 1) := by decide +kernel
theorem dX6_next_0 : decode cX6_next 0 = .ok (.aload_n 0, 1) := by decide +kernel
theorem dX6_next_1 : decode cX6_next 1 = .ok (.getfield 188, 3) := by decide +kernel
theorem dX6_next_4 : decode cX6_next 4 = .ok (.aload_n 0, 1) := by decide +kernel
theorem dX6_next_5 : decode cX6_next 5 = .ok (.getfield 175, 3) := by decide +kernel
theorem dX6_next_8 : decode cX6_next 8 = .ok (.if_icmp .ge 15, 3) := by decide +kernel
theorem dX6_next_11 : decode cX6_next 11 = .ok (.aload_n 0, 1) := by decide +kernel
theorem dX6_next_12 : decode cX6_next 12 = .ok (.getfield 22, 3) := by decide +kernel
theorem dX6_next_15 : decode cX6_next 15 = .ok (.aload_n 0, 1) := by decide +kernel
theorem dX6_next_16 : decode cX6_next 16 = .ok (.getfield 188, 3) := by decide +kernel
theorem dX6_next_19 : decode cX6_next 19 = .ok (.iaload, 1) := by decide +kernel
theorem dX6_next_20 : decode cX6_next 20 = .ok (.goto 4, 3) := by decide +kernel
theorem dX6_next_23 : decode cX6_next 23 = .ok (.iconst 0, 1) := by decide +kernel
theorem dX6_next_24 : decode cX6_next 24 = .ok (.ireturn, 1) := by decide +kernel
theorem dX6_readsSign_0 : decode cX6_readsSign 0 = .ok (.aload_n 0, 1) := by decide +kernel
theorem dX6_readsSign_1 : decode cX6_readsSign 1 = .ok (.invokevirtual 191, 3) := by decide +kernel
theorem dX6_readsSign_4 : decode cX6_readsSign 4 = .ok (.iload_n 2, 1) := by decide +kernel
theorem dX6_readsSign_5 : decode cX6_readsSign 5 = .ok (.iload_n 3, 1) := by decide +kernel
theorem dX6_readsSign_6 : decode cX6_readsSign 6 = .ok (.invokestatic 46, 3) := by decide +kernel
theorem dX6_readsSign_9 : decode cX6_readsSign 9 = .ok (.istore 4, 2) := by decide +kernel
theorem dX6_readsSign_11 : decode cX6_readsSign 11 = .ok (.aload_n 0, 1) := by decide +kernel
theorem dX6_readsSign_12 : decode cX6_readsSign 12 = .ok (.getfield 25, 3) := by decide +kernel
theorem dX6_readsSign_15 : decode cX6_readsSign 15 = .ok (.iload_n 1, 1) := by decide +kernel
theorem dX6_readsSign_16 : decode cX6_readsSign 16 = .ok (.iload 4, 2) := by decide +kernel
theorem dX6_readsSign_18 : decode cX6_readsSign 18 = .ok (.ifCond .eq 12, 3) := by decide +kernel
theorem dX6_readsSign_21 : decode cX6_readsSign 21 = .ok (.aload_n 0, 1) := by decide +kernel
theorem dX6_readsSign_22 : decode cX6_readsSign 22 = .ok (.invokevirtual 191, 3) := by decide +kernel
theorem dX6_readsSign_25 : decode cX6_readsSign 25 = .ok (.iload_n 2, 1) := by decide +kernel
theorem dX6_readsSign_26 : decode cX6_readsSign 26 = .ok (.isub, 1) := by decide +kernel
theorem dX6_readsSign_27 : decode cX6_readsSign 27 = .ok (.goto 9, 3) := by decide +kernel
theorem dX6_readsSign_30 : decode cX6_readsSign 30 = .ok (.aload_n 0, 1) := by decide +kernel
theorem dX6_readsSign_31 : decode cX6_readsSign 31 = .ok (.getfield 25, 3) := by decide +kernel
theorem dX6_readsSign_34 : decode cX6_readsSign 34 = .ok (.iload_n 1, 1) := by decide +kernel
theorem dX6_readsSign_35 : decode cX6_readsSign 35 = .ok (.iaload, 1) := by decide +kernel
theorem dX6_readsSign_36 : decode cX6_readsSign 36 = .ok (.iastore, 1) := by decide +kernel
theorem dX6_readsSign_37 : decode cX6_readsSign 37 = .ok (.aload_n 0, 1) := by decide +kernel
theorem dX6_readsSign_38 : decode cX6_readsSign 38 = .ok (.dup, 1) := by decide +kernel
theorem dX6_readsSign_39 : decode cX6_readsSign 39 = .ok (.getfield 188, 3) := by decide +kernel
theorem dX6_readsSign_42 : decode cX6_readsSign 42 = .ok (.iload 4, 2) := by decide +kernel
theorem dX6_readsSign_44 : decode cX6_readsSign 44 = .ok (.ifCond .eq 7, 3) := by decide +kernel
theorem dX6_readsSign_47 : decode cX6_readsSign 47 = .ok (.iconst 1, 1) := by decide +kernel
theorem dX6_readsSign_48 : decode cX6_readsSign 48 = .ok (.goto 4, 3) := by decide +kernel
theorem dX6_readsSign_51 : decode cX6_readsSign 51 = .ok (.iconst 0, 1) := by decide +kernel
theorem dX6_readsSign_52 : decode cX6_readsSign 52 = .ok (.iadd, 1) := by decide +kernel
theorem dX6_readsSign_53 : decode cX6_readsSign 53 = .ok (.putfield 188, 3) := by decide +kernel
theorem dX6_readsSign_56 : decode cX6_readsSign 56 = .ok (.iload 4, 2) := by decide +kernel
theorem dX6_readsSign_58 : decode cX6_readsSign 58 = .ok (.ireturn, 1) := by decide +kernel
theorem dX6_readsRider_0 : decode cX6_readsRider 0 = .ok (.aload_n 0, 1) := by decide +kernel
theorem dX6_readsRider_1 : decode cX6_readsRider 1 = .ok (.iconst 0, 1) := by decide +kernel
theorem dX6_readsRider_2 : decode cX6_readsRider 2 = .ok (.bipush 48, 2) := by decide +kernel
theorem dX6_readsRider_4 : decode cX6_readsRider 4 = .ok (.bipush 53, 2) := by decide +kernel
theorem dX6_readsRider_6 : decode cX6_readsRider 6 = .ok (.invokevirtual 194, 3) := by decide +kernel
theorem dX6_readsRider_9 : decode cX6_readsRider 9 = .ok (.ifCond .eq 27, 3) := by decide +kernel
theorem dX6_readsRider_12 : decode cX6_readsRider 12 = .ok (.aload_n 0, 1) := by decide +kernel
theorem dX6_readsRider_13 : decode cX6_readsRider 13 = .ok (.iconst 1, 1) := by decide +kernel
theorem dX6_readsRider_14 : decode cX6_readsRider 14 = .ok (.bipush 97, 2) := by decide +kernel
theorem dX6_readsRider_16 : decode cX6_readsRider 16 = .ok (.bipush 102, 2) := by decide +kernel
theorem dX6_readsRider_18 : decode cX6_readsRider 18 = .ok (.invokevirtual 194, 3) := by decide +kernel
theorem dX6_readsRider_21 : decode cX6_readsRider 21 = .ok (.ifCond .eq 15, 3) := by decide +kernel
theorem dX6_readsRider_24 : decode cX6_readsRider 24 = .ok (.aload_n 0, 1) := by decide +kernel
theorem dX6_readsRider_25 : decode cX6_readsRider 25 = .ok (.iconst 2, 1) := by decide +kernel
theorem dX6_readsRider_26 : decode cX6_readsRider 26 = .ok (.bipush 48, 2) := by decide +kernel
theorem dX6_readsRider_28 : decode cX6_readsRider 28 = .ok (.bipush 57, 2) := by decide +kernel
theorem dX6_readsRider_30 : decode cX6_readsRider 30 = .ok (.invokevirtual 194, 3) := by decide +kernel
theorem dX6_readsRider_33 : decode cX6_readsRider 33 = .ok (.ifCond .ne 5, 3) := by decide +kernel
theorem dX6_readsRider_36 : decode cX6_readsRider 36 = .ok (.iconst 0, 1) := by decide +kernel
theorem dX6_readsRider_37 : decode cX6_readsRider 37 = .ok (.ireturn, 1) := by decide +kernel
theorem dX6_readsRider_38 : decode cX6_readsRider 38 = .ok (.aload_n 0, 1) := by decide +kernel
theorem dX6_readsRider_39 : decode cX6_readsRider 39 = .ok (.getfield 25, 3) := by decide +kernel
theorem dX6_readsRider_42 : decode cX6_readsRider 42 = .ok (.iconst 2, 1) := by decide +kernel
theorem dX6_readsRider_43 : decode cX6_readsRider 43 = .ok (.iaload, 1) := by decide +kernel
theorem dX6_readsRider_44 : decode cX6_readsRider 44 = .ok (.ifCond .le 50, 3) := by decide +kernel
theorem dX6_readsRider_47 : decode cX6_readsRider 47 = .ok (.aload_n 0, 1) := by decide +kernel
theorem dX6_readsRider_48 : decode cX6_readsRider 48 = .ok (.invokevirtual 191, 3) := by decide +kernel
theorem dX6_readsRider_51 : decode cX6_readsRider 51 = .ok (.bipush 48, 2) := by decide +kernel
theorem dX6_readsRider_53 : decode cX6_readsRider 53 = .ok (.bipush 57, 2) := by decide +kernel
theorem dX6_readsRider_55 : decode cX6_readsRider 55 = .ok (.invokestatic 46, 3) := by decide +kernel
theorem dX6_readsRider_58 : decode cX6_readsRider 58 = .ok (.ifCond .eq 36, 3) := by decide +kernel
theorem dX6_readsRider_61 : decode cX6_readsRider 61 = .ok (.aload_n 0, 1) := by decide +kernel
theorem dX6_readsRider_62 : decode cX6_readsRider 62 = .ok (.getfield 25, 3) := by decide +kernel
theorem dX6_readsRider_65 : decode cX6_readsRider 65 = .ok (.iconst 2, 1) := by decide +kernel
theorem dX6_readsRider_66 : decode cX6_readsRider 66 = .ok (.bipush 10, 2) := by decide +kernel
theorem dX6_readsRider_68 : decode cX6_readsRider 68 = .ok (.aload_n 0, 1) := by decide +kernel
theorem dX6_readsRider_69 : decode cX6_readsRider 69 = .ok (.getfield 25, 3) := by decide +kernel
theorem dX6_readsRider_72 : decode cX6_readsRider 72 = .ok (.iconst 2, 1) := by decide +kernel
theorem dX6_readsRider_73 : decode cX6_readsRider 73 = .ok (.iaload, 1) := by decide +kernel
theorem dX6_readsRider_74 : decode cX6_readsRider 74 = .ok (.imul, 1) := by decide +kernel
theorem dX6_readsRider_75 : decode cX6_readsRider 75 = .ok (.aload_n 0, 1) := by decide +kernel
theorem dX6_readsRider_76 : decode cX6_readsRider 76 = .ok (.invokevirtual 191, 3) := by decide +kernel
theorem dX6_readsRider_79 : decode cX6_readsRider 79 = .ok (.iadd, 1) := by decide +kernel
theorem dX6_readsRider_80 : decode cX6_readsRider 80 = .ok (.bipush 48, 2) := by decide +kernel
theorem dX6_readsRider_82 : decode cX6_readsRider 82 = .ok (.isub, 1) := by decide +kernel
theorem dX6_readsRider_83 : decode cX6_readsRider 83 = .ok (.iastore, 1) := by decide +kernel
theorem dX6_readsRider_84 : decode cX6_readsRider 84 = .ok (.aload_n 0, 1) := by decide +kernel
theorem dX6_readsRider_85 : decode cX6_readsRider 85 = .ok (.dup, 1) := by decide +kernel
theorem dX6_readsRider_86 : decode cX6_readsRider 86 = .ok (.getfield 188, 3) := by decide +kernel
theorem dX6_readsRider_89 : decode cX6_readsRider 89 = .ok (.iconst 1, 1) := by decide +kernel
theorem dX6_readsRider_90 : decode cX6_readsRider 90 = .ok (.iadd, 1) := by decide +kernel
theorem dX6_readsRider_91 : decode cX6_readsRider 91 = .ok (.putfield 188, 3) := by decide +kernel
theorem dX6_readsRider_94 : decode cX6_readsRider 94 = .ok (.aload_n 0, 1) := by decide +kernel
theorem dX6_readsRider_95 : decode cX6_readsRider 95 = .ok (.getfield 25, 3) := by decide +kernel
theorem dX6_readsRider_98 : decode cX6_readsRider 98 = .ok (.iconst 3, 1) := by decide +kernel
theorem dX6_readsRider_99 : decode cX6_readsRider 99 = .ok (.iconst 1, 1) := by decide +kernel
theorem dX6_readsRider_100 : decode cX6_readsRider 100 = .ok (.iastore, 1) := by decide +kernel
theorem dX6_readsRider_101 : decode cX6_readsRider 101 = .ok (.aload_n 0, 1) := by decide +kernel
theorem dX6_readsRider_102 : decode cX6_readsRider 102 = .ok (.invokevirtual 191, 3) := by decide +kernel
theorem dX6_readsRider_105 : decode cX6_readsRider 105 = .ok (.bipush 120, 2) := by decide +kernel
theorem dX6_readsRider_107 : decode cX6_readsRider 107 = .ok (.if_icmp .eq 5, 3) := by decide +kernel
theorem dX6_readsRider_110 : decode cX6_readsRider 110 = .ok (.iconst 1, 1) := by decide +kernel
theorem dX6_readsRider_111 : decode cX6_readsRider 111 = .ok (.ireturn, 1) := by decide +kernel
theorem dX6_readsRider_112 : decode cX6_readsRider 112 = .ok (.aload_n 0, 1) := by decide +kernel
theorem dX6_readsRider_113 : decode cX6_readsRider 113 = .ok (.dup, 1) := by decide +kernel
theorem dX6_readsRider_114 : decode cX6_readsRider 114 = .ok (.getfield 188, 3) := by decide +kernel
theorem dX6_readsRider_117 : decode cX6_readsRider 117 = .ok (.iconst 1, 1) := by decide +kernel
theorem dX6_readsRider_118 : decode cX6_readsRider 118 = .ok (.iadd, 1) := by decide +kernel
theorem dX6_readsRider_119 : decode cX6_readsRider 119 = .ok (.putfield 188, 3) := by decide +kernel
theorem dX6_readsRider_122 : decode cX6_readsRider 122 = .ok (.aload_n 0, 1) := by decide +kernel
theorem dX6_readsRider_123 : decode cX6_readsRider 123 = .ok (.iconst 3, 1) := by decide +kernel
theorem dX6_readsRider_124 : decode cX6_readsRider 124 = .ok (.bipush 49, 2) := by decide +kernel
theorem dX6_readsRider_126 : decode cX6_readsRider 126 = .ok (.bipush 52, 2) := by decide +kernel
theorem dX6_readsRider_128 : decode cX6_readsRider 128 = .ok (.invokevirtual 194, 3) := by decide +kernel
theorem dX6_readsRider_131 : decode cX6_readsRider 131 = .ok (.istore_n 1, 1) := by decide +kernel
theorem dX6_readsRider_132 : decode cX6_readsRider 132 = .ok (.aload_n 0, 1) := by decide +kernel
theorem dX6_readsRider_133 : decode cX6_readsRider 133 = .ok (.getfield 25, 3) := by decide +kernel
theorem dX6_readsRider_136 : decode cX6_readsRider 136 = .ok (.iconst 3, 1) := by decide +kernel
theorem dX6_readsRider_137 : decode cX6_readsRider 137 = .ok (.dup2, 1) := by decide +kernel
theorem dX6_readsRider_138 : decode cX6_readsRider 138 = .ok (.iaload, 1) := by decide +kernel
theorem dX6_readsRider_139 : decode cX6_readsRider 139 = .ok (.iconst 1, 1) := by decide +kernel
theorem dX6_readsRider_140 : decode cX6_readsRider 140 = .ok (.iadd, 1) := by decide +kernel
theorem dX6_readsRider_141 : decode cX6_readsRider 141 = .ok (.iastore, 1) := by decide +kernel
theorem dX6_readsRider_142 : decode cX6_readsRider 142 = .ok (.iload_n 1, 1) := by decide +kernel
theorem dX6_readsRider_143 : decode cX6_readsRider 143 = .ok (.ireturn, 1) := by decide +kernel
theorem dX6_findFault_0 : decode cX6_findFault 0 = .ok (.aload_n 0, 1) := by decide +kernel
theorem dX6_findFault_1 : decode cX6_findFault 1 = .ok (.iconst 0, 1) := by decide +kernel
theorem dX6_findFault_2 : decode cX6_findFault 2 = .ok (.putfield 188, 3) := by decide +kernel
theorem dX6_findFault_5 : decode cX6_findFault 5 = .ok (.aload_n 0, 1) := by decide +kernel
theorem dX6_findFault_6 : decode cX6_findFault 6 = .ok (.invokevirtual 197, 3) := by decide +kernel
theorem dX6_findFault_9 : decode cX6_findFault 9 = .ok (.ifCond .eq 44, 3) := by decide +kernel
theorem dX6_findFault_12 : decode cX6_findFault 12 = .ok (.aload_n 0, 1) := by decide +kernel
theorem dX6_findFault_13 : decode cX6_findFault 13 = .ok (.getfield 188, 3) := by decide +kernel
theorem dX6_findFault_16 : decode cX6_findFault 16 = .ok (.aload_n 0, 1) := by decide +kernel
theorem dX6_findFault_17 : decode cX6_findFault 17 = .ok (.getfield 175, 3) := by decide +kernel
theorem dX6_findFault_20 : decode cX6_findFault 20 = .ok (.if_icmp .ne 6, 3) := by decide +kernel
end
section
theorem dX6_findFault_23 : decode cX6_findFault 23 = .ok (.bipush (-106), 2) := by decide +kernel
theorem dX6_findFault_25 : decode cX6_findFault 25 = .ok (.ireturn, 1) := by decide +kernel
theorem dX6_findFault_26 : decode cX6_findFault 26 = .ok (.aload_n 0, 1) := by decide +kernel
theorem dX6_findFault_27 : decode cX6_findFault 27 = .ok (.invokevirtual 191, 3) := by decide +kernel
theorem dX6_findFault_30 : decode cX6_findFault 30 = .ok (.bipush 44, 2) := by decide +kernel
theorem dX6_findFault_32 : decode cX6_findFault 32 = .ok (.if_icmp .eq 8, 3) := by decide +kernel
theorem dX6_findFault_35 : decode cX6_findFault 35 = .ok (.aload_n 0, 1) := by decide +kernel
theorem dX6_findFault_36 : decode cX6_findFault 36 = .ok (.getfield 188, 3) := by decide +kernel
theorem dX6_findFault_39 : decode cX6_findFault 39 = .ok (.ireturn, 1) := by decide +kernel
theorem dX6_findFault_40 : decode cX6_findFault 40 = .ok (.aload_n 0, 1) := by decide +kernel
theorem dX6_findFault_41 : decode cX6_findFault 41 = .ok (.dup, 1) := by decide +kernel
theorem dX6_findFault_42 : decode cX6_findFault 42 = .ok (.getfield 188, 3) := by decide +kernel
theorem dX6_findFault_45 : decode cX6_findFault 45 = .ok (.iconst 1, 1) := by decide +kernel
theorem dX6_findFault_46 : decode cX6_findFault 46 = .ok (.iadd, 1) := by decide +kernel
theorem dX6_findFault_47 : decode cX6_findFault 47 = .ok (.putfield 188, 3) := by decide +kernel
theorem dX6_findFault_50 : decode cX6_findFault 50 = .ok (.goto (-45), 3) := by decide +kernel
theorem dX6_findFault_53 : decode cX6_findFault 53 = .ok (.aload_n 0, 1) := by decide +kernel
theorem dX6_findFault_54 : decode cX6_findFault 54 = .ok (.getfield 188, 3) := by decide +kernel
theorem dX6_findFault_57 : decode cX6_findFault 57 = .ok (.ireturn, 1) := by decide +kernel
theorem dX6_ridersOfPad_0 : decode cX6_ridersOfPad 0 = .ok (.iconst 1, 1) := by decide +kernel
theorem dX6_ridersOfPad_1 : decode cX6_ridersOfPad 1 = .ok (.istore_n 1, 1) := by decide +kernel
theorem dX6_ridersOfPad_2 : decode cX6_ridersOfPad 2 = .ok (.iconst 0, 1) := by decide +kernel
theorem dX6_ridersOfPad_3 : decode cX6_ridersOfPad 3 = .ok (.istore_n 2, 1) := by decide +kernel
theorem dX6_ridersOfPad_4 : decode cX6_ridersOfPad 4 = .ok (.iload_n 2, 1) := by decide +kernel
theorem dX6_ridersOfPad_5 : decode cX6_ridersOfPad 5 = .ok (.aload_n 0, 1) := by decide +kernel
theorem dX6_ridersOfPad_6 : decode cX6_ridersOfPad 6 = .ok (.getfield 175, 3) := by decide +kernel
theorem dX6_ridersOfPad_9 : decode cX6_ridersOfPad 9 = .ok (.if_icmp .ge 28, 3) := by decide +kernel
theorem dX6_ridersOfPad_12 : decode cX6_ridersOfPad 12 = .ok (.iload_n 1, 1) := by decide +kernel
theorem dX6_ridersOfPad_13 : decode cX6_ridersOfPad 13 = .ok (.aload_n 0, 1) := by decide +kernel
theorem dX6_ridersOfPad_14 : decode cX6_ridersOfPad 14 = .ok (.getfield 22, 3) := by decide +kernel
theorem dX6_ridersOfPad_17 : decode cX6_ridersOfPad 17 = .ok (.iload_n 2, 1) := by decide +kernel
theorem dX6_ridersOfPad_18 : decode cX6_ridersOfPad 18 = .ok (.iaload, 1) := by decide +kernel
theorem dX6_ridersOfPad_19 : decode cX6_ridersOfPad 19 = .ok (.bipush 44, 2) := by decide +kernel
theorem dX6_ridersOfPad_21 : decode cX6_ridersOfPad 21 = .ok (.if_icmp .ne 7, 3) := by decide +kernel
theorem dX6_ridersOfPad_24 : decode cX6_ridersOfPad 24 = .ok (.iconst 1, 1) := by decide +kernel
theorem dX6_ridersOfPad_25 : decode cX6_ridersOfPad 25 = .ok (.goto 4, 3) := by decide +kernel
theorem dX6_ridersOfPad_28 : decode cX6_ridersOfPad 28 = .ok (.iconst 0, 1) := by decide +kernel
theorem dX6_ridersOfPad_29 : decode cX6_ridersOfPad 29 = .ok (.iadd, 1) := by decide +kernel
theorem dX6_ridersOfPad_30 : decode cX6_ridersOfPad 30 = .ok (.istore_n 1, 1) := by decide +kernel
theorem dX6_ridersOfPad_31 : decode cX6_ridersOfPad 31 = .ok (.iinc 2 1, 3) := by decide +kernel
theorem dX6_ridersOfPad_34 : decode cX6_ridersOfPad 34 = .ok (.goto (-30), 3) := by decide +kernel
theorem dX6_ridersOfPad_37 : decode cX6_ridersOfPad 37 = .ok (.iload_n 1, 1) := by decide +kernel
theorem dX6_ridersOfPad_38 : decode cX6_ridersOfPad 38 = .ok (.ireturn, 1) := by decide +kernel
theorem dX6_read_0 : decode cX6_read 0 = .ok (.aload_n 0, 1) := by decide +kernel
theorem dX6_read_1 : decode cX6_read 1 = .ok (.invokevirtual 201, 3) := by decide +kernel
theorem dX6_read_4 : decode cX6_read 4 = .ok (.bipush (-106), 2) := by decide +kernel
theorem dX6_read_6 : decode cX6_read 6 = .ok (.if_icmp .eq 6, 3) := by decide +kernel
theorem dX6_read_9 : decode cX6_read 9 = .ok (.bipush (-103), 2) := by decide +kernel
theorem dX6_read_11 : decode cX6_read 11 = .ok (.ireturn, 1) := by decide +kernel
theorem dX6_read_12 : decode cX6_read 12 = .ok (.aload_n 0, 1) := by decide +kernel
theorem dX6_read_13 : decode cX6_read 13 = .ok (.getfield 7, 3) := by decide +kernel
theorem dX6_read_16 : decode cX6_read 16 = .ok (.bipush 33, 2) := by decide +kernel
theorem dX6_read_18 : decode cX6_read 18 = .ok (.iaload, 1) := by decide +kernel
theorem dX6_read_19 : decode cX6_read 19 = .ok (.aload_n 0, 1) := by decide +kernel
theorem dX6_read_20 : decode cX6_read 20 = .ok (.invokevirtual 204, 3) := by decide +kernel
theorem dX6_read_23 : decode cX6_read 23 = .ok (.iadd, 1) := by decide +kernel
theorem dX6_read_24 : decode cX6_read 24 = .ok (.bipush 24, 2) := by decide +kernel
theorem dX6_read_26 : decode cX6_read 26 = .ok (.if_icmp .le 6, 3) := by decide +kernel
theorem dX6_read_29 : decode cX6_read 29 = .ok (.bipush (-104), 2) := by decide +kernel
theorem dX6_read_31 : decode cX6_read 31 = .ok (.ireturn, 1) := by decide +kernel
theorem dX6_read_32 : decode cX6_read 32 = .ok (.aload_n 0, 1) := by decide +kernel
theorem dX6_read_33 : decode cX6_read 33 = .ok (.invokevirtual 54, 3) := by decide +kernel
theorem dX6_read_36 : decode cX6_read 36 = .ok (.aload_n 0, 1) := by decide +kernel
theorem dX6_read_37 : decode cX6_read 37 = .ok (.iconst 0, 1) := by decide +kernel
theorem dX6_read_38 : decode cX6_read 38 = .ok (.putfield 188, 3) := by decide +kernel
theorem dX6_read_41 : decode cX6_read 41 = .ok (.aload_n 0, 1) := by decide +kernel
theorem dX6_read_42 : decode cX6_read 42 = .ok (.getfield 188, 3) := by decide +kernel
theorem dX6_read_45 : decode cX6_read 45 = .ok (.aload_n 0, 1) := by decide +kernel
theorem dX6_read_46 : decode cX6_read 46 = .ok (.getfield 175, 3) := by decide +kernel
theorem dX6_read_49 : decode cX6_read 49 = .ok (.if_icmp .ge 51, 3) := by decide +kernel
theorem dX6_read_52 : decode cX6_read 52 = .ok (.aload_n 0, 1) := by decide +kernel
theorem dX6_read_53 : decode cX6_read 53 = .ok (.invokevirtual 197, 3) := by decide +kernel
theorem dX6_read_56 : decode cX6_read 56 = .ok (.ifCond .eq 44, 3) := by decide +kernel
theorem dX6_read_59 : decode cX6_read 59 = .ok (.aload_n 0, 1) := by decide +kernel
theorem dX6_read_60 : decode cX6_read 60 = .ok (.aload_n 0, 1) := by decide +kernel
theorem dX6_read_61 : decode cX6_read 61 = .ok (.getfield 25, 3) := by decide +kernel
theorem dX6_read_64 : decode cX6_read 64 = .ok (.iconst 0, 1) := by decide +kernel
theorem dX6_read_65 : decode cX6_read 65 = .ok (.iaload, 1) := by decide +kernel
theorem dX6_read_66 : decode cX6_read 66 = .ok (.aload_n 0, 1) := by decide +kernel
theorem dX6_read_67 : decode cX6_read 67 = .ok (.getfield 25, 3) := by decide +kernel
theorem dX6_read_70 : decode cX6_read 70 = .ok (.iconst 1, 1) := by decide +kernel
theorem dX6_read_71 : decode cX6_read 71 = .ok (.iaload, 1) := by decide +kernel
theorem dX6_read_72 : decode cX6_read 72 = .ok (.aload_n 0, 1) := by decide +kernel
theorem dX6_read_73 : decode cX6_read 73 = .ok (.getfield 25, 3) := by decide +kernel
theorem dX6_read_76 : decode cX6_read 76 = .ok (.iconst 2, 1) := by decide +kernel
theorem dX6_read_77 : decode cX6_read 77 = .ok (.iaload, 1) := by decide +kernel
theorem dX6_read_78 : decode cX6_read 78 = .ok (.aload_n 0, 1) := by decide +kernel
theorem dX6_read_79 : decode cX6_read 79 = .ok (.getfield 25, 3) := by decide +kernel
theorem dX6_read_82 : decode cX6_read 82 = .ok (.iconst 3, 1) := by decide +kernel
theorem dX6_read_83 : decode cX6_read 83 = .ok (.iaload, 1) := by decide +kernel
theorem dX6_read_84 : decode cX6_read 84 = .ok (.invokevirtual 119, 3) := by decide +kernel
theorem dX6_read_87 : decode cX6_read 87 = .ok (.aload_n 0, 1) := by decide +kernel
theorem dX6_read_88 : decode cX6_read 88 = .ok (.dup, 1) := by decide +kernel
theorem dX6_read_89 : decode cX6_read 89 = .ok (.getfield 188, 3) := by decide +kernel
theorem dX6_read_92 : decode cX6_read 92 = .ok (.iconst 1, 1) := by decide +kernel
theorem dX6_read_93 : decode cX6_read 93 = .ok (.iadd, 1) := by decide +kernel
theorem dX6_read_94 : decode cX6_read 94 = .ok (.putfield 188, 3) := by decide +kernel
theorem dX6_read_97 : decode cX6_read 97 = .ok (.goto (-56), 3) := by decide +kernel
theorem dX6_read_100 : decode cX6_read 100 = .ok (.aload_n 0, 1) := by decide +kernel
theorem dX6_read_101 : decode cX6_read 101 = .ok (.iconst 0, 1) := by decide +kernel
theorem dX6_read_102 : decode cX6_read 102 = .ok (.putfield 175, 3) := by decide +kernel
theorem dX6_read_105 : decode cX6_read 105 = .ok (.aload_n 0, 1) := by decide +kernel
theorem dX6_read_106 : decode cX6_read 106 = .ok (.getfield 7, 3) := by decide +kernel
theorem dX6_read_109 : decode cX6_read 109 = .ok (.bipush 33, 2) := by decide +kernel
theorem dX6_read_111 : decode cX6_read 111 = .ok (.iaload, 1) := by decide +kernel
theorem dX6_read_112 : decode cX6_read 112 = .ok (.ireturn, 1) := by decide +kernel
theorem dX6_fault_0 : decode cX6_fault 0 = .ok (.aload_n 0, 1) := by decide +kernel
theorem dX6_fault_1 : decode cX6_fault 1 = .ok (.invokevirtual 201, 3) := by decide +kernel
theorem dX6_fault_4 : decode cX6_fault 4 = .ok (.ireturn, 1) := by decide +kernel
theorem dJ6_bitCount_0f7a4_0 : decode cJ6_bitCount_0f7a4 0 = .ok (.iload_n 0, 1) := by decide +kernel
theorem dJ6_bitCount_0f7a4_1 : decode cJ6_bitCount_0f7a4 1 = .ok (.iload_n 0, 1) := by decide +kernel
theorem dJ6_bitCount_0f7a4_2 : decode cJ6_bitCount_0f7a4 2 = .ok (.iconst 1, 1) := by decide +kernel
theorem dJ6_bitCount_0f7a4_3 : decode cJ6_bitCount_0f7a4 3 = .ok (.iushr, 1) := by decide +kernel
theorem dJ6_bitCount_0f7a4_4 : decode cJ6_bitCount_0f7a4 4 = .ok (.ldc_w 265, 3) := by decide +kernel
theorem dJ6_bitCount_0f7a4_7 : decode cJ6_bitCount_0f7a4 7 = .ok (.iand, 1) := by decide +kernel
theorem dJ6_bitCount_0f7a4_8 : decode cJ6_bitCount_0f7a4 8 = .ok (.isub, 1) := by decide +kernel
theorem dJ6_bitCount_0f7a4_9 : decode cJ6_bitCount_0f7a4 9 = .ok (.istore_n 0, 1) := by decide +kernel
theorem dJ6_bitCount_0f7a4_10 : decode cJ6_bitCount_0f7a4 10 = .ok (.iload_n 0, 1) := by decide +kernel
theorem dJ6_bitCount_0f7a4_11 : decode cJ6_bitCount_0f7a4 11 = .ok (.ldc_w 266, 3) := by decide +kernel
theorem dJ6_bitCount_0f7a4_14 : decode cJ6_bitCount_0f7a4 14 = .ok (.iand, 1) := by decide +kernel
theorem dJ6_bitCount_0f7a4_15 : decode cJ6_bitCount_0f7a4 15 = .ok (.iload_n 0, 1) := by decide +kernel
theorem dJ6_bitCount_0f7a4_16 : decode cJ6_bitCount_0f7a4 16 = .ok (.iconst 2, 1) := by decide +kernel
theorem dJ6_bitCount_0f7a4_17 : decode cJ6_bitCount_0f7a4 17 = .ok (.iushr, 1) := by decide +kernel
theorem dJ6_bitCount_0f7a4_18 : decode cJ6_bitCount_0f7a4 18 = .ok (.ldc_w 266, 3) := by decide +kernel
theorem dJ6_bitCount_0f7a4_21 : decode cJ6_bitCount_0f7a4 21 = .ok (.iand, 1) := by decide +kernel
theorem dJ6_bitCount_0f7a4_22 : decode cJ6_bitCount_0f7a4 22 = .ok (.iadd, 1) := by decide +kernel
theorem dJ6_bitCount_0f7a4_23 : decode cJ6_bitCount_0f7a4 23 = .ok (.istore_n 0, 1) := by decide +kernel
theorem dJ6_bitCount_0f7a4_24 : decode cJ6_bitCount_0f7a4 24 = .ok (.iload_n 0, 1) := by decide +kernel
theorem dJ6_bitCount_0f7a4_25 : decode cJ6_bitCount_0f7a4 25 = .ok (.iload_n 0, 1) := by decide +kernel
theorem dJ6_bitCount_0f7a4_26 : decode cJ6_bitCount_0f7a4 26 = .ok (.iconst 4, 1) := by decide +kernel
theorem dJ6_bitCount_0f7a4_27 : decode cJ6_bitCount_0f7a4 27 = .ok (.iushr, 1) := by decide +kernel
theorem dJ6_bitCount_0f7a4_28 : decode cJ6_bitCount_0f7a4 28 = .ok (.iadd, 1) := by decide +kernel
theorem dJ6_bitCount_0f7a4_29 : decode cJ6_bitCount_0f7a4 29 = .ok (.ldc_w 267, 3) := by decide +kernel
theorem dJ6_bitCount_0f7a4_32 : decode cJ6_bitCount_0f7a4 32 = .ok (.iand, 1) := by decide +kernel
theorem dJ6_bitCount_0f7a4_33 : decode cJ6_bitCount_0f7a4 33 = .ok (.istore_n 0, 1) := by decide +kernel
theorem dJ6_bitCount_0f7a4_34 : decode cJ6_bitCount_0f7a4 34 = .ok (.iload_n 0, 1) := by decide +kernel
theorem dJ6_bitCount_0f7a4_35 : decode cJ6_bitCount_0f7a4 35 = .ok (.iload_n 0, 1) := by decide +kernel
theorem dJ6_bitCount_0f7a4_36 : decode cJ6_bitCount_0f7a4 36 = .ok (.bipush 8, 2) := by decide +kernel
theorem dJ6_bitCount_0f7a4_38 : decode cJ6_bitCount_0f7a4 38 = .ok (.iushr, 1) := by decide +kernel
theorem dJ6_bitCount_0f7a4_39 : decode cJ6_bitCount_0f7a4 39 = .ok (.iadd, 1) := by decide +kernel
theorem dJ6_bitCount_0f7a4_40 : decode cJ6_bitCount_0f7a4 40 = .ok (.istore_n 0, 1) := by decide +kernel
theorem dJ6_bitCount_0f7a4_41 : decode cJ6_bitCount_0f7a4 41 = .ok (.iload_n 0, 1) := by decide +kernel
theorem dJ6_bitCount_0f7a4_42 : decode cJ6_bitCount_0f7a4 42 = .ok (.iload_n 0, 1) := by decide +kernel
theorem dJ6_bitCount_0f7a4_43 : decode cJ6_bitCount_0f7a4 43 = .ok (.bipush 16, 2) := by decide +kernel
theorem dJ6_bitCount_0f7a4_45 : decode cJ6_bitCount_0f7a4 45 = .ok (.iushr, 1) := by decide +kernel
theorem dJ6_bitCount_0f7a4_46 : decode cJ6_bitCount_0f7a4 46 = .ok (.iadd, 1) := by decide +kernel
theorem dJ6_bitCount_0f7a4_47 : decode cJ6_bitCount_0f7a4 47 = .ok (.istore_n 0, 1) := by decide +kernel
theorem dJ6_bitCount_0f7a4_48 : decode cJ6_bitCount_0f7a4 48 = .ok (.iload_n 0, 1) := by decide +kernel
theorem dJ6_bitCount_0f7a4_49 : decode cJ6_bitCount_0f7a4 49 = .ok (.bipush 63, 2) := by decide +kernel
theorem dJ6_bitCount_0f7a4_51 : decode cJ6_bitCount_0f7a4 51 = .ok (.iand, 1) := by decide +kernel
theorem dJ6_bitCount_0f7a4_52 : decode cJ6_bitCount_0f7a4 52 = .ok (.ireturn, 1) := by decide +kernel
theorem dJ9_max_7cf53_0 : decode cJ9_max_7cf53 0 = .ok (.iload_n 0, 1) := by decide +kernel
theorem dJ9_max_7cf53_1 : decode cJ9_max_7cf53 1 = .ok (.iload_n 1, 1) := by decide +kernel
theorem dJ9_max_7cf53_2 : decode cJ9_max_7cf53 2 = .ok (.if_icmp .lt 7, 3) := by decide +kernel
theorem dJ9_max_7cf53_5 : decode cJ9_max_7cf53 5 = .ok (.iload_n 0, 1) := by decide +kernel
theorem dJ9_max_7cf53_6 : decode cJ9_max_7cf53 6 = .ok (.goto 4, 3) := by decide +kernel
theorem dJ9_max_7cf53_9 : decode cJ9_max_7cf53 9 = .ok (.iload_n 1, 1) := by decide +kernel
theorem dJ9_max_7cf53_10 : decode cJ9_max_7cf53 10 = .ok (.ireturn, 1) := by decide +kernel
theorem dL_law_0 : decode cL_law 0 = .ok (.new 7, 3) := by decide +kernel
theorem dL_law_3 : decode cL_law 3 = .ok (.dup, 1) := by decide +kernel
theorem dL_law_4 : decode cL_law 4 = .ok (.invokespecial 9, 3) := by decide +kernel
theorem dL_law_7 : decode cL_law 7 = .ok (.astore_n 1, 1) := by decide +kernel
theorem dL_law_8 : decode cL_law 8 = .ok (.new 10, 3) := by decide +kernel
theorem dL_law_11 : decode cL_law 11 = .ok (.dup, 1) := by decide +kernel
theorem dL_law_12 : decode cL_law 12 = .ok (.invokespecial 12, 3) := by decide +kernel
theorem dL_law_15 : decode cL_law 15 = .ok (.astore_n 2, 1) := by decide +kernel
theorem dL_law_16 : decode cL_law 16 = .ok (.iconst 0, 1) := by decide +kernel
theorem dL_law_17 : decode cL_law 17 = .ok (.istore_n 3, 1) := by decide +kernel
theorem dL_law_18 : decode cL_law 18 = .ok (.iload_n 3, 1) := by decide +kernel
theorem dL_law_19 : decode cL_law 19 = .ok (.aload_n 0, 1) := by decide +kernel
theorem dL_law_20 : decode cL_law 20 = .ok (.arraylength, 1) := by decide +kernel
theorem dL_law_21 : decode cL_law 21 = .ok (.iconst 5, 1) := by decide +kernel
theorem dL_law_22 : decode cL_law 22 = .ok (.isub, 1) := by decide +kernel
theorem dL_law_23 : decode cL_law 23 = .ok (.if_icmp .gt 819, 3) := by decide +kernel
theorem dL_law_26 : decode cL_law 26 = .ok (.aload_n 0, 1) := by decide +kernel
theorem dL_law_27 : decode cL_law 27 = .ok (.iload_n 3, 1) := by decide +kernel
theorem dL_law_28 : decode cL_law 28 = .ok (.iaload, 1) := by decide +kernel
theorem dL_law_29 : decode cL_law 29 = .ok (.bipush 31, 2) := by decide +kernel
theorem dL_law_31 : decode cL_law 31 = .ok (.iand, 1) := by decide +kernel
theorem dL_law_32 : decode cL_law 32 = .ok (.tableswitch 804 0 23 #[112, 145, 178, 211, 254, 307, 320, 343, 376, 409, 442, 475, 518, 541, 564, 607, 630, 653, 666, 719, 732, 745, 758, 781], 112) := by decide +kernel
theorem dL_law_144 : decode cL_law 144 = .ok (.aload_n 1, 1) := by decide +kernel
theorem dL_law_145 : decode cL_law 145 = .ok (.aload_n 0, 1) := by decide +kernel
theorem dL_law_146 : decode cL_law 146 = .ok (.iload_n 3, 1) := by decide +kernel
theorem dL_law_147 : decode cL_law 147 = .ok (.iconst 1, 1) := by decide +kernel
theorem dL_law_148 : decode cL_law 148 = .ok (.iadd, 1) := by decide +kernel
theorem dL_law_149 : decode cL_law 149 = .ok (.iaload, 1) := by decide +kernel
theorem dL_law_150 : decode cL_law 150 = .ok (.aload_n 0, 1) := by decide +kernel
theorem dL_law_151 : decode cL_law 151 = .ok (.iload_n 3, 1) := by decide +kernel
theorem dL_law_152 : decode cL_law 152 = .ok (.iconst 2, 1) := by decide +kernel
theorem dL_law_153 : decode cL_law 153 = .ok (.iadd, 1) := by decide +kernel
theorem dL_law_154 : decode cL_law 154 = .ok (.iaload, 1) := by decide +kernel
theorem dL_law_155 : decode cL_law 155 = .ok (.invokevirtual 13, 3) := by decide +kernel
theorem dL_law_158 : decode cL_law 158 = .ok (.aload_n 2, 1) := by decide +kernel
theorem dL_law_159 : decode cL_law 159 = .ok (.aload_n 0, 1) := by decide +kernel
theorem dL_law_160 : decode cL_law 160 = .ok (.iload_n 3, 1) := by decide +kernel
theorem dL_law_161 : decode cL_law 161 = .ok (.iconst 1, 1) := by decide +kernel
theorem dL_law_162 : decode cL_law 162 = .ok (.iadd, 1) := by decide +kernel
theorem dL_law_163 : decode cL_law 163 = .ok (.iaload, 1) := by decide +kernel
theorem dL_law_164 : decode cL_law 164 = .ok (.aload_n 0, 1) := by decide +kernel
theorem dL_law_165 : decode cL_law 165 = .ok (.iload_n 3, 1) := by decide +kernel
theorem dL_law_166 : decode cL_law 166 = .ok (.iconst 2, 1) := by decide +kernel
theorem dL_law_167 : decode cL_law 167 = .ok (.iadd, 1) := by decide +kernel
theorem dL_law_168 : decode cL_law 168 = .ok (.iaload, 1) := by decide +kernel
theorem dL_law_169 : decode cL_law 169 = .ok (.invokevirtual 17, 3) := by decide +kernel
theorem dL_law_172 : decode cL_law 172 = .ok (.if_icmp .eq 664, 3) := by decide +kernel
theorem dL_law_175 : decode cL_law 175 = .ok (.iconst 0, 1) := by decide +kernel
theorem dL_law_176 : decode cL_law 176 = .ok (.ireturn, 1) := by decide +kernel
theorem dL_law_177 : decode cL_law 177 = .ok (.aload_n 1, 1) := by decide +kernel
theorem dL_law_178 : decode cL_law 178 = .ok (.aload_n 0, 1) := by decide +kernel
theorem dL_law_179 : decode cL_law 179 = .ok (.iload_n 3, 1) := by decide +kernel
theorem dL_law_180 : decode cL_law 180 = .ok (.iconst 1, 1) := by decide +kernel
theorem dL_law_181 : decode cL_law 181 = .ok (.iadd, 1) := by decide +kernel
theorem dL_law_182 : decode cL_law 182 = .ok (.iaload, 1) := by decide +kernel
theorem dL_law_183 : decode cL_law 183 = .ok (.aload_n 0, 1) := by decide +kernel
theorem dL_law_184 : decode cL_law 184 = .ok (.iload_n 3, 1) := by decide +kernel
theorem dL_law_185 : decode cL_law 185 = .ok (.iconst 2, 1) := by decide +kernel
theorem dL_law_186 : decode cL_law 186 = .ok (.iadd, 1) := by decide +kernel
theorem dL_law_187 : decode cL_law 187 = .ok (.iaload, 1) := by decide +kernel
theorem dL_law_188 : decode cL_law 188 = .ok (.invokevirtual 18, 3) := by decide +kernel
theorem dL_law_191 : decode cL_law 191 = .ok (.aload_n 2, 1) := by decide +kernel
theorem dL_law_192 : decode cL_law 192 = .ok (.aload_n 0, 1) := by decide +kernel
theorem dL_law_193 : decode cL_law 193 = .ok (.iload_n 3, 1) := by decide +kernel
theorem dL_law_194 : decode cL_law 194 = .ok (.iconst 1, 1) := by decide +kernel
theorem dL_law_195 : decode cL_law 195 = .ok (.iadd, 1) := by decide +kernel
theorem dL_law_196 : decode cL_law 196 = .ok (.iaload, 1) := by decide +kernel
theorem dL_law_197 : decode cL_law 197 = .ok (.aload_n 0, 1) := by decide +kernel
theorem dL_law_198 : decode cL_law 198 = .ok (.iload_n 3, 1) := by decide +kernel
theorem dL_law_199 : decode cL_law 199 = .ok (.iconst 2, 1) := by decide +kernel
theorem dL_law_200 : decode cL_law 200 = .ok (.iadd, 1) := by decide +kernel
theorem dL_law_201 : decode cL_law 201 = .ok (.iaload, 1) := by decide +kernel
theorem dL_law_202 : decode cL_law 202 = .ok (.invokevirtual 21, 3) := by decide +kernel
theorem dL_law_205 : decode cL_law 205 = .ok (.if_icmp .eq 631, 3) := by decide +kernel
theorem dL_law_208 : decode cL_law 208 = .ok (.iconst 0, 1) := by decide +kernel
theorem dL_law_209 : decode cL_law 209 = .ok (.ireturn, 1) := by decide +kernel
theorem dL_law_210 : decode cL_law 210 = .ok (.aload_n 1, 1) := by decide +kernel
theorem dL_law_211 : decode cL_law 211 = .ok (.aload_n 0, 1) := by decide +kernel
theorem dL_law_212 : decode cL_law 212 = .ok (.iload_n 3, 1) := by decide +kernel
theorem dL_law_213 : decode cL_law 213 = .ok (.iconst 1, 1) := by decide +kernel
theorem dL_law_214 : decode cL_law 214 = .ok (.iadd, 1) := by decide +kernel
theorem dL_law_215 : decode cL_law 215 = .ok (.iaload, 1) := by decide +kernel
theorem dL_law_216 : decode cL_law 216 = .ok (.aload_n 0, 1) := by decide +kernel
theorem dL_law_217 : decode cL_law 217 = .ok (.iload_n 3, 1) := by decide +kernel
theorem dL_law_218 : decode cL_law 218 = .ok (.iconst 2, 1) := by decide +kernel
theorem dL_law_219 : decode cL_law 219 = .ok (.iadd, 1) := by decide +kernel
theorem dL_law_220 : decode cL_law 220 = .ok (.iaload, 1) := by decide +kernel
theorem dL_law_221 : decode cL_law 221 = .ok (.invokevirtual 22, 3) := by decide +kernel
theorem dL_law_224 : decode cL_law 224 = .ok (.aload_n 2, 1) := by decide +kernel
theorem dL_law_225 : decode cL_law 225 = .ok (.aload_n 0, 1) := by decide +kernel
theorem dL_law_226 : decode cL_law 226 = .ok (.iload_n 3, 1) := by decide +kernel
theorem dL_law_227 : decode cL_law 227 = .ok (.iconst 1, 1) := by decide +kernel
theorem dL_law_228 : decode cL_law 228 = .ok (.iadd, 1) := by decide +kernel
theorem dL_law_229 : decode cL_law 229 = .ok (.iaload, 1) := by decide +kernel
theorem dL_law_230 : decode cL_law 230 = .ok (.aload_n 0, 1) := by decide +kernel
theorem dL_law_231 : decode cL_law 231 = .ok (.iload_n 3, 1) := by decide +kernel
theorem dL_law_232 : decode cL_law 232 = .ok (.iconst 2, 1) := by decide +kernel
theorem dL_law_233 : decode cL_law 233 = .ok (.iadd, 1) := by decide +kernel
theorem dL_law_234 : decode cL_law 234 = .ok (.iaload, 1) := by decide +kernel
theorem dL_law_235 : decode cL_law 235 = .ok (.invokevirtual 25, 3) := by decide +kernel
theorem dL_law_238 : decode cL_law 238 = .ok (.if_icmp .eq 598, 3) := by decide +kernel
theorem dL_law_241 : decode cL_law 241 = .ok (.iconst 0, 1) := by decide +kernel
theorem dL_law_242 : decode cL_law 242 = .ok (.ireturn, 1) := by decide +kernel
theorem dL_law_243 : decode cL_law 243 = .ok (.aload_n 1, 1) := by decide +kernel
theorem dL_law_244 : decode cL_law 244 = .ok (.aload_n 0, 1) := by decide +kernel
theorem dL_law_245 : decode cL_law 245 = .ok (.iload_n 3, 1) := by decide +kernel
theorem dL_law_246 : decode cL_law 246 = .ok (.iconst 1, 1) := by decide +kernel
theorem dL_law_247 : decode cL_law 247 = .ok (.iadd, 1) := by decide +kernel
theorem dL_law_248 : decode cL_law 248 = .ok (.iaload, 1) := by decide +kernel
theorem dL_law_249 : decode cL_law 249 = .ok (.aload_n 0, 1) := by decide +kernel
theorem dL_law_250 : decode cL_law 250 = .ok (.iload_n 3, 1) := by decide +kernel
theorem dL_law_251 : decode cL_law 251 = .ok (.iconst 2, 1) := by decide +kernel
theorem dL_law_252 : decode cL_law 252 = .ok (.iadd, 1) := by decide +kernel
theorem dL_law_253 : decode cL_law 253 = .ok (.iaload, 1) := by decide +kernel
theorem dL_law_254 : decode cL_law 254 = .ok (.aload_n 0, 1) := by decide +kernel
theorem dL_law_255 : decode cL_law 255 = .ok (.iload_n 3, 1) := by decide +kernel
theorem dL_law_256 : decode cL_law 256 = .ok (.iconst 3, 1) := by decide +kernel
theorem dL_law_257 : decode cL_law 257 = .ok (.iadd, 1) := by decide +kernel
theorem dL_law_258 : decode cL_law 258 = .ok (.iaload, 1) := by decide +kernel
theorem dL_law_259 : decode cL_law 259 = .ok (.invokevirtual 26, 3) := by decide +kernel
theorem dL_law_262 : decode cL_law 262 = .ok (.aload_n 2, 1) := by decide +kernel
theorem dL_law_263 : decode cL_law 263 = .ok (.aload_n 0, 1) := by decide +kernel
theorem dL_law_264 : decode cL_law 264 = .ok (.iload_n 3, 1) := by decide +kernel
theorem dL_law_265 : decode cL_law 265 = .ok (.iconst 1, 1) := by decide +kernel
theorem dL_law_266 : decode cL_law 266 = .ok (.iadd, 1) := by decide +kernel
theorem dL_law_267 : decode cL_law 267 = .ok (.iaload, 1) := by decide +kernel
theorem dL_law_268 : decode cL_law 268 = .ok (.aload_n 0, 1) := by decide +kernel
theorem dL_law_269 : decode cL_law 269 = .ok (.iload_n 3, 1) := by decide +kernel
theorem dL_law_270 : decode cL_law 270 = .ok (.iconst 2, 1) := by decide +kernel
theorem dL_law_271 : decode cL_law 271 = .ok (.iadd, 1) := by decide +kernel
theorem dL_law_272 : decode cL_law 272 = .ok (.iaload, 1) := by decide +kernel
theorem dL_law_273 : decode cL_law 273 = .ok (.aload_n 0, 1) := by decide +kernel
theorem dL_law_274 : decode cL_law 274 = .ok (.iload_n 3, 1) := by decide +kernel
theorem dL_law_275 : decode cL_law 275 = .ok (.iconst 3, 1) := by decide +kernel
theorem dL_law_276 : decode cL_law 276 = .ok (.iadd, 1) := by decide +kernel
theorem dL_law_277 : decode cL_law 277 = .ok (.iaload, 1) := by decide +kernel
theorem dL_law_278 : decode cL_law 278 = .ok (.invokevirtual 30, 3) := by decide +kernel
theorem dL_law_281 : decode cL_law 281 = .ok (.if_icmp .eq 555, 3) := by decide +kernel
theorem dL_law_284 : decode cL_law 284 = .ok (.iconst 0, 1) := by decide +kernel
theorem dL_law_285 : decode cL_law 285 = .ok (.ireturn, 1) := by decide +kernel
theorem dL_law_286 : decode cL_law 286 = .ok (.aload_n 1, 1) := by decide +kernel
theorem dL_law_287 : decode cL_law 287 = .ok (.aload_n 0, 1) := by decide +kernel
theorem dL_law_288 : decode cL_law 288 = .ok (.iload_n 3, 1) := by decide +kernel
theorem dL_law_289 : decode cL_law 289 = .ok (.iconst 1, 1) := by decide +kernel
theorem dL_law_290 : decode cL_law 290 = .ok (.iadd, 1) := by decide +kernel
theorem dL_law_291 : decode cL_law 291 = .ok (.iaload, 1) := by decide +kernel
theorem dL_law_292 : decode cL_law 292 = .ok (.aload_n 0, 1) := by decide +kernel
theorem dL_law_293 : decode cL_law 293 = .ok (.iload_n 3, 1) := by decide +kernel
theorem dL_law_294 : decode cL_law 294 = .ok (.iconst 2, 1) := by decide +kernel
theorem dL_law_295 : decode cL_law 295 = .ok (.iadd, 1) := by decide +kernel
theorem dL_law_296 : decode cL_law 296 = .ok (.iaload, 1) := by decide +kernel
theorem dL_law_297 : decode cL_law 297 = .ok (.aload_n 0, 1) := by decide +kernel
theorem dL_law_298 : decode cL_law 298 = .ok (.iload_n 3, 1) := by decide +kernel
theorem dL_law_299 : decode cL_law 299 = .ok (.iconst 3, 1) := by decide +kernel
theorem dL_law_300 : decode cL_law 300 = .ok (.iadd, 1) := by decide +kernel
theorem dL_law_301 : decode cL_law 301 = .ok (.iaload, 1) := by decide +kernel
theorem dL_law_302 : decode cL_law 302 = .ok (.aload_n 0, 1) := by decide +kernel
theorem dL_law_303 : decode cL_law 303 = .ok (.iload_n 3, 1) := by decide +kernel
theorem dL_law_304 : decode cL_law 304 = .ok (.iconst 4, 1) := by decide +kernel
theorem dL_law_305 : decode cL_law 305 = .ok (.iadd, 1) := by decide +kernel
theorem dL_law_306 : decode cL_law 306 = .ok (.iaload, 1) := by decide +kernel
theorem dL_law_307 : decode cL_law 307 = .ok (.invokevirtual 31, 3) := by decide +kernel
theorem dL_law_310 : decode cL_law 310 = .ok (.aload_n 2, 1) := by decide +kernel
theorem dL_law_311 : decode cL_law 311 = .ok (.aload_n 0, 1) := by decide +kernel
theorem dL_law_312 : decode cL_law 312 = .ok (.iload_n 3, 1) := by decide +kernel
theorem dL_law_313 : decode cL_law 313 = .ok (.iconst 1, 1) := by decide +kernel
theorem dL_law_314 : decode cL_law 314 = .ok (.iadd, 1) := by decide +kernel
theorem dL_law_315 : decode cL_law 315 = .ok (.iaload, 1) := by decide +kernel
theorem dL_law_316 : decode cL_law 316 = .ok (.aload_n 0, 1) := by decide +kernel
theorem dL_law_317 : decode cL_law 317 = .ok (.iload_n 3, 1) := by decide +kernel
theorem dL_law_318 : decode cL_law 318 = .ok (.iconst 2, 1) := by decide +kernel
theorem dL_law_319 : decode cL_law 319 = .ok (.iadd, 1) := by decide +kernel
theorem dL_law_320 : decode cL_law 320 = .ok (.iaload, 1) := by decide +kernel
theorem dL_law_321 : decode cL_law 321 = .ok (.aload_n 0, 1) := by decide +kernel
theorem dL_law_322 : decode cL_law 322 = .ok (.iload_n 3, 1) := by decide +kernel
theorem dL_law_323 : decode cL_law 323 = .ok (.iconst 3, 1) := by decide +kernel
theorem dL_law_324 : decode cL_law 324 = .ok (.iadd, 1) := by decide +kernel
theorem dL_law_325 : decode cL_law 325 = .ok (.iaload, 1) := by decide +kernel
theorem dL_law_326 : decode cL_law 326 = .ok (.aload_n 0, 1) := by decide +kernel
theorem dL_law_327 : decode cL_law 327 = .ok (.iload_n 3, 1) := by decide +kernel
theorem dL_law_328 : decode cL_law 328 = .ok (.iconst 4, 1) := by decide +kernel
theorem dL_law_329 : decode cL_law 329 = .ok (.iadd, 1) := by decide +kernel
theorem dL_law_330 : decode cL_law 330 = .ok (.iaload, 1) := by decide +kernel
theorem dL_law_331 : decode cL_law 331 = .ok (.invokevirtual 35, 3) := by decide +kernel
theorem dL_law_334 : decode cL_law 334 = .ok (.if_icmp .eq 502, 3) := by decide +kernel
theorem dL_law_337 : decode cL_law 337 = .ok (.iconst 0, 1) := by decide +kernel
theorem dL_law_338 : decode cL_law 338 = .ok (.ireturn, 1) := by decide +kernel
theorem dL_law_339 : decode cL_law 339 = .ok (.aload_n 1, 1) := by decide +kernel
theorem dL_law_340 : decode cL_law 340 = .ok (.invokevirtual 36, 3) := by decide +kernel
theorem dL_law_343 : decode cL_law 343 = .ok (.aload_n 2, 1) := by decide +kernel
theorem dL_law_344 : decode cL_law 344 = .ok (.invokevirtual 40, 3) := by decide +kernel
theorem dL_law_347 : decode cL_law 347 = .ok (.if_icmp .eq 489, 3) := by decide +kernel
theorem dL_law_350 : decode cL_law 350 = .ok (.iconst 0, 1) := by decide +kernel
theorem dL_law_351 : decode cL_law 351 = .ok (.ireturn, 1) := by decide +kernel
theorem dL_law_352 : decode cL_law 352 = .ok (.aload_n 1, 1) := by decide +kernel
theorem dL_law_353 : decode cL_law 353 = .ok (.aload_n 0, 1) := by decide +kernel
theorem dL_law_354 : decode cL_law 354 = .ok (.iload_n 3, 1) := by decide +kernel
theorem dL_law_355 : decode cL_law 355 = .ok (.iconst 1, 1) := by decide +kernel
theorem dL_law_356 : decode cL_law 356 = .ok (.iadd, 1) := by decide +kernel
theorem dL_law_357 : decode cL_law 357 = .ok (.iaload, 1) := by decide +kernel
theorem dL_law_358 : decode cL_law 358 = .ok (.invokevirtual 41, 3) := by decide +kernel
theorem dL_law_361 : decode cL_law 361 = .ok (.aload_n 2, 1) := by decide +kernel
theorem dL_law_362 : decode cL_law 362 = .ok (.aload_n 0, 1) := by decide +kernel
theorem dL_law_363 : decode cL_law 363 = .ok (.iload_n 3, 1) := by decide +kernel
theorem dL_law_364 : decode cL_law 364 = .ok (.iconst 1, 1) := by decide +kernel
theorem dL_law_365 : decode cL_law 365 = .ok (.iadd, 1) := by decide +kernel
theorem dL_law_366 : decode cL_law 366 = .ok (.iaload, 1) := by decide +kernel
theorem dL_law_367 : decode cL_law 367 = .ok (.invokevirtual 45, 3) := by decide +kernel
theorem dL_law_370 : decode cL_law 370 = .ok (.if_icmp .eq 466, 3) := by decide +kernel
theorem dL_law_373 : decode cL_law 373 = .ok (.iconst 0, 1) := by decide +kernel
theorem dL_law_374 : decode cL_law 374 = .ok (.ireturn, 1) := by decide +kernel
theorem dL_law_375 : decode cL_law 375 = .ok (.aload_n 1, 1) := by decide +kernel
theorem dL_law_376 : decode cL_law 376 = .ok (.aload_n 0, 1) := by decide +kernel
theorem dL_law_377 : decode cL_law 377 = .ok (.iload_n 3, 1) := by decide +kernel
theorem dL_law_378 : decode cL_law 378 = .ok (.iconst 1, 1) := by decide +kernel
theorem dL_law_379 : decode cL_law 379 = .ok (.iadd, 1) := by decide +kernel
theorem dL_law_380 : decode cL_law 380 = .ok (.iaload, 1) := by decide +kernel
theorem dL_law_381 : decode cL_law 381 = .ok (.aload_n 0, 1) := by decide +kernel
theorem dL_law_382 : decode cL_law 382 = .ok (.iload_n 3, 1) := by decide +kernel
theorem dL_law_383 : decode cL_law 383 = .ok (.iconst 2, 1) := by decide +kernel
theorem dL_law_384 : decode cL_law 384 = .ok (.iadd, 1) := by decide +kernel
theorem dL_law_385 : decode cL_law 385 = .ok (.iaload, 1) := by decide +kernel
theorem dL_law_386 : decode cL_law 386 = .ok (.invokevirtual 46, 3) := by decide +kernel
theorem dL_law_389 : decode cL_law 389 = .ok (.aload_n 2, 1) := by decide +kernel
theorem dL_law_390 : decode cL_law 390 = .ok (.aload_n 0, 1) := by decide +kernel
theorem dL_law_391 : decode cL_law 391 = .ok (.iload_n 3, 1) := by decide +kernel
theorem dL_law_392 : decode cL_law 392 = .ok (.iconst 1, 1) := by decide +kernel
theorem dL_law_393 : decode cL_law 393 = .ok (.iadd, 1) := by decide +kernel
theorem dL_law_394 : decode cL_law 394 = .ok (.iaload, 1) := by decide +kernel
theorem dL_law_395 : decode cL_law 395 = .ok (.aload_n 0, 1) := by decide +kernel
theorem dL_law_396 : decode cL_law 396 = .ok (.iload_n 3, 1) := by decide +kernel
theorem dL_law_397 : decode cL_law 397 = .ok (.iconst 2, 1) := by decide +kernel
theorem dL_law_398 : decode cL_law 398 = .ok (.iadd, 1) := by decide +kernel
theorem dL_law_399 : decode cL_law 399 = .ok (.iaload, 1) := by decide +kernel
theorem dL_law_400 : decode cL_law 400 = .ok (.invokevirtual 49, 3) := by decide +kernel
theorem dL_law_403 : decode cL_law 403 = .ok (.if_icmp .eq 433, 3) := by decide +kernel
theorem dL_law_406 : decode cL_law 406 = .ok (.iconst 0, 1) := by decide +kernel
theorem dL_law_407 : decode cL_law 407 = .ok (.ireturn, 1) := by decide +kernel
theorem dL_law_408 : decode cL_law 408 = .ok (.aload_n 1, 1) := by decide +kernel
theorem dL_law_409 : decode cL_law 409 = .ok (.aload_n 0, 1) := by decide +kernel
theorem dL_law_410 : decode cL_law 410 = .ok (.iload_n 3, 1) := by decide +kernel
theorem dL_law_411 : decode cL_law 411 = .ok (.iconst 1, 1) := by decide +kernel
theorem dL_law_412 : decode cL_law 412 = .ok (.iadd, 1) := by decide +kernel
theorem dL_law_413 : decode cL_law 413 = .ok (.iaload, 1) := by decide +kernel
theorem dL_law_414 : decode cL_law 414 = .ok (.aload_n 0, 1) := by decide +kernel
theorem dL_law_415 : decode cL_law 415 = .ok (.iload_n 3, 1) := by decide +kernel
theorem dL_law_416 : decode cL_law 416 = .ok (.iconst 2, 1) := by decide +kernel
theorem dL_law_417 : decode cL_law 417 = .ok (.iadd, 1) := by decide +kernel
theorem dL_law_418 : decode cL_law 418 = .ok (.iaload, 1) := by decide +kernel
theorem dL_law_419 : decode cL_law 419 = .ok (.invokevirtual 50, 3) := by decide +kernel
theorem dL_law_422 : decode cL_law 422 = .ok (.aload_n 2, 1) := by decide +kernel
theorem dL_law_423 : decode cL_law 423 = .ok (.aload_n 0, 1) := by decide +kernel
theorem dL_law_424 : decode cL_law 424 = .ok (.iload_n 3, 1) := by decide +kernel
theorem dL_law_425 : decode cL_law 425 = .ok (.iconst 1, 1) := by decide +kernel
theorem dL_law_426 : decode cL_law 426 = .ok (.iadd, 1) := by decide +kernel
theorem dL_law_427 : decode cL_law 427 = .ok (.iaload, 1) := by decide +kernel
theorem dL_law_428 : decode cL_law 428 = .ok (.aload_n 0, 1) := by decide +kernel
theorem dL_law_429 : decode cL_law 429 = .ok (.iload_n 3, 1) := by decide +kernel
theorem dL_law_430 : decode cL_law 430 = .ok (.iconst 2, 1) := by decide +kernel
theorem dL_law_431 : decode cL_law 431 = .ok (.iadd, 1) := by decide +kernel
theorem dL_law_432 : decode cL_law 432 = .ok (.iaload, 1) := by decide +kernel
theorem dL_law_433 : decode cL_law 433 = .ok (.invokevirtual 53, 3) := by decide +kernel
theorem dL_law_436 : decode cL_law 436 = .ok (.if_icmp .eq 400, 3) := by decide +kernel
theorem dL_law_439 : decode cL_law 439 = .ok (.iconst 0, 1) := by decide +kernel
theorem dL_law_440 : decode cL_law 440 = .ok (.ireturn, 1) := by decide +kernel
theorem dL_law_441 : decode cL_law 441 = .ok (.aload_n 1, 1) := by decide +kernel
theorem dL_law_442 : decode cL_law 442 = .ok (.aload_n 0, 1) := by decide +kernel
theorem dL_law_443 : decode cL_law 443 = .ok (.iload_n 3, 1) := by decide +kernel
theorem dL_law_444 : decode cL_law 444 = .ok (.iconst 1, 1) := by decide +kernel
theorem dL_law_445 : decode cL_law 445 = .ok (.iadd, 1) := by decide +kernel
theorem dL_law_446 : decode cL_law 446 = .ok (.iaload, 1) := by decide +kernel
theorem dL_law_447 : decode cL_law 447 = .ok (.aload_n 0, 1) := by decide +kernel
theorem dL_law_448 : decode cL_law 448 = .ok (.iload_n 3, 1) := by decide +kernel
theorem dL_law_449 : decode cL_law 449 = .ok (.iconst 2, 1) := by decide +kernel
theorem dL_law_450 : decode cL_law 450 = .ok (.iadd, 1) := by decide +kernel
theorem dL_law_451 : decode cL_law 451 = .ok (.iaload, 1) := by decide +kernel
theorem dL_law_452 : decode cL_law 452 = .ok (.invokevirtual 54, 3) := by decide +kernel
theorem dL_law_455 : decode cL_law 455 = .ok (.aload_n 2, 1) := by decide +kernel
theorem dL_law_456 : decode cL_law 456 = .ok (.aload_n 0, 1) := by decide +kernel
theorem dL_law_457 : decode cL_law 457 = .ok (.iload_n 3, 1) := by decide +kernel
theorem dL_law_458 : decode cL_law 458 = .ok (.iconst 1, 1) := by decide +kernel
theorem dL_law_459 : decode cL_law 459 = .ok (.iadd, 1) := by decide +kernel
theorem dL_law_460 : decode cL_law 460 = .ok (.iaload, 1) := by decide +kernel
theorem dL_law_461 : decode cL_law 461 = .ok (.aload_n 0, 1) := by decide +kernel
theorem dL_law_462 : decode cL_law 462 = .ok (.iload_n 3, 1) := by decide +kernel
theorem dL_law_463 : decode cL_law 463 = .ok (.iconst 2, 1) := by decide +kernel
theorem dL_law_464 : decode cL_law 464 = .ok (.iadd, 1) := by decide +kernel
theorem dL_law_465 : decode cL_law 465 = .ok (.iaload, 1) := by decide +kernel
theorem dL_law_466 : decode cL_law 466 = .ok (.invokevirtual 57, 3) := by decide +kernel
theorem dL_law_469 : decode cL_law 469 = .ok (.if_icmp .eq 367, 3) := by decide +kernel
theorem dL_law_472 : decode cL_law 472 = .ok (.iconst 0, 1) := by decide +kernel
theorem dL_law_473 : decode cL_law 473 = .ok (.ireturn, 1) := by decide +kernel
theorem dL_law_474 : decode cL_law 474 = .ok (.aload_n 1, 1) := by decide +kernel
theorem dL_law_475 : decode cL_law 475 = .ok (.aload_n 0, 1) := by decide +kernel
theorem dL_law_476 : decode cL_law 476 = .ok (.iload_n 3, 1) := by decide +kernel
theorem dL_law_477 : decode cL_law 477 = .ok (.iconst 1, 1) := by decide +kernel
theorem dL_law_478 : decode cL_law 478 = .ok (.iadd, 1) := by decide +kernel
theorem dL_law_479 : decode cL_law 479 = .ok (.iaload, 1) := by decide +kernel
theorem dL_law_480 : decode cL_law 480 = .ok (.aload_n 0, 1) := by decide +kernel
theorem dL_law_481 : decode cL_law 481 = .ok (.iload_n 3, 1) := by decide +kernel
theorem dL_law_482 : decode cL_law 482 = .ok (.iconst 2, 1) := by decide +kernel
theorem dL_law_483 : decode cL_law 483 = .ok (.iadd, 1) := by decide +kernel
theorem dL_law_484 : decode cL_law 484 = .ok (.iaload, 1) := by decide +kernel
theorem dL_law_485 : decode cL_law 485 = .ok (.invokevirtual 58, 3) := by decide +kernel
theorem dL_law_488 : decode cL_law 488 = .ok (.aload_n 2, 1) := by decide +kernel
theorem dL_law_489 : decode cL_law 489 = .ok (.aload_n 0, 1) := by decide +kernel
theorem dL_law_490 : decode cL_law 490 = .ok (.iload_n 3, 1) := by decide +kernel
theorem dL_law_491 : decode cL_law 491 = .ok (.iconst 1, 1) := by decide +kernel
theorem dL_law_492 : decode cL_law 492 = .ok (.iadd, 1) := by decide +kernel
theorem dL_law_493 : decode cL_law 493 = .ok (.iaload, 1) := by decide +kernel
theorem dL_law_494 : decode cL_law 494 = .ok (.aload_n 0, 1) := by decide +kernel
theorem dL_law_495 : decode cL_law 495 = .ok (.iload_n 3, 1) := by decide +kernel
theorem dL_law_496 : decode cL_law 496 = .ok (.iconst 2, 1) := by decide +kernel
theorem dL_law_497 : decode cL_law 497 = .ok (.iadd, 1) := by decide +kernel
theorem dL_law_498 : decode cL_law 498 = .ok (.iaload, 1) := by decide +kernel
theorem dL_law_499 : decode cL_law 499 = .ok (.invokevirtual 61, 3) := by decide +kernel
theorem dL_law_502 : decode cL_law 502 = .ok (.if_icmp .eq 334, 3) := by decide +kernel
theorem dL_law_505 : decode cL_law 505 = .ok (.iconst 0, 1) := by decide +kernel
theorem dL_law_506 : decode cL_law 506 = .ok (.ireturn, 1) := by decide +kernel
theorem dL_law_507 : decode cL_law 507 = .ok (.aload_n 1, 1) := by decide +kernel
theorem dL_law_508 : decode cL_law 508 = .ok (.aload_n 0, 1) := by decide +kernel
theorem dL_law_509 : decode cL_law 509 = .ok (.iload_n 3, 1) := by decide +kernel
theorem dL_law_510 : decode cL_law 510 = .ok (.iconst 1, 1) := by decide +kernel
theorem dL_law_511 : decode cL_law 511 = .ok (.iadd, 1) := by decide +kernel
theorem dL_law_512 : decode cL_law 512 = .ok (.iaload, 1) := by decide +kernel
theorem dL_law_513 : decode cL_law 513 = .ok (.aload_n 0, 1) := by decide +kernel
theorem dL_law_514 : decode cL_law 514 = .ok (.iload_n 3, 1) := by decide +kernel
theorem dL_law_515 : decode cL_law 515 = .ok (.iconst 2, 1) := by decide +kernel
theorem dL_law_516 : decode cL_law 516 = .ok (.iadd, 1) := by decide +kernel
theorem dL_law_517 : decode cL_law 517 = .ok (.iaload, 1) := by decide +kernel
theorem dL_law_518 : decode cL_law 518 = .ok (.aload_n 0, 1) := by decide +kernel
theorem dL_law_519 : decode cL_law 519 = .ok (.iload_n 3, 1) := by decide +kernel
theorem dL_law_520 : decode cL_law 520 = .ok (.iconst 3, 1) := by decide +kernel
theorem dL_law_521 : decode cL_law 521 = .ok (.iadd, 1) := by decide +kernel
theorem dL_law_522 : decode cL_law 522 = .ok (.iaload, 1) := by decide +kernel
theorem dL_law_523 : decode cL_law 523 = .ok (.invokevirtual 62, 3) := by decide +kernel
theorem dL_law_526 : decode cL_law 526 = .ok (.aload_n 2, 1) := by decide +kernel
theorem dL_law_527 : decode cL_law 527 = .ok (.aload_n 0, 1) := by decide +kernel
theorem dL_law_528 : decode cL_law 528 = .ok (.iload_n 3, 1) := by decide +kernel
theorem dL_law_529 : decode cL_law 529 = .ok (.iconst 1, 1) := by decide +kernel
theorem dL_law_530 : decode cL_law 530 = .ok (.iadd, 1) := by decide +kernel
theorem dL_law_531 : decode cL_law 531 = .ok (.iaload, 1) := by decide +kernel
theorem dL_law_532 : decode cL_law 532 = .ok (.aload_n 0, 1) := by decide +kernel
theorem dL_law_533 : decode cL_law 533 = .ok (.iload_n 3, 1) := by decide +kernel
theorem dL_law_534 : decode cL_law 534 = .ok (.iconst 2, 1) := by decide +kernel
theorem dL_law_535 : decode cL_law 535 = .ok (.iadd, 1) := by decide +kernel
theorem dL_law_536 : decode cL_law 536 = .ok (.iaload, 1) := by decide +kernel
theorem dL_law_537 : decode cL_law 537 = .ok (.aload_n 0, 1) := by decide +kernel
theorem dL_law_538 : decode cL_law 538 = .ok (.iload_n 3, 1) := by decide +kernel
theorem dL_law_539 : decode cL_law 539 = .ok (.iconst 3, 1) := by decide +kernel
theorem dL_law_540 : decode cL_law 540 = .ok (.iadd, 1) := by decide +kernel
theorem dL_law_541 : decode cL_law 541 = .ok (.iaload, 1) := by decide +kernel
theorem dL_law_542 : decode cL_law 542 = .ok (.invokevirtual 65, 3) := by decide +kernel
theorem dL_law_545 : decode cL_law 545 = .ok (.if_icmp .eq 291, 3) := by decide +kernel
theorem dL_law_548 : decode cL_law 548 = .ok (.iconst 0, 1) := by decide +kernel
theorem dL_law_549 : decode cL_law 549 = .ok (.ireturn, 1) := by decide +kernel
theorem dL_law_550 : decode cL_law 550 = .ok (.aload_n 1, 1) := by decide +kernel
theorem dL_law_551 : decode cL_law 551 = .ok (.aload_n 0, 1) := by decide +kernel
theorem dL_law_552 : decode cL_law 552 = .ok (.iload_n 3, 1) := by decide +kernel
theorem dL_law_553 : decode cL_law 553 = .ok (.iconst 1, 1) := by decide +kernel
theorem dL_law_554 : decode cL_law 554 = .ok (.iadd, 1) := by decide +kernel
theorem dL_law_555 : decode cL_law 555 = .ok (.iaload, 1) := by decide +kernel
theorem dL_law_556 : decode cL_law 556 = .ok (.invokevirtual 66, 3) := by decide +kernel
theorem dL_law_559 : decode cL_law 559 = .ok (.aload_n 2, 1) := by decide +kernel
theorem dL_law_560 : decode cL_law 560 = .ok (.aload_n 0, 1) := by decide +kernel
theorem dL_law_561 : decode cL_law 561 = .ok (.iload_n 3, 1) := by decide +kernel
theorem dL_law_562 : decode cL_law 562 = .ok (.iconst 1, 1) := by decide +kernel
theorem dL_law_563 : decode cL_law 563 = .ok (.iadd, 1) := by decide +kernel
theorem dL_law_564 : decode cL_law 564 = .ok (.iaload, 1) := by decide +kernel
theorem dL_law_565 : decode cL_law 565 = .ok (.invokevirtual 69, 3) := by decide +kernel
theorem dL_law_568 : decode cL_law 568 = .ok (.if_icmp .eq 268, 3) := by decide +kernel
theorem dL_law_571 : decode cL_law 571 = .ok (.iconst 0, 1) := by decide +kernel
theorem dL_law_572 : decode cL_law 572 = .ok (.ireturn, 1) := by decide +kernel
theorem dL_law_573 : decode cL_law 573 = .ok (.aload_n 1, 1) := by decide +kernel
theorem dL_law_574 : decode cL_law 574 = .ok (.aload_n 0, 1) := by decide +kernel
theorem dL_law_575 : decode cL_law 575 = .ok (.iload_n 3, 1) := by decide +kernel
theorem dL_law_576 : decode cL_law 576 = .ok (.iconst 1, 1) := by decide +kernel
theorem dL_law_577 : decode cL_law 577 = .ok (.iadd, 1) := by decide +kernel
theorem dL_law_578 : decode cL_law 578 = .ok (.iaload, 1) := by decide +kernel
theorem dL_law_579 : decode cL_law 579 = .ok (.invokevirtual 70, 3) := by decide +kernel
theorem dL_law_582 : decode cL_law 582 = .ok (.aload_n 2, 1) := by decide +kernel
theorem dL_law_583 : decode cL_law 583 = .ok (.aload_n 0, 1) := by decide +kernel
theorem dL_law_584 : decode cL_law 584 = .ok (.iload_n 3, 1) := by decide +kernel
theorem dL_law_585 : decode cL_law 585 = .ok (.iconst 1, 1) := by decide +kernel
theorem dL_law_586 : decode cL_law 586 = .ok (.iadd, 1) := by decide +kernel
theorem dL_law_587 : decode cL_law 587 = .ok (.iaload, 1) := by decide +kernel
theorem dL_law_588 : decode cL_law 588 = .ok (.invokevirtual 73, 3) := by decide +kernel
theorem dL_law_591 : decode cL_law 591 = .ok (.if_icmp .eq 245, 3) := by decide +kernel
theorem dL_law_594 : decode cL_law 594 = .ok (.iconst 0, 1) := by decide +kernel
theorem dL_law_595 : decode cL_law 595 = .ok (.ireturn, 1) := by decide +kernel
theorem dL_law_596 : decode cL_law 596 = .ok (.aload_n 1, 1) := by decide +kernel
theorem dL_law_597 : decode cL_law 597 = .ok (.aload_n 0, 1) := by decide +kernel
theorem dL_law_598 : decode cL_law 598 = .ok (.iload_n 3, 1) := by decide +kernel
theorem dL_law_599 : decode cL_law 599 = .ok (.iconst 1, 1) := by decide +kernel
theorem dL_law_600 : decode cL_law 600 = .ok (.iadd, 1) := by decide +kernel
theorem dL_law_601 : decode cL_law 601 = .ok (.iaload, 1) := by decide +kernel
theorem dL_law_602 : decode cL_law 602 = .ok (.aload_n 0, 1) := by decide +kernel
theorem dL_law_603 : decode cL_law 603 = .ok (.iload_n 3, 1) := by decide +kernel
theorem dL_law_604 : decode cL_law 604 = .ok (.iconst 2, 1) := by decide +kernel
theorem dL_law_605 : decode cL_law 605 = .ok (.iadd, 1) := by decide +kernel
theorem dL_law_606 : decode cL_law 606 = .ok (.iaload, 1) := by decide +kernel
theorem dL_law_607 : decode cL_law 607 = .ok (.aload_n 0, 1) := by decide +kernel
theorem dL_law_608 : decode cL_law 608 = .ok (.iload_n 3, 1) := by decide +kernel
theorem dL_law_609 : decode cL_law 609 = .ok (.iconst 3, 1) := by decide +kernel
theorem dL_law_610 : decode cL_law 610 = .ok (.iadd, 1) := by decide +kernel
theorem dL_law_611 : decode cL_law 611 = .ok (.iaload, 1) := by decide +kernel
theorem dL_law_612 : decode cL_law 612 = .ok (.invokevirtual 74, 3) := by decide +kernel
theorem dL_law_615 : decode cL_law 615 = .ok (.aload_n 2, 1) := by decide +kernel
theorem dL_law_616 : decode cL_law 616 = .ok (.aload_n 0, 1) := by decide +kernel
theorem dL_law_617 : decode cL_law 617 = .ok (.iload_n 3, 1) := by decide +kernel
theorem dL_law_618 : decode cL_law 618 = .ok (.iconst 1, 1) := by decide +kernel
theorem dL_law_619 : decode cL_law 619 = .ok (.iadd, 1) := by decide +kernel
theorem dL_law_620 : decode cL_law 620 = .ok (.iaload, 1) := by decide +kernel
theorem dL_law_621 : decode cL_law 621 = .ok (.aload_n 0, 1) := by decide +kernel
theorem dL_law_622 : decode cL_law 622 = .ok (.iload_n 3, 1) := by decide +kernel
theorem dL_law_623 : decode cL_law 623 = .ok (.iconst 2, 1) := by decide +kernel
theorem dL_law_624 : decode cL_law 624 = .ok (.iadd, 1) := by decide +kernel
theorem dL_law_625 : decode cL_law 625 = .ok (.iaload, 1) := by decide +kernel
theorem dL_law_626 : decode cL_law 626 = .ok (.aload_n 0, 1) := by decide +kernel
theorem dL_law_627 : decode cL_law 627 = .ok (.iload_n 3, 1) := by decide +kernel
theorem dL_law_628 : decode cL_law 628 = .ok (.iconst 3, 1) := by decide +kernel
theorem dL_law_629 : decode cL_law 629 = .ok (.iadd, 1) := by decide +kernel
theorem dL_law_630 : decode cL_law 630 = .ok (.iaload, 1) := by decide +kernel
theorem dL_law_631 : decode cL_law 631 = .ok (.invokevirtual 77, 3) := by decide +kernel
theorem dL_law_634 : decode cL_law 634 = .ok (.if_icmp .eq 202, 3) := by decide +kernel
theorem dL_law_637 : decode cL_law 637 = .ok (.iconst 0, 1) := by decide +kernel
theorem dL_law_638 : decode cL_law 638 = .ok (.ireturn, 1) := by decide +kernel
theorem dL_law_639 : decode cL_law 639 = .ok (.aload_n 1, 1) := by decide +kernel
theorem dL_law_640 : decode cL_law 640 = .ok (.aload_n 0, 1) := by decide +kernel
theorem dL_law_641 : decode cL_law 641 = .ok (.iload_n 3, 1) := by decide +kernel
theorem dL_law_642 : decode cL_law 642 = .ok (.iconst 1, 1) := by decide +kernel
theorem dL_law_643 : decode cL_law 643 = .ok (.iadd, 1) := by decide +kernel
theorem dL_law_644 : decode cL_law 644 = .ok (.iaload, 1) := by decide +kernel
theorem dL_law_645 : decode cL_law 645 = .ok (.invokevirtual 78, 3) := by decide +kernel
theorem dL_law_648 : decode cL_law 648 = .ok (.aload_n 2, 1) := by decide +kernel
theorem dL_law_649 : decode cL_law 649 = .ok (.aload_n 0, 1) := by decide +kernel
theorem dL_law_650 : decode cL_law 650 = .ok (.iload_n 3, 1) := by decide +kernel
theorem dL_law_651 : decode cL_law 651 = .ok (.iconst 1, 1) := by decide +kernel
theorem dL_law_652 : decode cL_law 652 = .ok (.iadd, 1) := by decide +kernel
theorem dL_law_653 : decode cL_law 653 = .ok (.iaload, 1) := by decide +kernel
theorem dL_law_654 : decode cL_law 654 = .ok (.invokevirtual 81, 3) := by decide +kernel
theorem dL_law_657 : decode cL_law 657 = .ok (.if_icmp .eq 179, 3) := by decide +kernel
theorem dL_law_660 : decode cL_law 660 = .ok (.iconst 0, 1) := by decide +kernel
theorem dL_law_661 : decode cL_law 661 = .ok (.ireturn, 1) := by decide +kernel
theorem dL_law_662 : decode cL_law 662 = .ok (.aload_n 1, 1) := by decide +kernel
theorem dL_law_663 : decode cL_law 663 = .ok (.aload_n 0, 1) := by decide +kernel
theorem dL_law_664 : decode cL_law 664 = .ok (.iload_n 3, 1) := by decide +kernel
theorem dL_law_665 : decode cL_law 665 = .ok (.iconst 1, 1) := by decide +kernel
theorem dL_law_666 : decode cL_law 666 = .ok (.iadd, 1) := by decide +kernel
theorem dL_law_667 : decode cL_law 667 = .ok (.iaload, 1) := by decide +kernel
theorem dL_law_668 : decode cL_law 668 = .ok (.invokevirtual 82, 3) := by decide +kernel
theorem dL_law_671 : decode cL_law 671 = .ok (.aload_n 2, 1) := by decide +kernel
theorem dL_law_672 : decode cL_law 672 = .ok (.aload_n 0, 1) := by decide +kernel
theorem dL_law_673 : decode cL_law 673 = .ok (.iload_n 3, 1) := by decide +kernel
theorem dL_law_674 : decode cL_law 674 = .ok (.iconst 1, 1) := by decide +kernel
theorem dL_law_675 : decode cL_law 675 = .ok (.iadd, 1) := by decide +kernel
theorem dL_law_676 : decode cL_law 676 = .ok (.iaload, 1) := by decide +kernel
theorem dL_law_677 : decode cL_law 677 = .ok (.invokevirtual 85, 3) := by decide +kernel
theorem dL_law_680 : decode cL_law 680 = .ok (.if_icmp .eq 156, 3) := by decide +kernel
theorem dL_law_683 : decode cL_law 683 = .ok (.iconst 0, 1) := by decide +kernel
theorem dL_law_684 : decode cL_law 684 = .ok (.ireturn, 1) := by decide +kernel
theorem dL_law_685 : decode cL_law 685 = .ok (.aload_n 1, 1) := by decide +kernel
theorem dL_law_686 : decode cL_law 686 = .ok (.invokevirtual 86, 3) := by decide +kernel
theorem dL_law_689 : decode cL_law 689 = .ok (.aload_n 2, 1) := by decide +kernel
theorem dL_law_690 : decode cL_law 690 = .ok (.invokevirtual 89, 3) := by decide +kernel
theorem dL_law_693 : decode cL_law 693 = .ok (.if_icmp .eq 143, 3) := by decide +kernel
theorem dL_law_696 : decode cL_law 696 = .ok (.iconst 0, 1) := by decide +kernel
theorem dL_law_697 : decode cL_law 697 = .ok (.ireturn, 1) := by decide +kernel
theorem dL_law_698 : decode cL_law 698 = .ok (.aload_n 1, 1) := by decide +kernel
theorem dL_law_699 : decode cL_law 699 = .ok (.aload_n 0, 1) := by decide +kernel
theorem dL_law_700 : decode cL_law 700 = .ok (.iload_n 3, 1) := by decide +kernel
theorem dL_law_701 : decode cL_law 701 = .ok (.iconst 1, 1) := by decide +kernel
theorem dL_law_702 : decode cL_law 702 = .ok (.iadd, 1) := by decide +kernel
theorem dL_law_703 : decode cL_law 703 = .ok (.iaload, 1) := by decide +kernel
theorem dL_law_704 : decode cL_law 704 = .ok (.i2l, 1) := by decide +kernel
theorem dL_law_705 : decode cL_law 705 = .ok (.bipush 32, 2) := by decide +kernel
theorem dL_law_707 : decode cL_law 707 = .ok (.lshl, 1) := by decide +kernel
theorem dL_law_708 : decode cL_law 708 = .ok (.aload_n 0, 1) := by decide +kernel
theorem dL_law_709 : decode cL_law 709 = .ok (.iload_n 3, 1) := by decide +kernel
theorem dL_law_710 : decode cL_law 710 = .ok (.iconst 2, 1) := by decide +kernel
theorem dL_law_711 : decode cL_law 711 = .ok (.iadd, 1) := by decide +kernel
theorem dL_law_712 : decode cL_law 712 = .ok (.iaload, 1) := by decide +kernel
theorem dL_law_713 : decode cL_law 713 = .ok (.i2l, 1) := by decide +kernel
theorem dL_law_714 : decode cL_law 714 = .ok (.ldc2_w 90, 3) := by decide +kernel
theorem dL_law_717 : decode cL_law 717 = .ok (.land, 1) := by decide +kernel
theorem dL_law_718 : decode cL_law 718 = .ok (.lor, 1) := by decide +kernel
theorem dL_law_719 : decode cL_law 719 = .ok (.invokevirtual 92, 3) := by decide +kernel
theorem dL_law_722 : decode cL_law 722 = .ok (.aload_n 2, 1) := by decide +kernel
theorem dL_law_723 : decode cL_law 723 = .ok (.aload_n 0, 1) := by decide +kernel
theorem dL_law_724 : decode cL_law 724 = .ok (.iload_n 3, 1) := by decide +kernel
theorem dL_law_725 : decode cL_law 725 = .ok (.iconst 1, 1) := by decide +kernel
theorem dL_law_726 : decode cL_law 726 = .ok (.iadd, 1) := by decide +kernel
theorem dL_law_727 : decode cL_law 727 = .ok (.iaload, 1) := by decide +kernel
theorem dL_law_728 : decode cL_law 728 = .ok (.i2l, 1) := by decide +kernel
theorem dL_law_729 : decode cL_law 729 = .ok (.bipush 32, 2) := by decide +kernel
theorem dL_law_731 : decode cL_law 731 = .ok (.lshl, 1) := by decide +kernel
theorem dL_law_732 : decode cL_law 732 = .ok (.aload_n 0, 1) := by decide +kernel
theorem dL_law_733 : decode cL_law 733 = .ok (.iload_n 3, 1) := by decide +kernel
theorem dL_law_734 : decode cL_law 734 = .ok (.iconst 2, 1) := by decide +kernel
theorem dL_law_735 : decode cL_law 735 = .ok (.iadd, 1) := by decide +kernel
theorem dL_law_736 : decode cL_law 736 = .ok (.iaload, 1) := by decide +kernel
theorem dL_law_737 : decode cL_law 737 = .ok (.i2l, 1) := by decide +kernel
theorem dL_law_738 : decode cL_law 738 = .ok (.ldc2_w 90, 3) := by decide +kernel
theorem dL_law_741 : decode cL_law 741 = .ok (.land, 1) := by decide +kernel
theorem dL_law_742 : decode cL_law 742 = .ok (.lor, 1) := by decide +kernel
theorem dL_law_743 : decode cL_law 743 = .ok (.invokevirtual 96, 3) := by decide +kernel
theorem dL_law_746 : decode cL_law 746 = .ok (.if_icmp .eq 90, 3) := by decide +kernel
theorem dL_law_749 : decode cL_law 749 = .ok (.iconst 0, 1) := by decide +kernel
theorem dL_law_750 : decode cL_law 750 = .ok (.ireturn, 1) := by decide +kernel
theorem dL_law_751 : decode cL_law 751 = .ok (.aload_n 1, 1) := by decide +kernel
theorem dL_law_752 : decode cL_law 752 = .ok (.invokevirtual 97, 3) := by decide +kernel
theorem dL_law_755 : decode cL_law 755 = .ok (.aload_n 2, 1) := by decide +kernel
theorem dL_law_756 : decode cL_law 756 = .ok (.invokevirtual 100, 3) := by decide +kernel
theorem dL_law_759 : decode cL_law 759 = .ok (.if_icmp .eq 77, 3) := by decide +kernel
theorem dL_law_762 : decode cL_law 762 = .ok (.iconst 0, 1) := by decide +kernel
theorem dL_law_763 : decode cL_law 763 = .ok (.ireturn, 1) := by decide +kernel
theorem dL_law_764 : decode cL_law 764 = .ok (.aload_n 1, 1) := by decide +kernel
theorem dL_law_765 : decode cL_law 765 = .ok (.invokevirtual 101, 3) := by decide +kernel
theorem dL_law_768 : decode cL_law 768 = .ok (.aload_n 2, 1) := by decide +kernel
theorem dL_law_769 : decode cL_law 769 = .ok (.invokevirtual 104, 3) := by decide +kernel
theorem dL_law_772 : decode cL_law 772 = .ok (.if_icmp .eq 64, 3) := by decide +kernel
theorem dL_law_775 : decode cL_law 775 = .ok (.iconst 0, 1) := by decide +kernel
theorem dL_law_776 : decode cL_law 776 = .ok (.ireturn, 1) := by decide +kernel
theorem dL_law_777 : decode cL_law 777 = .ok (.aload_n 1, 1) := by decide +kernel
theorem dL_law_778 : decode cL_law 778 = .ok (.invokevirtual 105, 3) := by decide +kernel
theorem dL_law_781 : decode cL_law 781 = .ok (.aload_n 2, 1) := by decide +kernel
theorem dL_law_782 : decode cL_law 782 = .ok (.invokevirtual 108, 3) := by decide +kernel
theorem dL_law_785 : decode cL_law 785 = .ok (.if_icmp .eq 51, 3) := by decide +kernel
theorem dL_law_788 : decode cL_law 788 = .ok (.iconst 0, 1) := by decide +kernel
theorem dL_law_789 : decode cL_law 789 = .ok (.ireturn, 1) := by decide +kernel
theorem dL_law_790 : decode cL_law 790 = .ok (.aload_n 1, 1) := by decide +kernel
theorem dL_law_791 : decode cL_law 791 = .ok (.aload_n 0, 1) := by decide +kernel
theorem dL_law_792 : decode cL_law 792 = .ok (.iload_n 3, 1) := by decide +kernel
theorem dL_law_793 : decode cL_law 793 = .ok (.iconst 1, 1) := by decide +kernel
theorem dL_law_794 : decode cL_law 794 = .ok (.iadd, 1) := by decide +kernel
theorem dL_law_795 : decode cL_law 795 = .ok (.iaload, 1) := by decide +kernel
theorem dL_law_796 : decode cL_law 796 = .ok (.invokevirtual 109, 3) := by decide +kernel
theorem dL_law_799 : decode cL_law 799 = .ok (.aload_n 2, 1) := by decide +kernel
theorem dL_law_800 : decode cL_law 800 = .ok (.aload_n 0, 1) := by decide +kernel
theorem dL_law_801 : decode cL_law 801 = .ok (.iload_n 3, 1) := by decide +kernel
theorem dL_law_802 : decode cL_law 802 = .ok (.iconst 1, 1) := by decide +kernel
theorem dL_law_803 : decode cL_law 803 = .ok (.iadd, 1) := by decide +kernel
theorem dL_law_804 : decode cL_law 804 = .ok (.iaload, 1) := by decide +kernel
theorem dL_law_805 : decode cL_law 805 = .ok (.invokevirtual 112, 3) := by decide +kernel
theorem dL_law_808 : decode cL_law 808 = .ok (.if_icmp .eq 28, 3) := by decide +kernel
theorem dL_law_811 : decode cL_law 811 = .ok (.iconst 0, 1) := by decide +kernel
theorem dL_law_812 : decode cL_law 812 = .ok (.ireturn, 1) := by decide +kernel
theorem dL_law_813 : decode cL_law 813 = .ok (.aload_n 1, 1) := by decide +kernel
theorem dL_law_814 : decode cL_law 814 = .ok (.aload_n 0, 1) := by decide +kernel
theorem dL_law_815 : decode cL_law 815 = .ok (.iload_n 3, 1) := by decide +kernel
theorem dL_law_816 : decode cL_law 816 = .ok (.iconst 1, 1) := by decide +kernel
theorem dL_law_817 : decode cL_law 817 = .ok (.iadd, 1) := by decide +kernel
theorem dL_law_818 : decode cL_law 818 = .ok (.iaload, 1) := by decide +kernel
theorem dL_law_819 : decode cL_law 819 = .ok (.invokevirtual 113, 3) := by decide +kernel
theorem dL_law_822 : decode cL_law 822 = .ok (.aload_n 2, 1) := by decide +kernel
theorem dL_law_823 : decode cL_law 823 = .ok (.aload_n 0, 1) := by decide +kernel
theorem dL_law_824 : decode cL_law 824 = .ok (.iload_n 3, 1) := by decide +kernel
theorem dL_law_825 : decode cL_law 825 = .ok (.iconst 1, 1) := by decide +kernel
theorem dL_law_826 : decode cL_law 826 = .ok (.iadd, 1) := by decide +kernel
theorem dL_law_827 : decode cL_law 827 = .ok (.iaload, 1) := by decide +kernel
theorem dL_law_828 : decode cL_law 828 = .ok (.invokevirtual 116, 3) := by decide +kernel
theorem dL_law_831 : decode cL_law 831 = .ok (.if_icmp .eq 5, 3) := by decide +kernel
theorem dL_law_834 : decode cL_law 834 = .ok (.iconst 0, 1) := by decide +kernel
theorem dL_law_835 : decode cL_law 835 = .ok (.ireturn, 1) := by decide +kernel
theorem dL_law_836 : decode cL_law 836 = .ok (.iinc 3 5, 3) := by decide +kernel
theorem dL_law_839 : decode cL_law 839 = .ok (.goto (-821), 3) := by decide +kernel
theorem dL_law_842 : decode cL_law 842 = .ok (.iconst 1, 1) := by decide +kernel
theorem dL_law_843 : decode cL_law 843 = .ok (.ireturn, 1) := by decide +kernel
end
section
/-! ===== the judgement GW: the machine at a place of a method, over a world of cells; its rows; contracts CT ===== -/
abbrev g_tys (cI cR : ClassId) : List (ClassId × FieldType) := [(cI, .int), (cR, .object RX3)]
def g_least : Nat → Int32 := fun j => if j = 2 then 1 else 0
def g_most : Nat → Int32 := fun j => if j = 0 then 90 else if j = 1 then 240 else if j = 2 then 6 else if j = 3 then 300 else 40
def g_first : Nat → Int32 := fun j => if j = 0 then 30 else if j = 1 then 60 else if j = 2 then 3 else if j = 3 then 60 else 6
def g_S1 (n : String) (f : Nat → Int32) (A : Nat → Prop) (U : State) (H : Heap) : Prop := ∃ t : Nat, va_Z "ShuttleDoors" n "[I" (.ref t) A U H ∧ va_T .int t 5 (fun j => .int (f j)) A U H
theorem g_S1.step {n : String} {f : Nat → Int32} {A B : Nat → Prop} {s U : State} {H H1 : Heap} (h : g_S1 n f A s H) (hq : ∀ a : Nat, a < H.size → ¬ A a → H1[a]? = H[a]?) (hvm : s.vm.Alike U.vm) (hAB : ∀ q, B q → A q) : g_S1 n f B U H1 := by
  obtain ⟨t, h1, h2⟩ := h
  exact ⟨t, ((h1.kept hq).moved hvm).narrow hAB, ((h2.kept hq).moved hvm).narrow hAB⟩
def g_NW (U : State) : Prop :=
  va_Nw (.fieldLinkNest RX3 39 "ShuttleDoors" "SETTING_FIRST" "[I" "ShuttleDoors") U ∧
  va_Nw (.methodLinkNest RX5 18 yX2_init "ShuttleDoors") U ∧
  va_Nw (.methodLinkNest RX5 25 yX4_init "ShuttleDoors") U ∧
  va_Nw (.methodLinkNest RX5 38 yX1_init "ShuttleDoors") U ∧
  va_Nw (.methodLinkNest RX2 81 yX5_isIn "ShuttleDoors") U ∧
  va_Nw (.methodLinkNest RX2 64 yX5_isVan "ShuttleDoors") U ∧
  va_Nw (.methodLinkNest RX1 17 yX5_isIn "ShuttleDoors") U ∧ va_AO RX3 U
theorem g_NW.warm {s U : State} (hW : s.WarmedH U.vm) (h : g_NW s) : g_NW U :=
  ⟨va_Nw.warmF hW h.1, va_Nw.warmM hW h.2.1, va_Nw.warmM hW h.2.2.1, va_Nw.warmM hW h.2.2.2.1, va_Nw.warmM hW h.2.2.2.2.1, va_Nw.warmM hW h.2.2.2.2.2.1, va_Nw.warmM hW h.2.2.2.2.2.2.1, va_AO.moved hW.alike h.2.2.2.2.2.2.2⟩
theorem g_NW.same {s U : State} (hv : s.vm = U.vm) (h : g_NW s) : g_NW U :=
  ⟨va_Nw.same rfl hv h.1, va_Nw.same rfl hv h.2.1, va_Nw.same rfl hv h.2.2.1, va_Nw.same rfl hv h.2.2.2.1, va_Nw.same rfl hv h.2.2.2.2.1, va_Nw.same rfl hv h.2.2.2.2.2.1, va_Nw.same rfl hv h.2.2.2.2.2.2.1, va_AO.moved (by rw [hv]; exact Vm.Alike.refl U.vm) h.2.2.2.2.2.2.2⟩
def g_ST (A : Nat → Prop) (U : State) : Prop := g_S1 "SETTING_LEAST" g_least A U U.heap ∧ g_S1 "SETTING_MOST" g_most A U U.heap ∧ g_S1 "SETTING_FIRST" g_first A U U.heap ∧ g_NW U
theorem g_ST.blind {A : Nat → Prop} {U : State} {g : JFrame} {mk : MethodId} {a : Array Value} (h : g_ST A U) : g_ST A (U.calling g mk a) :=
  ⟨h.1.step (fun _ _ _ => rfl) (Vm.Alike.refl U.vm) (fun _ h => h), h.2.1.step (fun _ _ _ => rfl) (Vm.Alike.refl U.vm) (fun _ h => h), h.2.2.1.step (fun _ _ _ => rfl) (Vm.Alike.refl U.vm) (fun _ h => h), h.2.2.2.same rfl⟩
def g_Pc (D : va_G) (cI cR : ClassId) (av : List Value) (wc : va_W) (sz : Nat) : Array Value → State → Prop := va_Pc av (fun U => U.heap.size = sz ∧ va_P D vwCl wc U.heap ∧ va_K D vwCl (g_tys cI cR) U ∧ va_D (fun _ => True) wc ∧ g_ST (va_A wc sz) U)
theorem g_Pc.blind {D : va_G} {cI cR : ClassId} {av : List Value} {wc : va_W} {sz : Nat} : FrameBlind (g_Pc D cI cR av wc sz) := fun a U g mk q => by
  obtain ⟨e, h1, h2, h3, h4, h5⟩ := q
  exact ⟨e, h1, h2, va_K.moved (u := U) (U := U.calling g mk a) (Vm.Alike.refl U.vm) h3, h4, h5.blind⟩
def g_Q {S : Type} (D : va_G) (post : Option Value → S → Prop) (B : S → va_W) (A : Nat → Prop) : Array Value → State → Outcome → State → Prop := fun _ st oc t => (∃ (v : Option Value) (u : S), oc = .returned v ∧ post v u ∧ va_P D vwCl (B u) t.heap ∧ va_D A (B u)) ∧ va_F A st t
/-- a contract: from a heap that holds the world wc, the method returns, 'post' holds of its answer and of u, the heap holds the world B u -/
def CT (l : Launch) (D : va_G) (cI cR : ClassId) (y : MethodName) (cy : ByteArray) (nL : Nat) (ret : Option FieldType) (rm : Room) (av : List Value) (wc : va_W) {S : Type} (B : S → va_W) (post : Option Value → S → Prop) (mc ms : Nat) : Prop :=
  ∀ sz : Nat, Met l y (Cond.code y cy nL ret :: lw_good) rm (g_Pc D cI cR av wc sz) (g_Q D post B (va_A wc sz)) mc ms (va_A wc sz)
def KC (p : Program) (s : State) (m : MethodId) (args : Array Value) (meth : Method) (c : Code) (cc : ByteArray) (nL : Nat) (own : String) (D : va_G) (cI cR : ClassId) (A : Nat → Prop) (ret : Option FieldType) : Prop :=
  CallFix p m c cc nL s args lw_good own ∧ va_K D vwCl (g_tys cI cR) s ∧ (∀ q : Nat, s.heap.size ≤ q → A q) ∧ g_ST A s ∧ meth.locks = false ∧ meth.sig.returnType = ret
def GW (p : Program) (l : Launch) (e : Env) (R : Room) (s : State) (m : MethodId) (args : Array Value) (below : List Frame) (meth : Method) (c : Code) (D : va_G) (A : Nat → Prop) (nL : Nat) (Q : State → Prop) (ce sl : Nat) (ws : va_W) (lv : List (Nat × Value)) (pc : Nat) (st : List Value) : Prop :=
  ∀ (H : Heap) (locs : List Loc) (ls : Array Slot), va_P D vwCl ws H → va_D A ws → va_S A s.heap H locs → lv_has ls nL lv → W p l e R s m args below meth c H locs ce sl Q (F0 m pc ls st)
abbrev GM (p : Program) (l : Launch) (e : Env) (R : Room) (s : State) (m : MethodId) (args : Array Value) (below : List Frame) (meth : Method) (c : Code) (D : va_G) (A : Nat → Prop) (nL : Nat) {S : Type} (post : Option Value → S → Prop) (B : S → va_W) (mc ms : Nat) (ce sl : Nat) (ws : va_W) (lv : List (Nat × Value)) (pc : Nat) (st : List Value) : Prop :=
  GW p l e R s m args below meth c D A nL (MQ below (g_Q D post B A) args s mc ms A) ce sl ws lv pc st
/-- cells of a world put back by their places; those that are left over come behind -/
def g_repl {α : Type} : List α → List Nat → List α → List α
  | ws, [], es => ws ++ es
  | ws, _ :: _, [] => ws
  | ws, i :: is, e :: es => g_repl (ws.set i e) is es
theorem g_repl_get {α : Type} : ∀ (is : List Nat) (ws es : List α) (k : Nat) (q : α), is.length ≤ es.length → (g_repl ws is es)[k]? = some q →
    (∃ j, es[j]? = some q ∧ (is[j]? = some k ∨ (is.length ≤ j ∧ k = ws.length + (j - is.length)))) ∨ (k ∉ is ∧ ws[k]? = some q)
  | [], ws, es, k, q, _, h => by
    simp only [g_repl] at h
    by_cases hl : k < ws.length
    · rw [List.getElem?_append_left hl] at h
      exact Or.inr ⟨List.not_mem_nil, h⟩
    · rw [List.getElem?_append_right (by omega)] at h
      exact Or.inl ⟨k - ws.length, h, Or.inr ⟨Nat.zero_le _, by simp; omega⟩⟩
  | i :: is, ws, [], k, q, hlen, h => by simp at hlen
  | i :: is, ws, e :: es, k, q, hlen, h => by
    simp only [g_repl] at h
    rcases g_repl_get is (ws.set i e) es k q (by simpa using hlen) h with ⟨j, h1, h2⟩ | ⟨h1, h2⟩
    · refine Or.inl ⟨j + 1, by simpa using h1, ?_⟩
      rcases h2 with h2 | ⟨h2, h3⟩
      · exact Or.inl (by simpa using h2)
      · exact Or.inr ⟨by simpa using h2, by rw [List.length_set] at h3; rw [List.length_cons]; omega⟩
    · by_cases hk : k = i
      · subst hk
        have hlt : k < ws.length := by
          have := (List.getElem?_eq_some_iff.mp h2).1
          simpa using this
        rw [List.getElem?_set_self hlt] at h2
        exact Or.inl ⟨0, by simpa using h2, Or.inl (by simp)⟩
      · rw [List.getElem?_set_ne (Ne.symm hk)] at h2
        exact Or.inr ⟨fun hm => (List.mem_cons.mp hm).elim hk h1, h2⟩
theorem g_pickC {ws wc : va_W} {isC : List Nat} (hC : isC.map (fun i => ws[i]?) = wc.map some) {k : Nat} {q : Nat × va_E} (hq : wc[k]? = some q) : ∃ i, isC[k]? = some i ∧ ws[i]? = some q := by
  have h1 : (isC.map (fun i => ws[i]?))[k]? = some (some q) := by rw [hC, List.getElem?_map, hq]; rfl
  rw [List.getElem?_map] at h1
  cases hi : isC[k]? with
  | none => rw [hi] at h1; cases h1
  | some i => rw [hi] at h1; exact ⟨i, rfl, Option.some.inj h1⟩
theorem g_join {A : Nat → Prop} {D : va_G} {ws wc w1 : va_W} {H H1 : Heap} (hP : va_P D vwCl ws H) (hD : va_D A ws) (isC : List Nat) (hC : isC.map (fun i => ws[i]?) = wc.map some) (hB : isC.length ≤ w1.length)
    (hk : ∀ q : Nat, q < H.size → ¬ va_A wc H.size q → H1[q]? = H[q]?) (hF : ∀ q, va_A wc H.size q → A q) (hP1 : va_P D vwCl w1 H1) (hD1 : va_D (va_A wc H.size) w1) : va_P D vwCl (g_repl ws isC w1) H1 ∧ va_D A (g_repl ws isC w1) := by
  have apart : ∀ (k : Nat) (q : Nat × va_E), k ∉ isC → ws[k]? = some q → q.1 < H.size ∧ ¬ va_A wc H.size q.1 := by
    intro k q hn hq
    have hl := (hP k q hq).lt
    refine ⟨hl, fun h => ?_⟩
    rcases h with ⟨k2, e, h⟩ | h
    · obtain ⟨j, h3, h4⟩ := g_pickC hC h
      have hij := hD.1 k j q (q.1, e) hq h4 rfl
      subst hij
      exact hn (List.mem_of_getElem? h3)
    · omega
  refine ⟨fun k q h => ?_, fun i j x y hx hy hxy => ?_, fun k q h => ?_⟩
  · rcases g_repl_get isC ws w1 k q hB h with ⟨j, h1, -⟩ | ⟨h1, h2⟩
    · exact hP1 j q h1
    · obtain ⟨g1, g2⟩ := apart k q h1 h2
      exact (hP k q h2).kept (hk q.1 g1 g2)
  · rcases g_repl_get isC ws w1 i x hB hx with ⟨a, h1, h1'⟩ | ⟨h1, h2⟩ <;> rcases g_repl_get isC ws w1 j y hB hy with ⟨b, h3, h3'⟩ | ⟨h3, h4⟩
    · have hab := hD1.1 a b x y h1 h3 hxy
      subst hab
      rcases h1' with h1' | ⟨h1', e1⟩ <;> rcases h3' with h3' | ⟨h3', e3⟩
      · exact Option.some.inj (h1'.symm.trans h3')
      · have := (List.getElem?_eq_some_iff.mp h1').1
        omega
      · have := (List.getElem?_eq_some_iff.mp h3').1
        omega
      · rw [e1, e3]
    · exact absurd (hxy ▸ hD1.2 a x h1) (apart j y h3 h4).2
    · exact absurd (hxy.symm ▸ hD1.2 b y h3) (apart i x h1 h2).2
    · exact hD.1 i j x y h2 h4 hxy
  · rcases g_repl_get isC ws w1 k q hB h with ⟨j, h1, -⟩ | ⟨h1, h2⟩
    · exact hF _ (hD1.2 j q h1)
    · exact hD.2 k q h2
theorem g_call {S : Type} {post : Option Value → S → Prop} {B : S → va_W} {p : Program} {l : Launch} {e : Env} {R : Room} {s : State} {m : MethodId} {args : Array Value} {below : List Frame} {meth : Method} {c : Code} {H : Heap} {locs : List Loc} {cells slots mc ms pc : Nat} {ls : Array Slot} {st0 rest : List Value} {D : va_G} {A0 A1 : Nat → Prop} {H0 : Heap} {a : Array Value} {free : Addr → Prop} {Q : State → Prop}
    (hr : va_Run p l e R s m args below meth c H locs cells slots mc ms (F0 m pc ls st0) rest (g_Q D post B A1 a) free) (hS : va_S A0 H0 H locs) (hA : ∀ q, q < H.size → A1 q → A0 q) (hf : ∀ q, free q → A0 q)
    (kk : ∀ (v : Option Value) (u : S) (H1 : Heap) (locs1 : List Loc), post v u → va_P D vwCl (B u) H1 → va_D A1 (B u) → (∀ q : Nat, q < H.size → ¬ A1 q → H1[q]? = H[q]?) → va_S A0 H0 H1 locs1 → W p l e R s m args below meth c H1 locs1 (cells + mc) (slots + ms) Q (F0 m (pc + 3) ls (v.toList ++ rest))) : W p l e R s m args below meth c H locs cells slots Q (F0 m pc ls st0) := by
  intro T hT X
  obtain ⟨v, st₀, t, T', L, h0, X', hL, e1, e2, ⟨⟨v', u, hv, hp, hb, hd⟩, hz, hk⟩, st⟩ := hr T hT X
  have hv2 : v = v' := by injection hv
  rw [h0] at hz hk
  obtain ⟨t2, a1, b1⟩ := kk v u T'.heap (locs ++ L) (hv2 ▸ hp) (by rw [e1]; exact hb) hd (fun q h1 h2 => by rw [e1]; exact hk q h1 h2)
    ⟨Nat.le_trans hS.1 (by rw [e1]; exact hz), fun q h1 h2 => by rw [e1, hk q (Nat.lt_of_lt_of_le h1 hS.1) (fun z => h2 (hA q (Nat.lt_of_lt_of_le h1 hS.1) z))]; exact hS.2.1 q h1 h2, fun q hq => by
      rcases List.mem_append.mp hq with h | h
      · exact hS.2.2 q h
      · exact hf _ (hL q h)⟩ T' rfl X'
  exact ⟨t2, st t2 a1, b1⟩
theorem g_good {y : MethodName} {cy : ByteArray} {n : Nat} {ret : Option FieldType} (h : Cond.code y cy n ret ∈ lw_good) : GoodIn lw_good (Cond.code y cy n ret :: lw_good) := fun w hw => by
  have hm : w ∈ lw_good := (List.mem_cons.mp hw).elim (fun e => e ▸ h) id
  exact ⟨hm, good_of_word (List.mem_filter.mp hm).2⟩
section GWS
variable {p : Program} {l : Launch} {e : Env} {R : Room} {s : State} {m : MethodId} {args : Array Value} {below : List Frame} {meth : Method} {c : Code} {D : va_G} {cI cR : ClassId} {A : Nat → Prop} {nL : Nat} {Q : State → Prop} {ce sl : Nat} {ws : va_W} {lv : List (Nat × Value)} {pc : Nat} {st : List Value} {cc : ByteArray} {own : String} {ret : Option FieldType}
theorem g_pre (κ : KC p s m args meth c cc nL own D cI cR A ret) {H : Heap} {locs : List Loc} {av : List Value} {wc : va_W} (hP : va_P D vwCl ws H) (hD : va_D A ws) (hS : va_S A s.heap H locs) (isC : List Nat) (hC : isC.map (fun i => ws[i]?) = wc.map some) (hN : va_nd isC = true) :
    ∀ U : State, U.heap = H → s.WarmedH U.vm → g_Pc D cI cR av wc H.size av.toArray U := by
  intro U hU hW
  have hF := va_free (wc := wc) hD hS κ.2.2.1 isC hC
  have hq : ∀ a : Nat, a < s.heap.size → ¬ A a → U.heap[a]? = s.heap[a]? := fun a h1 h2 => by rw [hU]; exact hS.2.1 a h1 h2
  have hst := κ.2.2.2.1
  refine ⟨rfl, by rw [hU], ?_, va_K.moved hW.alike κ.2.1, (hD.sub isC hN hC).weaken (fun _ _ _ _ => trivial), hst.1.step hq hW.alike hF, hst.2.1.step hq hW.alike hF, hst.2.2.1.step hq hW.alike hF, hst.2.2.2.warm hW⟩
  rw [hU]
  intro k q hk
  obtain ⟨i, -, hi⟩ := g_pickC hC hk
  exact hP i q hi
theorem gw_run (κ : KC p s m args meth c cc nL own D cI cR A ret) {S : Type} {B : S → va_W} {post : Option Value → S → Prop} {wc : va_W} {mc ms : Nat} {rest st0 : List Value} {aa : Array Value} (isC : List Nat) (hC : isC.map (fun i => ws[i]?) = wc.map some) (hB : ∀ u, isC.length ≤ (B u).length)
    (hr : ∀ (H : Heap) (locs : List Loc) (ls : Array Slot), va_P D vwCl ws H → va_D A ws → va_S A s.heap H locs → lv_has ls nL lv → va_Run p l e R s m args below meth c H locs ce sl mc ms (F0 m pc ls st0) rest (g_Q D post B (va_A wc H.size) aa) (va_A wc H.size))
    (kk : ∀ v u, post v u → GW p l e R s m args below meth c D A nL Q (ce + mc) (sl + ms) (g_repl ws isC (B u)) lv (pc + 3) (v.toList ++ rest)) : GW p l e R s m args below meth c D A nL Q ce sl ws lv pc st0 := by
  intro H locs ls hP hD hS hl
  have hF := va_free (wc := wc) hD hS κ.2.2.1 isC hC
  refine g_call (hr H locs ls hP hD hS hl) hS (fun q _ h => hF q h) hF (fun v u H1 locs1 hp hP1 hD1 hk hS1 => ?_)
  obtain ⟨hP2, hD2⟩ := g_join hP hD isC hC (hB u) hk hF hP1 hD1
  exact kk v u hp H1 locs1 ls hP2 hD2 hS1 hl
abbrev g_hy (y : MethodName) (n : Nat) : Prop := y.cls ≠ "java/lang/invoke/MethodHandle" ∧ y.cls ≠ "java/lang/invoke/VarHandle" ∧ (parseMethodDescriptor y.desc).map (fun d => d.parameters.length) = some n
abbrev g_rm (R rm : Room) (nLy mc ms : Nat) : Prop := rm.cells = mc ∧ rm.slots = ms ∧ rm.frames + 1 ≤ R.frames ∧ 8 + (nLy + 11) + rm.locals ≤ R.locals
theorem gw_callV (κ : KC p s m args meth c cc nL own D cI cR A ret) {y : MethodName} {cy : ByteArray} {nLy : Nat} {rety : Option FieldType} {rm : Room} {b : Nat} {As : List Value} {wc : va_W} {S : Type} {B : S → va_W} {post : Option Value → S → Prop} {mc ms n idx ci qb : Nat} {fs : List Value} {r : vw_C} {rest : List Value}
    (hct : CT l D cI cR y cy nLy rety rm (.ref b :: As) wc B post mc ms) (hrm : g_rm R rm nLy mc ms)
    (hwl : Cond.methodLink own idx y ∈ lw_good) (hwi : Cond.instanceMethod y ∈ lw_good) (hws : Cond.selects y.cls y y ∈ lw_good) (hwc : Cond.code y cy nLy rety ∈ lw_good) (hwn : Cond.initialized y.cls ∈ lw_good)
    (hy : g_hy y n) (hn : As.length = n) (hcl : vwCl[ci]? = some r) (hrc : r.1 = y.cls) (hqb : ws[qb]? = some (b, .inr (ci, fs)))
    (hW : (rest.map fun v => v.category).sum ≤ 8) (hst : st = As.reverse ++ .ref b :: rest) (hd : decode cc pc = .ok (.invokevirtual idx, 3))
    (isC : List Nat) (hC : isC.map (fun i => ws[i]?) = wc.map some) (hN : va_nd isC = true) (hB : ∀ u, isC.length ≤ (B u).length) (hcells : ce + mc ≤ R.cells ∧ sl + ms ≤ R.slots)
    (kk : ∀ v u, post v u → GW p l e R s m args below meth c D A nL Q (ce + mc) (sl + ms) (g_repl ws isC (B u)) lv (pc + 3) (v.toList ++ rest)) : GW p l e R s m args below meth c D A nL Q ce sl ws lv pc st := by
  have hts := κ.1.2.2.2.2
  refine gw_run κ (rest := rest) (aa := (Value.ref b :: As).toArray) isC hC hB (fun H locs ls hP hD hS hl => ?_) kk
  obtain ⟨cell, g1, g2, g3⟩ := va_recv κ.2.1 hP hcl hqb
  exact va_runV (C := y.cls) (n := n) (ret := rety) κ.1 (hct H.size) ⟨callB_of n hts (g_good hwc) rfl hrm.1 hrm.2.1 (hts _ hwn) (hts _ hwl) hy hrm.2.2, hts _ hwi, hts _ hws⟩
    ⟨g_Pc.blind, ⟨cell, g1, g2, by rw [← hrc]; exact g3⟩, g_pre κ hP hD hS isC hC hN⟩ rfl hn hl.1 hst (lv_room hW) hd hcells
theorem gw_callS (κ : KC p s m args meth c cc nL own D cI cR A ret) {y : MethodName} {cy : ByteArray} {nLy : Nat} {rety : Option FieldType} {rm : Room} {As : List Value} {wc : va_W} {S : Type} {B : S → va_W} {post : Option Value → S → Prop} {mc ms n idx : Nat} {rest : List Value}
    (hct : CT l D cI cR y cy nLy rety rm As wc B post mc ms) (hrm : g_rm R rm nLy mc ms)
    (hwl : Cond.methodLink own idx y ∈ lw_good) (hwi : Cond.static y ∈ lw_good) (hwc : Cond.code y cy nLy rety ∈ lw_good) (hwn : Cond.initialized y.cls ∈ lw_good)
    (hy : g_hy y n) (hn : As.length = n)
    (hW : (rest.map fun v => v.category).sum ≤ 8) (hst : st = As.reverse ++ rest) (hd : decode cc pc = .ok (.invokestatic idx, 3))
    (isC : List Nat) (hC : isC.map (fun i => ws[i]?) = wc.map some) (hN : va_nd isC = true) (hB : ∀ u, isC.length ≤ (B u).length) (hcells : ce + mc ≤ R.cells ∧ sl + ms ≤ R.slots)
    (kk : ∀ v u, post v u → GW p l e R s m args below meth c D A nL Q (ce + mc) (sl + ms) (g_repl ws isC (B u)) lv (pc + 3) (v.toList ++ rest)) : GW p l e R s m args below meth c D A nL Q ce sl ws lv pc st := by
  have hts := κ.1.2.2.2.2
  refine gw_run κ (rest := rest) (aa := As.toArray) isC hC hB (fun H locs ls hP hD hS hl => ?_) kk
  exact va_runS (n := n) (ret := rety) κ.1 (hct H.size) ⟨callB_of n hts (g_good hwc) rfl hrm.1 hrm.2.1 (hts _ hwn) (hts _ hwl) hy hrm.2.2, hts _ hwi⟩
    ⟨g_Pc.blind, g_pre κ hP hD hS isC hC hN⟩ rfl hn hl.1 hst (lv_room hW) hd hcells
theorem gw_callSN (κ : KC p s m args meth c cc nL own D cI cR A ret) {y : MethodName} {cy : ByteArray} {nLy : Nat} {rety : Option FieldType} {rm : Room} {As : List Value} {wc : va_W} {S : Type} {B : S → va_W} {post : Option Value → S → Prop} {mc ms n idx : Nat} {rest : List Value} {host : String}
    (hct : CT l D cI cR y cy nLy rety rm As wc B post mc ms) (hrm : g_rm R rm nLy mc ms)
    (hwl : va_Nw (.methodLinkNest own idx y host) s) (hwi : Cond.static y ∈ lw_good) (hwc : Cond.code y cy nLy rety ∈ lw_good) (hwn : Cond.initialized y.cls ∈ lw_good)
    (hy : g_hy y n) (hn : As.length = n)
    (hW : (rest.map fun v => v.category).sum ≤ 8) (hst : st = As.reverse ++ rest) (hd : decode cc pc = .ok (.invokestatic idx, 3))
    (isC : List Nat) (hC : isC.map (fun i => ws[i]?) = wc.map some) (hN : va_nd isC = true) (hB : ∀ u, isC.length ≤ (B u).length) (hcells : ce + mc ≤ R.cells ∧ sl + ms ≤ R.slots)
    (kk : ∀ v u, post v u → GW p l e R s m args below meth c D A nL Q (ce + mc) (sl + ms) (g_repl ws isC (B u)) lv (pc + 3) (v.toList ++ rest)) : GW p l e R s m args below meth c D A nL Q ce sl ws lv pc st := by
  have hts := κ.1.2.2.2.2
  refine gw_run κ (rest := rest) (aa := As.toArray) isC hC hB (fun H locs ls hP hD hS hl => ?_) kk
  exact va_runSN (n := n) (ret := rety) κ.1 (hct H.size) ⟨va_cnB n hts (g_good hwc) rfl hrm.1 hrm.2.1 hwl (hts _ hwn) hy hrm.2.2, hts _ hwi, trivial⟩
    ⟨g_Pc.blind, g_pre κ hP hD hS isC hC hN⟩ rfl hn hl.1 hst (lv_room hW) hd hcells
theorem gw_callI (κ : KC p s m args meth c cc nL own D cI cR A ret) {y : MethodName} {cy : ByteArray} {nLy : Nat} {rm : Room} {b : Nat} {As : List Value} {wc : va_W} {S : Type} {B : S → va_W} {post : Option Value → S → Prop} {mc ms n idx : Nat} {rest : List Value}
    (hct : CT l D cI cR y cy nLy none rm (.ref b :: As) wc B post mc ms) (hrm : g_rm R rm nLy mc ms)
    (hwl : Cond.methodLink own idx y ∈ lw_good) (hwi : Cond.instanceMethod y ∈ lw_good) (hwc : Cond.code y cy nLy none ∈ lw_good) (hwn : Cond.initialized y.cls ∈ lw_good)
    (hy : g_hy y n) (hy1 : y.name = "<init>") (hn : As.length = n)
    (hW : (rest.map fun v => v.category).sum ≤ 8) (hst : st = As.reverse ++ .ref b :: rest) (hd : decode cc pc = .ok (.invokespecial idx, 3))
    (isC : List Nat) (hC : isC.map (fun i => ws[i]?) = wc.map some) (hN : va_nd isC = true) (hB : ∀ u, isC.length ≤ (B u).length) (hcells : ce + mc ≤ R.cells ∧ sl + ms ≤ R.slots)
    (kk : ∀ v u, post v u → GW p l e R s m args below meth c D A nL Q (ce + mc) (sl + ms) (g_repl ws isC (B u)) lv (pc + 3) (v.toList ++ rest)) : GW p l e R s m args below meth c D A nL Q ce sl ws lv pc st := by
  have hts := κ.1.2.2.2.2
  refine gw_run κ (rest := rest) (aa := (Value.ref b :: As).toArray) isC hC hB (fun H locs ls hP hD hS hl => ?_) kk
  exact va_runI (n := n) κ.1 (hct H.size) ⟨callB_of n hts (g_good hwc) rfl hrm.1 hrm.2.1 (hts _ hwn) (hts _ hwl) hy hrm.2.2, hy1, hts _ hwi⟩
    ⟨g_Pc.blind, g_pre κ hP hD hS isC hC hN⟩ rfl hn hl.1 hst (lv_room hW) hd hcells
theorem gw_callIN (κ : KC p s m args meth c cc nL own D cI cR A ret) {y : MethodName} {cy : ByteArray} {nLy : Nat} {rm : Room} {b : Nat} {As : List Value} {wc : va_W} {S : Type} {B : S → va_W} {post : Option Value → S → Prop} {mc ms n idx : Nat} {rest : List Value} {host : String}
    (hct : CT l D cI cR y cy nLy none rm (.ref b :: As) wc B post mc ms) (hrm : g_rm R rm nLy mc ms)
    (hwl : va_Nw (.methodLinkNest own idx y host) s) (hwi : Cond.instanceMethod y ∈ lw_good) (hwc : Cond.code y cy nLy none ∈ lw_good) (hwn : Cond.initialized y.cls ∈ lw_good)
    (hy : g_hy y n) (hy1 : y.name = "<init>") (hn : As.length = n)
    (hW : (rest.map fun v => v.category).sum ≤ 8) (hst : st = As.reverse ++ .ref b :: rest) (hd : decode cc pc = .ok (.invokespecial idx, 3))
    (isC : List Nat) (hC : isC.map (fun i => ws[i]?) = wc.map some) (hN : va_nd isC = true) (hB : ∀ u, isC.length ≤ (B u).length) (hcells : ce + mc ≤ R.cells ∧ sl + ms ≤ R.slots)
    (kk : ∀ v u, post v u → GW p l e R s m args below meth c D A nL Q (ce + mc) (sl + ms) (g_repl ws isC (B u)) lv (pc + 3) (v.toList ++ rest)) : GW p l e R s m args below meth c D A nL Q ce sl ws lv pc st := by
  have hts := κ.1.2.2.2.2
  refine gw_run κ (rest := rest) (aa := (Value.ref b :: As).toArray) isC hC hB (fun H locs ls hP hD hS hl => ?_) kk
  exact va_runIN (n := n) κ.1 (hct H.size) ⟨va_cnB n hts (g_good hwc) rfl hrm.1 hrm.2.1 hwl (hts _ hwn) hy hrm.2.2, hy1, hts _ hwi⟩
    ⟨g_Pc.blind, g_pre κ hP hD hS isC hC hN⟩ rfl hn hl.1 hst (lv_room hW) hd hcells
/-- another form of the same world, of the locals -/
theorem gw_ws {ws' : va_W} (h : ws = ws') (k : GW p l e R s m args below meth c D A nL Q ce sl ws' lv pc st) : GW p l e R s m args below meth c D A nL Q ce sl ws lv pc st := h ▸ k
theorem gw_lv {lv' : List (Nat × Value)} (ks : List Nat) (h : lv_pick lv ks = lv') (k : GW p l e R s m args below meth c D A nL Q ce sl ws lv' pc st) : GW p l e R s m args below meth c D A nL Q ce sl ws lv pc st :=
  fun H locs ls hP hD hS hl => k H locs ls hP hD hS (lv_sub hl ks h)
theorem gw_widen {k n : Nat} (h1 : ce ≤ k) (h2 : sl ≤ n) (kk : GW p l e R s m args below meth c D A nL Q k n ws lv pc st) : GW p l e R s m args below meth c D A nL Q ce sl ws lv pc st :=
  fun H locs ls hP hD hS hl => W.widen h1 h2 (kk H locs ls hP hD hS hl)
end GWS
end
section
section GWR
variable {p : Program} {l : Launch} {e : Env} {R : Room} {s : State} {m : MethodId} {args : Array Value} {below : List Frame} {meth : Method} {c : Code} {D : va_G} {cI cR : ClassId} {A : Nat → Prop} {nL : Nat} {Q : State → Prop} {ce sl : Nat} {ws : va_W} {lv : List (Nat × Value)} {pc pc' : Nat} {st : List Value} {cc : ByteArray} {own : String} {ret : Option FieldType}
theorem gw_iconst (κ : KC p s m args meth c cc nL own D cI cR A ret) {n : Int} {v : Int32} (hd : decode cc pc = .ok (.iconst n, 1)) (hp : pc + 1 = pc')   (hv : Int32.ofInt n = v) (kk : GW p l e R s m args below meth c D A nL Q ce sl ws lv pc' (.int v :: st)) : GW p l e R s m args below meth c D A nL Q ce sl ws lv pc st := by
  subst hp
  exact fun H locs ls hP hD hS hl => lv_iconst κ.1.1 κ.1.2.1  hd hv (kk H locs ls hP hD hS hl)
theorem gw_bipush (κ : KC p s m args meth c cc nL own D cI cR A ret) {n : Int} {v : Int32} (hd : decode cc pc = .ok (.bipush n, 2)) (hp : pc + 2 = pc')   (hv : (Int8.ofInt n).toInt32 = v) (kk : GW p l e R s m args below meth c D A nL Q ce sl ws lv pc' (.int v :: st)) : GW p l e R s m args below meth c D A nL Q ce sl ws lv pc st := by
  subst hp
  exact fun H locs ls hP hD hS hl => lv_bipush κ.1.1 κ.1.2.1  hd hv (kk H locs ls hP hD hS hl)
theorem gw_sipush (κ : KC p s m args meth c cc nL own D cI cR A ret) {n : Int} {v : Int32} (hd : decode cc pc = .ok (.sipush n, 3)) (hp : pc + 3 = pc')   (hv : (Int16.ofInt n).toInt32 = v) (kk : GW p l e R s m args below meth c D A nL Q ce sl ws lv pc' (.int v :: st)) : GW p l e R s m args below meth c D A nL Q ce sl ws lv pc st := by
  subst hp
  exact fun H locs ls hP hD hS hl => lv_sipush κ.1.1 κ.1.2.1  hd hv (kk H locs ls hP hD hS hl)
theorem gw_lconst (κ : KC p s m args meth c cc nL own D cI cR A ret) {n : Fin 2} {v : Int64} (hd : decode cc pc = .ok (.lconst n, 1)) (hp : pc + 1 = pc')   (hv : Int64.ofNat (n : Nat) = v) (kk : GW p l e R s m args below meth c D A nL Q ce sl ws lv pc' (.long v :: st)) : GW p l e R s m args below meth c D A nL Q ce sl ws lv pc st := by
  subst hp
  exact fun H locs ls hP hD hS hl => lv_lconst κ.1.1 κ.1.2.1  hd hv (kk H locs ls hP hD hS hl)
theorem gw_iload_n (κ : KC p s m args meth c cc nL own D cI cR A ret) {k : Fin 4} {i : Nat} {x : Int32} (hd : decode cc pc = .ok (.iload_n k, 1)) (hp : pc + 1 = pc')    (j : Nat) (hj : lv[j]? = some (i, .int x)) (hi : (k : Nat) = i) (kk : GW p l e R s m args below meth c D A nL Q ce sl ws lv pc' (.int x :: st)) : GW p l e R s m args below meth c D A nL Q ce sl ws lv pc st := by
  subst hp
  exact fun H locs ls hP hD hS hl => lv_iload_n κ.1.1 κ.1.2.1  hd hi (lv_at hl j hj) (kk H locs ls hP hD hS hl)
theorem gw_iload (κ : KC p s m args meth c cc nL own D cI cR A ret) {i : Nat} {x : Int32} (hd : decode cc pc = .ok (.iload i, 2)) (hp : pc + 2 = pc')   (j : Nat) (hj : lv[j]? = some (i, .int x)) (kk : GW p l e R s m args below meth c D A nL Q ce sl ws lv pc' (.int x :: st)) : GW p l e R s m args below meth c D A nL Q ce sl ws lv pc st := by
  subst hp
  exact fun H locs ls hP hD hS hl => lv_iload κ.1.1 κ.1.2.1  hd (lv_at hl j hj) (kk H locs ls hP hD hS hl)
theorem gw_istore_n (κ : KC p s m args meth c cc nL own D cI cR A ret) {k : Fin 4} {i : Nat} {x : Int32} {lv' : List (Nat × Value)} (hd : decode cc pc = .ok (.istore_n k, 1)) (hp : pc + 1 = pc')   (hi : (k : Nat) = i)   (hn : i < nL) (hl' : (i, Value.int x) :: lv.filter (fun q => !(q.1 == i) && !(q.1 + 1 == i && q.2.category == 2)) = lv') (kk : GW p l e R s m args below meth c D A nL Q ce sl ws lv' pc' st) : GW p l e R s m args below meth c D A nL Q ce sl ws lv pc (.int x :: st) := by
  subst hp
  exact fun H locs ls hP hD hS hl => lv_istore_n κ.1.1 κ.1.2.1 hd hi hl hn hl' (fun ls' hl2 => kk H locs ls' hP hD hS hl2)
theorem gw_istore (κ : KC p s m args meth c cc nL own D cI cR A ret) {i : Nat} {x : Int32} {lv' : List (Nat × Value)} (hd : decode cc pc = .ok (.istore i, 2)) (hp : pc + 2 = pc')    (hn : i < nL) (hl' : (i, Value.int x) :: lv.filter (fun q => !(q.1 == i) && !(q.1 + 1 == i && q.2.category == 2)) = lv') (kk : GW p l e R s m args below meth c D A nL Q ce sl ws lv' pc' st) : GW p l e R s m args below meth c D A nL Q ce sl ws lv pc (.int x :: st) := by
  subst hp
  exact fun H locs ls hP hD hS hl => lv_istore κ.1.1 κ.1.2.1 hd hl hn hl' (fun ls' hl2 => kk H locs ls' hP hD hS hl2)
theorem gw_lload_n (κ : KC p s m args meth c cc nL own D cI cR A ret) {k : Fin 4} {i : Nat} {x : Int64} (hd : decode cc pc = .ok (.lload_n k, 1)) (hp : pc + 1 = pc')    (j : Nat) (hj : lv[j]? = some (i, .long x)) (hi : (k : Nat) = i) (kk : GW p l e R s m args below meth c D A nL Q ce sl ws lv pc' (.long x :: st)) : GW p l e R s m args below meth c D A nL Q ce sl ws lv pc st := by
  subst hp
  exact fun H locs ls hP hD hS hl => lv_lload_n κ.1.1 κ.1.2.1  hd hi (lv_at hl j hj) (kk H locs ls hP hD hS hl)
theorem gw_lload (κ : KC p s m args meth c cc nL own D cI cR A ret) {i : Nat} {x : Int64} (hd : decode cc pc = .ok (.lload i, 2)) (hp : pc + 2 = pc')   (j : Nat) (hj : lv[j]? = some (i, .long x)) (kk : GW p l e R s m args below meth c D A nL Q ce sl ws lv pc' (.long x :: st)) : GW p l e R s m args below meth c D A nL Q ce sl ws lv pc st := by
  subst hp
  exact fun H locs ls hP hD hS hl => lv_lload κ.1.1 κ.1.2.1  hd (lv_at hl j hj) (kk H locs ls hP hD hS hl)
theorem gw_lstore_n (κ : KC p s m args meth c cc nL own D cI cR A ret) {k : Fin 4} {i : Nat} {x : Int64} {lv' : List (Nat × Value)} (hd : decode cc pc = .ok (.lstore_n k, 1)) (hp : pc + 1 = pc')   (hi : (k : Nat) = i)   (hn : i + 1 < nL) (hl' : (i, Value.long x) :: lv.filter (fun q => !(q.1 == i) && (!(q.1 == i + 1) && !(q.1 + 1 == i && q.2.category == 2))) = lv') (kk : GW p l e R s m args below meth c D A nL Q ce sl ws lv' pc' st) : GW p l e R s m args below meth c D A nL Q ce sl ws lv pc (.long x :: st) := by
  subst hp
  exact fun H locs ls hP hD hS hl => lv_lstore_n κ.1.1 κ.1.2.1 hd hi hl hn hl' (fun ls' hl2 => kk H locs ls' hP hD hS hl2)
theorem gw_lstore (κ : KC p s m args meth c cc nL own D cI cR A ret) {i : Nat} {x : Int64} {lv' : List (Nat × Value)} (hd : decode cc pc = .ok (.lstore i, 2)) (hp : pc + 2 = pc')    (hn : i + 1 < nL) (hl' : (i, Value.long x) :: lv.filter (fun q => !(q.1 == i) && (!(q.1 == i + 1) && !(q.1 + 1 == i && q.2.category == 2))) = lv') (kk : GW p l e R s m args below meth c D A nL Q ce sl ws lv' pc' st) : GW p l e R s m args below meth c D A nL Q ce sl ws lv pc (.long x :: st) := by
  subst hp
  exact fun H locs ls hP hD hS hl => lv_lstore κ.1.1 κ.1.2.1 hd hl hn hl' (fun ls' hl2 => kk H locs ls' hP hD hS hl2)
theorem gw_aload_n (κ : KC p s m args meth c cc nL own D cI cR A ret) {k : Fin 4} {i : Nat} {x : Nat} (hd : decode cc pc = .ok (.aload_n k, 1)) (hp : pc + 1 = pc')    (j : Nat) (hj : lv[j]? = some (i, .ref x)) (hi : (k : Nat) = i) (kk : GW p l e R s m args below meth c D A nL Q ce sl ws lv pc' (.ref x :: st)) : GW p l e R s m args below meth c D A nL Q ce sl ws lv pc st := by
  subst hp
  exact fun H locs ls hP hD hS hl => lv_aload_n κ.1.1 κ.1.2.1  hd hi (lv_at hl j hj) (kk H locs ls hP hD hS hl)
theorem gw_aload (κ : KC p s m args meth c cc nL own D cI cR A ret) {i : Nat} {x : Nat} (hd : decode cc pc = .ok (.aload i, 2)) (hp : pc + 2 = pc')   (j : Nat) (hj : lv[j]? = some (i, .ref x)) (kk : GW p l e R s m args below meth c D A nL Q ce sl ws lv pc' (.ref x :: st)) : GW p l e R s m args below meth c D A nL Q ce sl ws lv pc st := by
  subst hp
  exact fun H locs ls hP hD hS hl => lv_aload κ.1.1 κ.1.2.1  hd (lv_at hl j hj) (kk H locs ls hP hD hS hl)
theorem gw_astore_n (κ : KC p s m args meth c cc nL own D cI cR A ret) {k : Fin 4} {i : Nat} {x : Nat} {lv' : List (Nat × Value)} (hd : decode cc pc = .ok (.astore_n k, 1)) (hp : pc + 1 = pc')   (hi : (k : Nat) = i)   (hn : i < nL) (hl' : (i, Value.ref x) :: lv.filter (fun q => !(q.1 == i) && !(q.1 + 1 == i && q.2.category == 2)) = lv') (kk : GW p l e R s m args below meth c D A nL Q ce sl ws lv' pc' st) : GW p l e R s m args below meth c D A nL Q ce sl ws lv pc (.ref x :: st) := by
  subst hp
  exact fun H locs ls hP hD hS hl => lv_astore_n κ.1.1 κ.1.2.1 hd hi hl hn hl' (fun ls' hl2 => kk H locs ls' hP hD hS hl2)
theorem gw_astore (κ : KC p s m args meth c cc nL own D cI cR A ret) {i : Nat} {x : Nat} {lv' : List (Nat × Value)} (hd : decode cc pc = .ok (.astore i, 2)) (hp : pc + 2 = pc')    (hn : i < nL) (hl' : (i, Value.ref x) :: lv.filter (fun q => !(q.1 == i) && !(q.1 + 1 == i && q.2.category == 2)) = lv') (kk : GW p l e R s m args below meth c D A nL Q ce sl ws lv' pc' st) : GW p l e R s m args below meth c D A nL Q ce sl ws lv pc (.ref x :: st) := by
  subst hp
  exact fun H locs ls hP hD hS hl => lv_astore κ.1.1 κ.1.2.1 hd hl hn hl' (fun ls' hl2 => kk H locs ls' hP hD hS hl2)
theorem gw_iinc (κ : KC p s m args meth c cc nL own D cI cR A ret) {i : Nat} {n : Int} {x v : Int32} {lv' : List (Nat × Value)} (hd : decode cc pc = .ok (.iinc i n, 3)) (hp : pc + 3 = pc')     (j : Nat) (hj : lv[j]? = some (i, .int x)) (hv : x + Int32.ofInt n = v) (hn : i < nL) (hl' : (i, Value.int v) :: lv.filter (fun q => !(q.1 == i) && !(q.1 + 1 == i && q.2.category == 2)) = lv') (kk : GW p l e R s m args below meth c D A nL Q ce sl ws lv' pc' st) : GW p l e R s m args below meth c D A nL Q ce sl ws lv pc st := by
  subst hp
  exact fun H locs ls hP hD hS hl => lv_iinc κ.1.1 κ.1.2.1 hd hl hj hv hn hl' (fun ls' hl2 => kk H locs ls' hP hD hS hl2)
theorem gw_iadd (κ : KC p s m args meth c cc nL own D cI cR A ret) {x y : Int32} (hd : decode cc pc = .ok (.iadd, 1)) (hp : pc + 1 = pc')  (kk : GW p l e R s m args below meth c D A nL Q ce sl ws lv pc' (.int (x + y) :: st)) : GW p l e R s m args below meth c D A nL Q ce sl ws lv pc (.int y :: .int x :: st) := by
  subst hp
  exact fun H locs ls hP hD hS hl => lv_iadd κ.1.1 κ.1.2.1  hd  (kk H locs ls hP hD hS hl)
theorem gw_isub (κ : KC p s m args meth c cc nL own D cI cR A ret) {x y : Int32} (hd : decode cc pc = .ok (.isub, 1)) (hp : pc + 1 = pc')  (kk : GW p l e R s m args below meth c D A nL Q ce sl ws lv pc' (.int (x - y) :: st)) : GW p l e R s m args below meth c D A nL Q ce sl ws lv pc (.int y :: .int x :: st) := by
  subst hp
  exact fun H locs ls hP hD hS hl => lv_isub κ.1.1 κ.1.2.1  hd  (kk H locs ls hP hD hS hl)
theorem gw_imul (κ : KC p s m args meth c cc nL own D cI cR A ret) {x y : Int32} (hd : decode cc pc = .ok (.imul, 1)) (hp : pc + 1 = pc')  (kk : GW p l e R s m args below meth c D A nL Q ce sl ws lv pc' (.int (x * y) :: st)) : GW p l e R s m args below meth c D A nL Q ce sl ws lv pc (.int y :: .int x :: st) := by
  subst hp
  exact fun H locs ls hP hD hS hl => lv_imul κ.1.1 κ.1.2.1  hd  (kk H locs ls hP hD hS hl)
theorem gw_iand (κ : KC p s m args meth c cc nL own D cI cR A ret) {x y : Int32} (hd : decode cc pc = .ok (.iand, 1)) (hp : pc + 1 = pc')  (kk : GW p l e R s m args below meth c D A nL Q ce sl ws lv pc' (.int (x &&& y) :: st)) : GW p l e R s m args below meth c D A nL Q ce sl ws lv pc (.int y :: .int x :: st) := by
  subst hp
  exact fun H locs ls hP hD hS hl => lv_iand κ.1.1 κ.1.2.1  hd  (kk H locs ls hP hD hS hl)
theorem gw_ior (κ : KC p s m args meth c cc nL own D cI cR A ret) {x y : Int32} (hd : decode cc pc = .ok (.ior, 1)) (hp : pc + 1 = pc')  (kk : GW p l e R s m args below meth c D A nL Q ce sl ws lv pc' (.int (x ||| y) :: st)) : GW p l e R s m args below meth c D A nL Q ce sl ws lv pc (.int y :: .int x :: st) := by
  subst hp
  exact fun H locs ls hP hD hS hl => lv_ior κ.1.1 κ.1.2.1  hd  (kk H locs ls hP hD hS hl)
theorem gw_ishl (κ : KC p s m args meth c cc nL own D cI cR A ret) {x y : Int32} (hd : decode cc pc = .ok (.ishl, 1)) (hp : pc + 1 = pc')  (kk : GW p l e R s m args below meth c D A nL Q ce sl ws lv pc' (.int (x <<< (y &&& 31)) :: st)) : GW p l e R s m args below meth c D A nL Q ce sl ws lv pc (.int y :: .int x :: st) := by
  subst hp
  exact fun H locs ls hP hD hS hl => lv_ishl κ.1.1 κ.1.2.1  hd  (kk H locs ls hP hD hS hl)
theorem gw_ishr (κ : KC p s m args meth c cc nL own D cI cR A ret) {x y : Int32} (hd : decode cc pc = .ok (.ishr, 1)) (hp : pc + 1 = pc')  (kk : GW p l e R s m args below meth c D A nL Q ce sl ws lv pc' (.int (x >>> (y &&& 31)) :: st)) : GW p l e R s m args below meth c D A nL Q ce sl ws lv pc (.int y :: .int x :: st) := by
  subst hp
  exact fun H locs ls hP hD hS hl => lv_ishr κ.1.1 κ.1.2.1  hd  (kk H locs ls hP hD hS hl)
theorem gw_idiv (κ : KC p s m args meth c cc nL own D cI cR A ret) {x y : Int32} (hd : decode cc pc = .ok (.idiv, 1)) (hp : pc + 1 = pc')  (hne : ¬ y = 0) (kk : GW p l e R s m args below meth c D A nL Q ce sl ws lv pc' (.int (x / y) :: st)) : GW p l e R s m args below meth c D A nL Q ce sl ws lv pc (.int y :: .int x :: st) := by
  subst hp
  exact fun H locs ls hP hD hS hl => lv_idiv κ.1.1 κ.1.2.1  hd hne (kk H locs ls hP hD hS hl)
theorem gw_irem (κ : KC p s m args meth c cc nL own D cI cR A ret) {x y : Int32} (hd : decode cc pc = .ok (.irem, 1)) (hp : pc + 1 = pc')  (hne : ¬ y = 0) (kk : GW p l e R s m args below meth c D A nL Q ce sl ws lv pc' (.int (x - x / y * y) :: st)) : GW p l e R s m args below meth c D A nL Q ce sl ws lv pc (.int y :: .int x :: st) := by
  subst hp
  exact fun H locs ls hP hD hS hl => lv_irem κ.1.1 κ.1.2.1  hd hne (kk H locs ls hP hD hS hl)
theorem gw_land (κ : KC p s m args meth c cc nL own D cI cR A ret) {x y : Int64} (hd : decode cc pc = .ok (.land, 1)) (hp : pc + 1 = pc')  (kk : GW p l e R s m args below meth c D A nL Q ce sl ws lv pc' (.long (x &&& y) :: st)) : GW p l e R s m args below meth c D A nL Q ce sl ws lv pc (.long y :: .long x :: st) := by
  subst hp
  exact fun H locs ls hP hD hS hl => lv_land κ.1.1 κ.1.2.1  hd  (kk H locs ls hP hD hS hl)
theorem gw_lor (κ : KC p s m args meth c cc nL own D cI cR A ret) {x y : Int64} (hd : decode cc pc = .ok (.lor, 1)) (hp : pc + 1 = pc')  (kk : GW p l e R s m args below meth c D A nL Q ce sl ws lv pc' (.long (x ||| y) :: st)) : GW p l e R s m args below meth c D A nL Q ce sl ws lv pc (.long y :: .long x :: st) := by
  subst hp
  exact fun H locs ls hP hD hS hl => lv_lor κ.1.1 κ.1.2.1  hd  (kk H locs ls hP hD hS hl)
theorem gw_iushr (κ : KC p s m args meth c cc nL own D cI cR A ret) {x y : Int32} (hd : decode cc pc = .ok (.iushr, 1)) (hp : pc + 1 = pc')  (kk : GW p l e R s m args below meth c D A nL Q ce sl ws lv pc' (.int ((x.toUInt32 >>> (y.toUInt32 &&& Int32.toUInt32 31)).toInt32) :: st)) : GW p l e R s m args below meth c D A nL Q ce sl ws lv pc (.int y :: .int x :: st) := by
  subst hp
  exact fun H locs ls hP hD hS hl => lv_iushr κ.1.1 κ.1.2.1  hd rfl (kk H locs ls hP hD hS hl)
theorem gw_lushr (κ : KC p s m args meth c cc nL own D cI cR A ret) {x : Int64} {y : Int32} (hd : decode cc pc = .ok (.lushr, 1)) (hp : pc + 1 = pc')   (kk : GW p l e R s m args below meth c D A nL Q ce sl ws lv pc' (.long ((x.toUInt64 >>> (y.toInt64.toUInt64 &&& Int64.toUInt64 63)).toInt64) :: st)) : GW p l e R s m args below meth c D A nL Q ce sl ws lv pc (.int y :: .long x :: st) := by
  subst hp
  exact fun H locs ls hP hD hS hl => lv_lushr κ.1.1 κ.1.2.1  hd rfl (kk H locs ls hP hD hS hl)
theorem gw_lshl (κ : KC p s m args meth c cc nL own D cI cR A ret) {x : Int64} {y : Int32} (hd : decode cc pc = .ok (.lshl, 1)) (hp : pc + 1 = pc')   (kk : GW p l e R s m args below meth c D A nL Q ce sl ws lv pc' (.long (x <<< (y.toInt64 &&& 63)) :: st)) : GW p l e R s m args below meth c D A nL Q ce sl ws lv pc (.int y :: .long x :: st) := by
  subst hp
  exact fun H locs ls hP hD hS hl => lv_lshl κ.1.1 κ.1.2.1  hd rfl (kk H locs ls hP hD hS hl)
theorem gw_i2l (κ : KC p s m args meth c cc nL own D cI cR A ret) {x : Int32} (hd : decode cc pc = .ok (.i2l, 1)) (hp : pc + 1 = pc')  (kk : GW p l e R s m args below meth c D A nL Q ce sl ws lv pc' (.long x.toInt64 :: st)) : GW p l e R s m args below meth c D A nL Q ce sl ws lv pc (.int x :: st) := by
  subst hp
  exact fun H locs ls hP hD hS hl => lv_i2l κ.1.1 κ.1.2.1  hd rfl (kk H locs ls hP hD hS hl)
theorem gw_l2i (κ : KC p s m args meth c cc nL own D cI cR A ret) {x : Int64} (hd : decode cc pc = .ok (.l2i, 1)) (hp : pc + 1 = pc')  (kk : GW p l e R s m args below meth c D A nL Q ce sl ws lv pc' (.int x.toInt32 :: st)) : GW p l e R s m args below meth c D A nL Q ce sl ws lv pc (.long x :: st) := by
  subst hp
  exact fun H locs ls hP hD hS hl => lv_l2i κ.1.1 κ.1.2.1  hd rfl (kk H locs ls hP hD hS hl)
theorem gw_dup (κ : KC p s m args meth c cc nL own D cI cR A ret) {va : Value} (hd : decode cc pc = .ok (.dup, 1)) (hp : pc + 1 = pc')  (hva : va.category = 1) (kk : GW p l e R s m args below meth c D A nL Q ce sl ws lv pc' (va :: va :: st)) : GW p l e R s m args below meth c D A nL Q ce sl ws lv pc (va :: st) := by
  subst hp
  exact fun H locs ls hP hD hS hl => lv_dup κ.1.1 κ.1.2.1  hd hva (kk H locs ls hP hD hS hl)
theorem gw_dup2 (κ : KC p s m args meth c cc nL own D cI cR A ret) {va vb : Value} (hd : decode cc pc = .ok (.dup2, 1)) (hp : pc + 1 = pc')  (hva : va.category = 1) (hvb : vb.category = 1) (kk : GW p l e R s m args below meth c D A nL Q ce sl ws lv pc' (va :: vb :: va :: vb :: st)) : GW p l e R s m args below meth c D A nL Q ce sl ws lv pc (va :: vb :: st) := by
  subst hp
  exact fun H locs ls hP hD hS hl => lv_dup2_11 κ.1.1 κ.1.2.1  hd hva hvb (kk H locs ls hP hD hS hl)
theorem gw_lcmp (κ : KC p s m args meth c cc nL own D cI cR A ret) {x y : Int64} (hd : decode cc pc = .ok (.lcmp, 1)) (hp : pc + 1 = pc')  (kk : GW p l e R s m args below meth c D A nL Q ce sl ws lv pc' (.int (lg_cmp x y) :: st)) : GW p l e R s m args below meth c D A nL Q ce sl ws lv pc (.long y :: .long x :: st) := by
  subst hp
  exact fun H locs ls hP hD hS hl => W.lcmp κ.1.1 κ.1.2.1 hd (kk H locs ls hP hD hS hl)
theorem gw_if_eq (κ : KC p s m args meth c cc nL own D cI cR A ret) {x : Int32} {off : Int} {tgt : Nat} (hd : decode cc pc = .ok (.ifCond .eq off, 3)) (hp : pc + 3 = pc')    (ht : (pc : Int) + off = (tgt : Int)) (kt : x = 0 → GW p l e R s m args below meth c D A nL Q ce sl ws lv tgt st) (kf : ¬ x = 0 → GW p l e R s m args below meth c D A nL Q ce sl ws lv pc' st) : GW p l e R s m args below meth c D A nL Q ce sl ws lv pc (.int x :: st) := by
  subst hp
  exact fun H locs ls hP hD hS hl => lv_if_eq κ.1.1 κ.1.2.1 hd ht (fun h => kt h H locs ls hP hD hS hl) (fun h => kf h H locs ls hP hD hS hl)
theorem gw_if_ne (κ : KC p s m args meth c cc nL own D cI cR A ret) {x : Int32} {off : Int} {tgt : Nat} (hd : decode cc pc = .ok (.ifCond .ne off, 3)) (hp : pc + 3 = pc')    (ht : (pc : Int) + off = (tgt : Int)) (kt : ¬ x = 0 → GW p l e R s m args below meth c D A nL Q ce sl ws lv tgt st) (kf : x = 0 → GW p l e R s m args below meth c D A nL Q ce sl ws lv pc' st) : GW p l e R s m args below meth c D A nL Q ce sl ws lv pc (.int x :: st) := by
  subst hp
  exact fun H locs ls hP hD hS hl => lv_if_ne κ.1.1 κ.1.2.1 hd ht (fun h => kt h H locs ls hP hD hS hl) (fun h => kf h H locs ls hP hD hS hl)
theorem gw_if_lt (κ : KC p s m args meth c cc nL own D cI cR A ret) {x : Int32} {off : Int} {tgt : Nat} (hd : decode cc pc = .ok (.ifCond .lt off, 3)) (hp : pc + 3 = pc')    (ht : (pc : Int) + off = (tgt : Int)) (kt : x < 0 → GW p l e R s m args below meth c D A nL Q ce sl ws lv tgt st) (kf : ¬ x < 0 → GW p l e R s m args below meth c D A nL Q ce sl ws lv pc' st) : GW p l e R s m args below meth c D A nL Q ce sl ws lv pc (.int x :: st) := by
  subst hp
  exact fun H locs ls hP hD hS hl => lv_if_lt κ.1.1 κ.1.2.1 hd ht (fun h => kt h H locs ls hP hD hS hl) (fun h => kf h H locs ls hP hD hS hl)
theorem gw_if_ge (κ : KC p s m args meth c cc nL own D cI cR A ret) {x : Int32} {off : Int} {tgt : Nat} (hd : decode cc pc = .ok (.ifCond .ge off, 3)) (hp : pc + 3 = pc')    (ht : (pc : Int) + off = (tgt : Int)) (kt : 0 ≤ x → GW p l e R s m args below meth c D A nL Q ce sl ws lv tgt st) (kf : ¬ 0 ≤ x → GW p l e R s m args below meth c D A nL Q ce sl ws lv pc' st) : GW p l e R s m args below meth c D A nL Q ce sl ws lv pc (.int x :: st) := by
  subst hp
  exact fun H locs ls hP hD hS hl => lv_if_ge κ.1.1 κ.1.2.1 hd ht (fun h => kt h H locs ls hP hD hS hl) (fun h => kf h H locs ls hP hD hS hl)
theorem gw_if_gt (κ : KC p s m args meth c cc nL own D cI cR A ret) {x : Int32} {off : Int} {tgt : Nat} (hd : decode cc pc = .ok (.ifCond .gt off, 3)) (hp : pc + 3 = pc')    (ht : (pc : Int) + off = (tgt : Int)) (kt : 0 < x → GW p l e R s m args below meth c D A nL Q ce sl ws lv tgt st) (kf : ¬ 0 < x → GW p l e R s m args below meth c D A nL Q ce sl ws lv pc' st) : GW p l e R s m args below meth c D A nL Q ce sl ws lv pc (.int x :: st) := by
  subst hp
  exact fun H locs ls hP hD hS hl => lv_if_gt κ.1.1 κ.1.2.1 hd ht (fun h => kt h H locs ls hP hD hS hl) (fun h => kf h H locs ls hP hD hS hl)
theorem gw_if_le (κ : KC p s m args meth c cc nL own D cI cR A ret) {x : Int32} {off : Int} {tgt : Nat} (hd : decode cc pc = .ok (.ifCond .le off, 3)) (hp : pc + 3 = pc')    (ht : (pc : Int) + off = (tgt : Int)) (kt : x ≤ 0 → GW p l e R s m args below meth c D A nL Q ce sl ws lv tgt st) (kf : ¬ x ≤ 0 → GW p l e R s m args below meth c D A nL Q ce sl ws lv pc' st) : GW p l e R s m args below meth c D A nL Q ce sl ws lv pc (.int x :: st) := by
  subst hp
  exact fun H locs ls hP hD hS hl => lv_if_le κ.1.1 κ.1.2.1 hd ht (fun h => kt h H locs ls hP hD hS hl) (fun h => kf h H locs ls hP hD hS hl)
theorem gw_icmp_eq (κ : KC p s m args meth c cc nL own D cI cR A ret) {x y : Int32} {off : Int} {tgt : Nat} (hd : decode cc pc = .ok (.if_icmp .eq off, 3)) (hp : pc + 3 = pc')    (ht : (pc : Int) + off = (tgt : Int)) (kt : x = y → GW p l e R s m args below meth c D A nL Q ce sl ws lv tgt st) (kf : ¬ x = y → GW p l e R s m args below meth c D A nL Q ce sl ws lv pc' st) : GW p l e R s m args below meth c D A nL Q ce sl ws lv pc (.int y :: .int x :: st) := by
  subst hp
  exact fun H locs ls hP hD hS hl => lv_icmp_eq κ.1.1 κ.1.2.1 hd ht (fun h => kt h H locs ls hP hD hS hl) (fun h => kf h H locs ls hP hD hS hl)
theorem gw_icmp_ne (κ : KC p s m args meth c cc nL own D cI cR A ret) {x y : Int32} {off : Int} {tgt : Nat} (hd : decode cc pc = .ok (.if_icmp .ne off, 3)) (hp : pc + 3 = pc')    (ht : (pc : Int) + off = (tgt : Int)) (kt : ¬ x = y → GW p l e R s m args below meth c D A nL Q ce sl ws lv tgt st) (kf : x = y → GW p l e R s m args below meth c D A nL Q ce sl ws lv pc' st) : GW p l e R s m args below meth c D A nL Q ce sl ws lv pc (.int y :: .int x :: st) := by
  subst hp
  exact fun H locs ls hP hD hS hl => lv_icmp_ne κ.1.1 κ.1.2.1 hd ht (fun h => kt h H locs ls hP hD hS hl) (fun h => kf h H locs ls hP hD hS hl)
theorem gw_icmp_lt (κ : KC p s m args meth c cc nL own D cI cR A ret) {x y : Int32} {off : Int} {tgt : Nat} (hd : decode cc pc = .ok (.if_icmp .lt off, 3)) (hp : pc + 3 = pc')    (ht : (pc : Int) + off = (tgt : Int)) (kt : x < y → GW p l e R s m args below meth c D A nL Q ce sl ws lv tgt st) (kf : ¬ x < y → GW p l e R s m args below meth c D A nL Q ce sl ws lv pc' st) : GW p l e R s m args below meth c D A nL Q ce sl ws lv pc (.int y :: .int x :: st) := by
  subst hp
  exact fun H locs ls hP hD hS hl => lv_icmp_lt κ.1.1 κ.1.2.1 hd ht (fun h => kt h H locs ls hP hD hS hl) (fun h => kf h H locs ls hP hD hS hl)
theorem gw_icmp_ge (κ : KC p s m args meth c cc nL own D cI cR A ret) {x y : Int32} {off : Int} {tgt : Nat} (hd : decode cc pc = .ok (.if_icmp .ge off, 3)) (hp : pc + 3 = pc')    (ht : (pc : Int) + off = (tgt : Int)) (kt : y ≤ x → GW p l e R s m args below meth c D A nL Q ce sl ws lv tgt st) (kf : ¬ y ≤ x → GW p l e R s m args below meth c D A nL Q ce sl ws lv pc' st) : GW p l e R s m args below meth c D A nL Q ce sl ws lv pc (.int y :: .int x :: st) := by
  subst hp
  exact fun H locs ls hP hD hS hl => lv_icmp_ge κ.1.1 κ.1.2.1 hd ht (fun h => kt h H locs ls hP hD hS hl) (fun h => kf h H locs ls hP hD hS hl)
theorem gw_icmp_gt (κ : KC p s m args meth c cc nL own D cI cR A ret) {x y : Int32} {off : Int} {tgt : Nat} (hd : decode cc pc = .ok (.if_icmp .gt off, 3)) (hp : pc + 3 = pc')    (ht : (pc : Int) + off = (tgt : Int)) (kt : y < x → GW p l e R s m args below meth c D A nL Q ce sl ws lv tgt st) (kf : ¬ y < x → GW p l e R s m args below meth c D A nL Q ce sl ws lv pc' st) : GW p l e R s m args below meth c D A nL Q ce sl ws lv pc (.int y :: .int x :: st) := by
  subst hp
  exact fun H locs ls hP hD hS hl => lv_icmp_gt κ.1.1 κ.1.2.1 hd ht (fun h => kt h H locs ls hP hD hS hl) (fun h => kf h H locs ls hP hD hS hl)
theorem gw_icmp_le (κ : KC p s m args meth c cc nL own D cI cR A ret) {x y : Int32} {off : Int} {tgt : Nat} (hd : decode cc pc = .ok (.if_icmp .le off, 3)) (hp : pc + 3 = pc')    (ht : (pc : Int) + off = (tgt : Int)) (kt : x ≤ y → GW p l e R s m args below meth c D A nL Q ce sl ws lv tgt st) (kf : ¬ x ≤ y → GW p l e R s m args below meth c D A nL Q ce sl ws lv pc' st) : GW p l e R s m args below meth c D A nL Q ce sl ws lv pc (.int y :: .int x :: st) := by
  subst hp
  exact fun H locs ls hP hD hS hl => lv_icmp_le κ.1.1 κ.1.2.1 hd ht (fun h => kt h H locs ls hP hD hS hl) (fun h => kf h H locs ls hP hD hS hl)
theorem gw_goto (κ : KC p s m args meth c cc nL own D cI cR A ret) {off : Int} {tgt : Nat} (hd : decode cc pc = .ok (.goto off, 3))    (ht : (pc : Int) + off = (tgt : Int)) (kk : GW p l e R s m args below meth c D A nL Q ce sl ws lv tgt st) : GW p l e R s m args below meth c D A nL Q ce sl ws lv pc st := fun H locs ls hP hD hS hl => lv_goto κ.1.1 κ.1.2.1 hd ht (kk H locs ls hP hD hS hl)
theorem gw_tableIn (κ : KC p s m args meth c cc nL own D cI cR A ret) {dflt lo hi : Int} {offs : Array Int} {len : Nat} {x : Int32} {off : Int} {tgt : Nat} (hd : decode cc pc = .ok (.tableswitch dflt lo hi offs, len))        (h1 : ¬ x.toInt < lo) (h2 : ¬ hi < x.toInt) (ho : offs[(x.toInt - lo).toNat]? = some off) (ht : (pc : Int) + off = (tgt : Int)) (kk : GW p l e R s m args below meth c D A nL Q ce sl ws lv tgt st) : GW p l e R s m args below meth c D A nL Q ce sl ws lv pc (.int x :: st) := fun H locs ls hP hD hS hl => lv_tableIn κ.1.1 κ.1.2.1 hd h1 h2 ho ht (kk H locs ls hP hD hS hl)
theorem gw_tableOut (κ : KC p s m args meth c cc nL own D cI cR A ret) {dflt lo hi : Int} {offs : Array Int} {len : Nat} {x : Int32} {tgt : Nat} (hd : decode cc pc = .ok (.tableswitch dflt lo hi offs, len))       (h : x.toInt < lo ∨ hi < x.toInt) (ht : (pc : Int) + dflt = (tgt : Int)) (kk : GW p l e R s m args below meth c D A nL Q ce sl ws lv tgt st) : GW p l e R s m args below meth c D A nL Q ce sl ws lv pc (.int x :: st) := fun H locs ls hP hD hS hl => lv_tableOut κ.1.1 κ.1.2.1 hd h ht (kk H locs ls hP hD hS hl)
theorem gw_ifnonnull (κ : KC p s m args meth c cc nL own D cI cR A ret) {x : Nat} {off : Int} {tgt : Nat} (hd : decode cc pc = .ok (.ifnonnull off, 3))     (ht : (pc : Int) + off = (tgt : Int)) (kk : GW p l e R s m args below meth c D A nL Q ce sl ws lv tgt st) : GW p l e R s m args below meth c D A nL Q ce sl ws lv pc (.ref x :: st) := fun H locs ls hP hD hS hl => lv_ifnonnull κ.1.1 κ.1.2.1 hd ht (kk H locs ls hP hD hS hl)
theorem gw_ifnonnullN (κ : KC p s m args meth c cc nL own D cI cR A ret) {off : Int} (hd : decode cc pc = .ok (.ifnonnull off, 3)) (hp : pc + 3 = pc')  (kk : GW p l e R s m args below meth c D A nL Q ce sl ws lv pc' st) : GW p l e R s m args below meth c D A nL Q ce sl ws lv pc (.null :: st) := by
  subst hp
  exact fun H locs ls hP hD hS hl => lv_ifnonnullN κ.1.1 κ.1.2.1 hd (kk H locs ls hP hD hS hl)
theorem gw_ldcw (κ : KC p s m args meth c cc nL own D cI cR A ret) {idx : Nat} {v : Int32} (hd : decode cc pc = .ok (.ldc_w idx, 3)) (hp : pc + 3 = pc')   (hw : Cond.constant own idx v ∈ lw_good) (kk : GW p l e R s m args below meth c D A nL Q ce sl ws lv pc' (.int v :: st)) : GW p l e R s m args below meth c D A nL Q ce sl ws lv pc st := by
  subst hp
  exact fun H locs ls hP hD hS hl => lv_ldcw κ.1.1 κ.1.2.1 κ.1.2.2.2.1 (κ.1.2.2.2.2 _ hw) hd (kk H locs ls hP hD hS hl)
theorem gw_ldc2 (κ : KC p s m args meth c cc nL own D cI cR A ret) {idx : Nat} {v : Int64} (hd : decode cc pc = .ok (.ldc2_w idx, 3)) (hp : pc + 3 = pc')   (hw : Cond.constantLong own idx v ∈ lw_good) (kk : GW p l e R s m args below meth c D A nL Q ce sl ws lv pc' (.long v :: st)) : GW p l e R s m args below meth c D A nL Q ce sl ws lv pc st := by
  subst hp
  exact fun H locs ls hP hD hS hl => lv_ldc2 κ.1.1 κ.1.2.1 κ.1.2.2.2.1 (κ.1.2.2.2.2 _ hw) hd (kk H locs ls hP hD hS hl)
theorem gw_get (κ : KC p s m args meth c cc nL own D cI cR A ret) {C : String} {T : u_T} {N ci idx a : Nat} {fs : List Value} {v : Value} (hd : decode cc pc = .ok (.getfield idx, 3)) (hp : pc + 3 = pc')    (hin : ∀ w ∈ u_ws C T N, w ∈ lw_good) (q0 : Nat)  (he : ws[q0]? = some (a, .inr (ci, fs))) (hc : vwCl[ci]? = some (C, T, N)) (k : Nat) (hk : k < N) (hlink : Cond.fieldLink own idx (T k).1 (T k).2.1 (T k).2.2.1 ∈ lw_good)  (hv : fs[k]? = some v) (kk : GW p l e R s m args below meth c D A nL Q ce sl ws lv pc' (v :: st)) : GW p l e R s m args below meth c D A nL Q ce sl ws lv pc (.ref a :: st) := by
  subst hp
  exact fun H locs ls hP hD hS hl => va_get κ.1.1 κ.1.2.1 κ.1.2.2.2.2 hin κ.1.2.2.2.1 κ.2.1 hP q0 he hc k hk (κ.1.2.2.2.2 _ hlink) (fun _ h => h) hv hd (kk H locs ls hP hD hS hl)
theorem gw_put (κ : KC p s m args meth c cc nL own D cI cR A ret) {C : String} {T : u_T} {N ci idx a : Nat} {fs : List Value} {ty : FieldType} {v : Value} {ws' : va_W} (hd : decode cc pc = .ok (.putfield idx, 3)) (hp : pc + 3 = pc')    (hin : ∀ w ∈ u_ws C T N, w ∈ lw_good) (ty0 : Nat → FieldType) (hty : ∀ k, k < N → parseFieldDescriptor (T k).2.2.1 = some (ty0 k)) (hnm : ∀ a, a < N → ∀ b, b < N → a ≠ b → (T a).2.1 ≠ (T b).2.1) (q0 : Nat)  (he : ws[q0]? = some (a, .inr (ci, fs))) (hc : vwCl[ci]? = some (C, T, N)) (k : Nat) (hk : k < N) (hlink : Cond.fieldLink own idx (T k).1 (T k).2.1 (T k).2.2.1 ∈ lw_good) (hfin : (T k).2.2.2 = false)   (hdd : parseFieldDescriptor (T k).2.2.1 = some ty) (hn : narrow ty v = v) (hfit : fits ty v = true) (hlen : k < fs.length)  (hw : ws.set q0 (a, .inr (ci, fs.set k v)) = ws') (kk : GW p l e R s m args below meth c D A nL Q ce sl ws' lv pc' st) : GW p l e R s m args below meth c D A nL Q ce sl ws lv pc (v :: .ref a :: st) := by
  subst hp
  subst hw
  exact fun H locs ls hP hD hS hl => va_put κ.1.1 κ.1.2.1 κ.1.2.2.2.2 hin ty0 hty hnm κ.1.2.2.2.1 κ.2.1 hP hD hS q0 he hc k hk (κ.1.2.2.2.2 _ hlink) (fun _ h => h) hfin hdd hn hfit hlen hd (fun H1 locs1 hP1 hD1 hS1 => kk H1 locs1 ls hP1 hD1 hS1 hl)
theorem gw_putF (κ : KC p s m args meth c cc nL own D cI cR A ret) {C : String} {T : u_T} {N ci idx a : Nat} {fs : List Value} {ty : FieldType} {v : Value} {ws' : va_W} (hd : decode cc pc = .ok (.putfield idx, 3)) (hp : pc + 3 = pc')    (hin : ∀ w ∈ u_ws C T N, w ∈ lw_good) (ty0 : Nat → FieldType) (hty : ∀ k, k < N → parseFieldDescriptor (T k).2.2.1 = some (ty0 k)) (hnm : ∀ a, a < N → ∀ b, b < N → a ≠ b → (T a).2.1 ≠ (T b).2.1) (q0 : Nat)  (he : ws[q0]? = some (a, .inr (ci, fs))) (hc : vwCl[ci]? = some (C, T, N)) (k : Nat) (hk : k < N) (hlink : Cond.fieldLink own idx (T k).1 (T k).2.1 (T k).2.2.1 ∈ lw_good) (hfin : (T k).2.2.2 = true) (hin2 : meth.name = "<init>") (hdecl : (T k).1 = own)   (hdd : parseFieldDescriptor (T k).2.2.1 = some ty) (hn : narrow ty v = v) (hfit : fits ty v = true) (hlen : k < fs.length)  (hw : ws.set q0 (a, .inr (ci, fs.set k v)) = ws') (kk : GW p l e R s m args below meth c D A nL Q ce sl ws' lv pc' st) : GW p l e R s m args below meth c D A nL Q ce sl ws lv pc (v :: .ref a :: st) := by
  subst hp
  subst hw
  exact fun H locs ls hP hD hS hl => va_putF κ.1.1 κ.1.2.1 κ.1.2.2.2.2 hin ty0 hty hnm κ.1.2.2.2.1 κ.2.1 hP hD hS q0 he hc k hk (κ.1.2.2.2.2 _ hlink) (fun _ h => h) hfin hin2 hdecl hdd hn hfit hlen hd (fun H1 locs1 hP1 hD1 hS1 => kk H1 locs1 ls hP1 hD1 hS1 hl)
theorem gw_iald (κ : KC p s m args meth c cc nL own D cI cR A ret) {a n : Nat} {f : Nat → Int32} {i : Int32} (hd : decode cc pc = .ok (.iaload, 1)) (hp : pc + 1 = pc')   (q0 : Nat) (ha : ws[q0]? = some (a, .inl (cI, n, .inl f)))  (hin : vp_in i n) (kk : GW p l e R s m args below meth c D A nL Q ce sl ws lv pc' (.int (f i.toNatClampNeg) :: st)) : GW p l e R s m args below meth c D A nL Q ce sl ws lv pc (.int i :: .ref a :: st) := by
  subst hp
  exact fun H locs ls hP hD hS hl => va_iald κ.1.1 κ.1.2.1 κ.2.1 hP q0 0 ha rfl hin hd (kk H locs ls hP hD hS hl)
theorem gw_iast (κ : KC p s m args meth c cc nL own D cI cR A ret) {a n : Nat} {f : Nat → Int32} {i x : Int32} {ws' : va_W} (hd : decode cc pc = .ok (.iastore, 1)) (hp : pc + 1 = pc')   (q0 : Nat) (ha : ws[q0]? = some (a, .inl (cI, n, .inl f)))  (hin : vp_in i n)  (hw : ws.set q0 (a, .inl (cI, n, .inl (upd f i.toNatClampNeg x))) = ws') (kk : GW p l e R s m args below meth c D A nL Q ce sl ws' lv pc' st) : GW p l e R s m args below meth c D A nL Q ce sl ws lv pc (.int x :: .int i :: .ref a :: st) := by
  subst hp
  subst hw
  exact fun H locs ls hP hD hS hl => va_iast κ.1.1 κ.1.2.1 κ.2.1 hP hD hS q0 0 ha rfl hin hd (fun H1 locs1 hP1 hD1 hS1 => kk H1 locs1 ls hP1 hD1 hS1 hl)
theorem gw_aald (κ : KC p s m args meth c cc nL own D cI cR A ret) {a n : Nat} {f : Nat → Option Nat} {i : Int32} {v : Value} (hd : decode cc pc = .ok (.aaload, 1)) (hp : pc + 1 = pc')   (q0 : Nat) (ha : ws[q0]? = some (a, .inl (cR, n, .inr (.inr (.inr (.inr f))))))  (hin : vp_in i n)  (hv : va_rf (f i.toNatClampNeg) = v) (kk : GW p l e R s m args below meth c D A nL Q ce sl ws lv pc' (v :: st)) : GW p l e R s m args below meth c D A nL Q ce sl ws lv pc (.int i :: .ref a :: st) := by
  subst hp
  subst hv
  exact fun H locs ls hP hD hS hl => va_aldq κ.1.1 κ.1.2.1 κ.2.1 hP q0 1 ha rfl hin hd (kk H locs ls hP hD hS hl)
theorem gw_aast (κ : KC p s m args meth c cc nL own D cI cR A ret) {a n v : Nat} {vs : List Value} {f : Nat → Option Nat} {i : Int32} {ws' : va_W} (hd : decode cc pc = .ok (.aastore, 1)) (hp : pc + 1 = pc')    (q0 qk : Nat) (ha : ws[q0]? = some (a, .inl (cR, n, .inr (.inr (.inr (.inr f)))))) (hv : ws[qk]? = some (v, .inr (3, vs)))  (hin : vp_in i n)  (hw : ws.set q0 (a, .inl (cR, n, .inr (.inr (.inr (.inr (va_up f i.toNatClampNeg (some v))))))) = ws') (kk : GW p l e R s m args below meth c D A nL Q ce sl ws' lv pc' st) : GW p l e R s m args below meth c D A nL Q ce sl ws lv pc (.ref v :: .int i :: .ref a :: st) := by
  subst hp
  subst hw
  exact fun H locs ls hP hD hS hl => va_astq (r := (RX3, TX3, 10)) κ.1.1 κ.1.2.1 κ.2.1 hP hD hS q0 1 qk 3 ha rfl hv rfl hin hd (fun H1 locs1 hP1 hD1 hS1 => kk H1 locs1 ls hP1 hD1 hS1 hl)
theorem gw_new (κ : KC p s m args meth c cc nL own D cI cR A ret) {C : String} {T : u_T} {N ci idx : Nat} {fs : List Value} (hd : decode cc pc = .ok (.new idx, 3)) (hp : pc + 3 = pc')    (hin : ∀ w ∈ u_ws C T N, w ∈ lw_good) (ty : Nat → FieldType) (hty : ∀ k, k < N → parseFieldDescriptor (T k).2.2.1 = some (ty k)) (hcl : Cond.classLink own idx C ∈ lw_good) (hinst : Cond.instantiable C N ∈ lw_good) (hini : Cond.initialized C ∈ lw_good) (hc : vwCl[ci]? = some (C, T, N))  (hfs : ∀ j, j < N → defaultValue (ty j) = vp_V fs j) (hcells : ce + 1 ≤ R.cells) (hslots : sl + N ≤ R.slots) (kk : ∀ q : Nat, GW p l e R s m args below meth c D A nL Q (ce + 1) (sl + N) (ws ++ [(q, .inr (ci, fs))]) lv pc' (.ref q :: st)) : GW p l e R s m args below meth c D A nL Q ce sl ws lv pc st := by
  subst hp
  exact fun H locs ls hP hD hS hl => va_new κ.1.1 κ.1.2.1 κ.1.2.2.2.2 hin ty hty κ.1.2.2.2.1 (κ.1.2.2.2.2 _ hcl) (κ.1.2.2.2.2 _ hinst) (κ.1.2.2.2.2 _ hini) κ.2.1 hP hD hS κ.2.2.1 hc hfs hcells hslots hd (fun q H1 hP1 hD1 hS1 => kk q H1 locs ls hP1 hD1 hS1 hl)
theorem gw_newa (κ : KC p s m args meth c cc nL own D cI cR A ret) {n : Int32} {N : Nat} (hd : decode cc pc = .ok (.newarray .int, 2)) (hp : pc + 2 = pc')   (hn : ¬ n < 0) (hN : n.toNatClampNeg = N) (hbytes : N * 4 ≤ 536870912) (hcells : ce + 1 ≤ R.cells) (hslots : sl + N ≤ R.slots) (kk : ∀ q : Nat, GW p l e R s m args below meth c D A nL Q (ce + 1) (sl + N) (ws ++ [(q, .inl (cI, N, .inl (fun _ => 0)))]) lv pc' (.ref q :: st)) : GW p l e R s m args below meth c D A nL Q ce sl ws lv pc (.int n :: st) := by
  subst hp
  intro H locs ls hP hD hS hl
  refine va_newa (atype := .int) (ty := .int) (a0 := (N, .inl (fun _ => 0))) κ.1.1 κ.1.2.1 (κ.1.2.2.2.2 _ tw_ac_int) rfl κ.2.1 hP hD hS κ.2.2.1 (fun _ => rfl) hn hN hbytes hcells hslots hd (fun q cA H1 hK1 hP1 hD1 hS1 => ?_)
  have e : cA = cI := Option.some.inj ((va_nm_int (hK1.2 2 _ rfl).2).symm.trans (va_nm_int (κ.2.1.2 0 _ rfl).2))
  subst e
  exact kk q H1 locs ls hP1 hD1 hS1 hl
theorem gw_newq (κ : KC p s m args meth c cc nL own D cI cR A ret) {n : Int32} {N idx : Nat} (hd : decode cc pc = .ok (.anewarray idx, 3)) (hp : pc + 3 = pc')   (hcl : Cond.classLink own idx RX3 ∈ lw_good) (hn : ¬ n < 0) (hN : n.toNatClampNeg = N) (hbytes : N * 4 ≤ 536870912) (hcells : ce + 1 ≤ R.cells) (hslots : sl + N ≤ R.slots) (kk : ∀ q : Nat, GW p l e R s m args below meth c D A nL Q (ce + 1) (sl + N) (ws ++ [(q, .inl (cR, N, .inr (.inr (.inr (.inr (fun _ => none))))))]) lv pc' (.ref q :: st)) : GW p l e R s m args below meth c D A nL Q ce sl ws lv pc (.int n :: st) := by
  subst hp
  intro H locs ls hP hD hS hl
  refine va_newq κ.1.1 κ.1.2.1 κ.1.2.2.2.1 (κ.1.2.2.2.2 _ hcl) κ.2.2.2.1.2.2.2.2.2.2.2.2.2.2 κ.2.1 hP hD hS κ.2.2.1 hn hN hbytes hcells hslots hd (fun q cA H1 hK1 hP1 hD1 hS1 => ?_)
  obtain ⟨kA, comp, -, -, -, e1⟩ := (hK1.2 2 _ rfl).2
  obtain ⟨kA2, comp2, -, -, -, e2⟩ := (κ.2.1.2 1 _ rfl).2
  have e : cA = cR := Option.some.inj (e1.symm.trans e2)
  subst e
  exact kk q H1 locs ls hP1 hD1 hS1 hl
theorem gw_objInit (κ : KC p s m args meth c cc nL own D cI cR A ret) {idx a : Nat} (hd : decode cc pc = .ok (.invokespecial idx, 3)) (hp : pc + 3 = pc')  (hlink : Cond.methodLink own idx objectInit ∈ lw_good) (hR : 1 ≤ R.frames ∧ (st.map fun v => v.category).sum + 12 ≤ R.locals) (kk : GW p l e R s m args below meth c D A nL Q ce sl ws lv pc' st) : GW p l e R s m args below meth c D A nL Q ce sl ws lv pc (.ref a :: st) := by
  subst hp
  intro H locs ls hP hD hS hl
  have hts := κ.1.2.2.2.2
  refine W.objInit κ.1.1 κ.1.2.1 κ.1.2.2.2.1 (hts _ hlink) (hts _ tw_im_Object_init) (hts _ tw_co_Object_init) rfl (by rw [κ.1.2.2.1]; exact hl.1) rfl hd hR.1 (by show 2 * 0 + _ + 12 ≤ _; omega) ?_
  exact kk H locs ls hP hD hS hl
theorem g_cpy_eq {cA : ClassId} {n : Nat} {f g : Nat → Int32} (h : ∀ j, j < n → f j = g j) : vp_cell cA (n, .inl f) = vp_cell cA (n, .inl g) := by
  rw [vp_cell_i, vp_cell_i]
  unfold arrV
  congr 1
  apply Array.ext
  · simp
  · intro j h1 h2
    simp only [Array.getElem_ofFn]
    rw [h j (by simpa using h1)]
theorem gw_cell {a n : Nat} {f g : Nat → Int32} (q0 : Nat) (ha : ws[q0]? = some (a, .inl (cI, n, .inl f))) (h : ∀ j, j < n → f j = g j) {ws' : va_W} (hw : ws.set q0 (a, .inl (cI, n, .inl g)) = ws') (kk : GW p l e R s m args below meth c D A nL Q ce sl ws' lv pc st) : GW p l e R s m args below meth c D A nL Q ce sl ws lv pc st := by
  subst hw
  intro H locs ls hP hD hS hl
  refine kk H locs ls (hP.set hD ha ?_ (fun _ _ => rfl)) (hD.set ha) hS hl
  have h1 : H[a]? = some (vp_cell cI (n, .inl f)) := hP q0 _ ha
  show H[a]? = some (vp_cell cI (n, .inl g))
  rw [h1, g_cpy_eq h]
theorem gw_copy (κ : KC p s m args meth c cc nL own D cI cR A ret) {a0 a1 n0 idx : Nat} {f g : Nat → Int32} {n : Int32} {ws' : va_W} (hd : decode cc pc = .ok (.invokestatic idx, 3)) (hp : pc + 3 = pc')   (q0 q1 : Nat) (ha0 : ws[q0]? = some (a0, .inl (cI, n0, .inl f))) (ha1 : ws[q1]? = some (a1, .inl (cI, n0, .inl g)))  (hnn : ¬ n < 0) (hn : n.toNatClampNeg = n0) (hlink : Cond.methodLink own idx arraycopyName ∈ lw_good) (hini : Cond.initialized "java/lang/System" ∈ lw_good) (hR : 1 ≤ R.frames ∧ (st.map fun v => v.category).sum + (nativeFrameWords "java/lang/System" "arraycopy" 5 + 11) ≤ R.locals)  (hw : ws.set q1 (a1, .inl (cI, n0, .inl f)) = ws') (kk : GW p l e R s m args below meth c D A nL Q ce sl ws' lv pc' st) : GW p l e R s m args below meth c D A nL Q ce sl ws lv pc (.int n :: .int 0 :: .ref a1 :: .int 0 :: .ref a0 :: st) := by
  subst hp
  subst hw
  subst hn
  intro H locs ls hP hD hS hl
  have hts := κ.1.2.2.2.2
  have z : (0 : Int32).toNatClampNeg = 0 := by decide
  refine va_copyi (ty := .int) κ.1.1 κ.1.2.1 (by rw [κ.1.2.2.1]; exact hl.1.symm) κ.1.2.2.2.1 (hts _ hlink) (hts _ tw_na_arraycopy) (hts _ tw_st_arraycopy) (hts _ hini) κ.2.1 hP hD hS q0 q1 0 0 ha0 ha1 rfl rfl rfl (by decide) (by decide) hnn (by rw [z]; omega) (by rw [z]; omega) (fun _ _ => rfl) hR.1 hR.2 hd (fun H1 locs1 hP1 hD1 hS1 => ?_)
  have hlt := (List.getElem?_eq_some_iff.mp ha1).1
  have hc := gw_cell (cI := cI) (D := D) (lv := lv) (nL := nL) (A := A) (st := st) (ws := ws.set q1 (a1, .inl (cI, n.toNatClampNeg, .inl (va_cpy f g (0 : Int32).toNatClampNeg (0 : Int32).toNatClampNeg n.toNatClampNeg)))) (g := f) q1 (by rw [List.getElem?_set_self hlt]) (fun j hj => by rw [z]; simp [va_cpy, hj]) (by rw [List.set_set]) kk
  exact hc H1 locs1 ls hP1 hD1 hS1 hl
theorem gw_nf {ws' : va_W} {lv' : List (Nat × Value)} {st' : List Value} {ce' sl' : Nat} (h1 : ws = ws') (h2 : lv = lv') (h3 : st = st') (h4 : pc = pc') (h5 : ce = ce') (h6 : sl = sl') (k : GW p l e R s m args below meth c D A nL Q ce' sl' ws' lv' pc' st') : GW p l e R s m args below meth c D A nL Q ce sl ws lv pc st := by
  subst h1; subst h2; subst h3; subst h4; subst h5; subst h6; exact k
theorem gw_top {x : Int32} (k : ∀ y : Int32, y = x → GW p l e R s m args below meth c D A nL Q ce sl ws lv pc (.int y :: st)) : GW p l e R s m args below meth c D A nL Q ce sl ws lv pc (.int x :: st) := k x rfl
theorem gw_topl {x : Int64} (k : ∀ y : Int64, y = x → GW p l e R s m args below meth c D A nL Q ce sl ws lv pc (.long y :: st)) : GW p l e R s m args below meth c D A nL Q ce sl ws lv pc (.long x :: st) := k x rfl
theorem gw_max (κ : KC p s m args meth c cc nL own D cI cR A ret) {idx : Nat} {x y : Int32} (hd : decode cc pc = .ok (.invokestatic idx, 3)) (hp : pc + 3 = pc')   (hlink : Cond.methodLink own idx Lib.Math.max.name ∈ lw_good) (hst : Cond.static Lib.Math.max.name ∈ lw_good) (hini : Cond.initialized "java/lang/Math" ∈ lw_good) (hco : Cond.code Lib.Math.max.name Lib.Math.max.code 2 (some .int) ∈ lw_good) (hR : 1 ≤ R.frames ∧ (st.map fun v => v.category).sum + 13 ≤ R.locals ∧ ce ≤ R.cells ∧ sl ≤ R.slots) (kk : GW p l e R s m args below meth c D A nL Q ce sl ws lv pc' (.int (if x < y then y else x) :: st)) : GW p l e R s m args below meth c D A nL Q ce sl ws lv pc (.int y :: .int x :: st) := by
  subst hp
  intro H locs ls hP hD hS hl
  have hts := κ.1.2.2.2.2
  exact va_mmax κ.1.1 κ.1.2.1 (by rw [κ.1.2.2.1]; exact hl.1.symm) κ.1.2.2.2.1 (hts _ hlink) (hts _ hst) (hts _ hini) (hts _ hco) hR.1 hR.2.1 hR.2.2.1 hR.2.2.2 hd (kk H locs ls hP hD hS hl)
theorem gw_gets (κ : KC p s m args meth c cc nL own D cI cR A ret) {n : String} {f : Nat → Int32} {idx : Nat} (hd : decode cc pc = .ok (.getstatic idx, 3)) (hp : pc + 3 = pc')    (h : g_S1 n f A s s.heap) (hlink : Cond.fieldLink own idx "ShuttleDoors" n "[I" ∈ lw_good) (kk : ∀ t : Nat, va_T .int t 5 (fun j => .int (f j)) A s s.heap → GW p l e R s m args below meth c D A nL Q ce sl ws lv pc' (.ref t :: st)) : GW p l e R s m args below meth c D A nL Q ce sl ws lv pc st := by
  subst hp
  obtain ⟨t, hZ, hT⟩ := h
  exact fun H locs ls hP hD hS hl => va_gets κ.1.1 κ.1.2.1 hZ hS κ.1.2.2.2.1 (κ.1.2.2.2.2 _ hlink) (fun _ h => h) hd (kk t hT H locs ls hP hD hS hl)
theorem gw_getsN (κ : KC p s m args meth c cc nL own D cI cR A ret) {n host : String} {f : Nat → Int32} {idx : Nat} (hd : decode cc pc = .ok (.getstatic idx, 3)) (hp : pc + 3 = pc')    (h : g_S1 n f A s s.heap) (hlink : va_Nw (.fieldLinkNest own idx "ShuttleDoors" n "[I" host) s) (kk : ∀ t : Nat, va_T .int t 5 (fun j => .int (f j)) A s s.heap → GW p l e R s m args below meth c D A nL Q ce sl ws lv pc' (.ref t :: st)) : GW p l e R s m args below meth c D A nL Q ce sl ws lv pc st := by
  subst hp
  obtain ⟨t, hZ, hT⟩ := h
  exact fun H locs ls hP hD hS hl => va_getsN κ.1.1 κ.1.2.1 hZ hS κ.1.2.2.2.1 (va_Nw.use rfl hlink) (fun _ h => h) hd (kk t hT H locs ls hP hD hS hl)
theorem gw_tiald (κ : KC p s m args meth c cc nL own D cI cR A ret) {t : Nat} {f : Nat → Int32} {i : Int32} (hd : decode cc pc = .ok (.iaload, 1)) (hp : pc + 1 = pc')   (hT : va_T .int t 5 (fun j => .int (f j)) A s s.heap)  (hin : vp_in i 5) (kk : GW p l e R s m args below meth c D A nL Q ce sl ws lv pc' (.int (f i.toNatClampNeg) :: st)) : GW p l e R s m args below meth c D A nL Q ce sl ws lv pc (.int i :: .ref t :: st) := by
  subst hp
  exact fun H locs ls hP hD hS hl => va_ti κ.1.1 κ.1.2.1 hT hS hin rfl hd (kk H locs ls hP hD hS hl)
theorem gw_iret (κ : KC p s m args meth c cc nL own D cI cR A (some .int)) {S : Type} {post : Option Value → S → Prop} {B : S → va_W} {v : Int32} (hd : decode cc pc = .ok (.ireturn, 1))     (u : S) (hu : ws = B u)  (hpost : post (some (.int v)) u) : GW p l e R s m args below meth c D A nL (MQ below (g_Q D post B A) args s ce sl A) ce sl ws lv pc [.int v] := by
  subst hu
  exact fun H locs ls hP hD hS hl => W.iret κ.1.1 κ.1.2.1 κ.2.2.2.2.2 (fun t ht hW => ⟨⟨_, u, rfl, hpost, by rw [ht]; exact hP, hD⟩, hS.F ht⟩) hS.2.2 hd κ.2.2.2.2.1
theorem gw_zret (κ : KC p s m args meth c cc nL own D cI cR A (some .boolean)) {S : Type} {post : Option Value → S → Prop} {B : S → va_W} {v : Int32} (hd : decode cc pc = .ok (.ireturn, 1))     (u : S) (hu : ws = B u)  (hb : narrow .boolean (.int v) = .int v) (hpost : post (some (.int v)) u) : GW p l e R s m args below meth c D A nL (MQ below (g_Q D post B A) args s ce sl A) ce sl ws lv pc [.int v] := by
  subst hu
  exact fun H locs ls hP hD hS hl => W.zret κ.1.1 κ.1.2.1 κ.2.2.2.2.2 hb (fun t ht hW => ⟨⟨_, u, rfl, hpost, by rw [ht]; exact hP, hD⟩, hS.F ht⟩) hS.2.2 hd κ.2.2.2.2.1
theorem gw_vret (κ : KC p s m args meth c cc nL own D cI cR A none) {S : Type} {post : Option Value → S → Prop} {B : S → va_W} (hd : decode cc pc = .ok (.return_, 1))     (u : S) (hu : ws = B u) (hpost : post none u) : GW p l e R s m args below meth c D A nL (MQ below (g_Q D post B A) args s ce sl A) ce sl ws lv pc [] := by
  subst hu
  exact fun H locs ls hP hD hS hl => W.vret κ.1.1 κ.1.2.1 κ.2.2.2.2.2 (fun t ht hW => ⟨⟨_, u, rfl, hpost, by rw [ht]; exact hP, hD⟩, hS.F ht⟩) hS.2.2 hd κ.2.2.2.2.1
end GWR
/-- the way into a method: its walk from the entry gives its contract -/
theorem ct_of {l : Launch} {D : va_G} {cI cR : ClassId} {y : MethodName} {cy : ByteArray} {nLy : Nat} {rety : Option FieldType} {rm : Room} {av : List Value} {wc : va_W} {S : Type} {B : S → va_W} {post : Option Value → S → Prop} {mc ms : Nat} (own : String) (hown : y.cls = own) (hy : plainName y.cls = true) (hav : (lg_sl av).length ≤ nLy)
    (body : ∀ (p : Program) (e : Env) (s : State) (m : MethodId) (below : List Frame) (meth : Method) (c : Code) (A : Nat → Prop), meth.name = y.name → KC p s m av.toArray meth c cy nLy own D cI cR A rety → GM p l e rm s m av.toArray below meth c D A nLy post B mc ms 0 0 wc (lv_args 0 av) 0 []) : CT l D cI cR y cy nLy rety rm av wc B post mc ms := by
  intro sz
  refine Met.ofW (cc := cy) (maxL := nLy) (ret := rety) hy rfl ?_
  intro p e s m args below meth c s₁ Bd hml hv
  obtain ⟨rfl, hsz, hP, hK, hD0, hST⟩ := hv
  subst hsz
  have hD := hD0.self (sz := s.heap.size)
  have hts := atoms_spec (ws := Cond.code y cy nLy rety :: lw_good) Bd.pre
  have hl := lv_entry av (n := nLy) hav
  rw [lg_entry_eq]
  exact body p e s m below meth c (va_A wc s.heap.size) (name_of_methodNamed Bd.named Bd.method).1 ⟨⟨Bd.exec, Bd.bytes, hml, hown ▸ findClass_of_methodNamed Bd.named, fun w hw => hts w (List.mem_cons_of_mem _ hw)⟩, hK, fun q h => Or.inr h, hST, Bd.notSynchronized, Bd.returns⟩ s.heap [] _ hP hD va_S.rf hl
/-- posts of a number, of nothing -/
def pI {S : Type} (P : Int32 → S → Prop) : Option Value → S → Prop := fun v u => ∃ r : Int32, v = some (.int r) ∧ P r u
def pV {S : Type} (P : S → Prop) : Option Value → S → Prop := fun v u => v = none ∧ P u
theorem sw_out {x : Int32} {n : Nat} (hn : n < 2 ^ 31) (h : ∀ k : Nat, k ≤ n → ¬ x = nI k) : x.toInt < (0 : Int) ∨ (n : Int) < x.toInt := by
  rcases Int.lt_or_le x.toInt 0 with h1 | h1
  · exact Or.inl h1
  · rcases Int.lt_or_le (n : Int) x.toInt with h2 | h2
    · exact Or.inr h2
    · exfalso
      refine h x.toInt.toNat (by omega) ?_
      apply Int32.toInt_inj.mp
      rw [nI_toInt (by omega)]
      omega
theorem sw_out2 {x : Int32} {lo hi : Nat} (hn : hi < 2 ^ 31) (h : ∀ k : Nat, lo ≤ k → k ≤ hi → ¬ x = nI k) : x.toInt < (lo : Int) ∨ (hi : Int) < x.toInt := by
  rcases Int.lt_or_le x.toInt lo with h1 | h1
  · exact Or.inl h1
  · rcases Int.lt_or_le (hi : Int) x.toInt with h2 | h2
    · exact Or.inr h2
    · exfalso
      refine h x.toInt.toNat (by omega) (by omega) ?_
      apply Int32.toInt_inj.mp
      rw [nI_toInt (by omega)]
      omega
def g_b (v : Int32) : Prop := narrow .boolean (.int v) = .int v
end
section
/-! ===== worlds in blocks: a block an object ===== -/
def fl (bs : List va_W) : va_W := bs.flatten
def off : List va_W → Nat → Nat
  | [], _ => 0
  | _ :: _, 0 => 0
  | b :: bs, i + 1 => b.length + off bs i
theorem fl_cons (b : va_W) (bs : List va_W) : fl (b :: bs) = b ++ fl bs := by simp [fl]
theorem fl_get : ∀ (bs : List va_W) (i : Nat) (b : va_W) (k : Nat) (x : Nat × va_E), bs[i]? = some b → b[k]? = some x → (fl bs)[off bs i + k]? = some x
  | [], i, b, k, x, hb, _ => by simp at hb
  | c :: bs, 0, b, k, x, hb, hk => by
    simp only [List.getElem?_cons_zero, Option.some.injEq] at hb
    subst hb
    have hl := (List.getElem?_eq_some_iff.mp hk).1
    rw [fl_cons, show off (c :: bs) 0 + k = k by simp [off], List.getElem?_append_left hl]
    exact hk
  | c :: bs, i + 1, b, k, x, hb, hk => by
    simp only [List.getElem?_cons_succ] at hb
    rw [fl_cons, show off (c :: bs) (i + 1) + k = c.length + (off bs i + k) by simp [off]; omega, List.getElem?_append_right (by omega)]
    rw [show c.length + (off bs i + k) - c.length = off bs i + k by omega]
    exact fl_get bs i b k x hb hk
theorem fl_inv : ∀ (bs : List va_W) (n : Nat) (x : Nat × va_E), (fl bs)[n]? = some x → ∃ i b k, bs[i]? = some b ∧ b[k]? = some x ∧ n = off bs i + k
  | [], n, x, h => by simp [fl] at h
  | c :: bs, n, x, h => by
    rw [fl_cons] at h
    by_cases hl : n < c.length
    · rw [List.getElem?_append_left hl] at h
      exact ⟨0, c, n, rfl, h, by simp [off]⟩
    · rw [List.getElem?_append_right (by omega)] at h
      obtain ⟨i, b, k, h1, h2, h3⟩ := fl_inv bs _ x h
      exact ⟨i + 1, b, k, by simpa using h1, h2, by simp only [off]; omega⟩
theorem off_inj : ∀ (bs : List va_W) (i j : Nat) (b c : va_W) (k l : Nat), bs[i]? = some b → bs[j]? = some c → k < b.length → l < c.length → off bs i + k = off bs j + l → i = j ∧ k = l
  | [], i, j, b, c, k, l, hb, _, _, _, _ => by simp at hb
  | d :: bs, 0, 0, b, c, k, l, hb, hc, hk, hl, e => ⟨rfl, by omega⟩
  | d :: bs, 0, j + 1, b, c, k, l, hb, hc, hk, hl, e => by
    simp only [List.getElem?_cons_zero, Option.some.injEq] at hb
    subst hb
    simp only [off] at e
    omega
  | d :: bs, i + 1, 0, b, c, k, l, hb, hc, hk, hl, e => by
    simp only [List.getElem?_cons_zero, Option.some.injEq] at hc
    subst hc
    simp only [off] at e
    omega
  | d :: bs, i + 1, j + 1, b, c, k, l, hb, hc, hk, hl, e => by
    simp only [List.getElem?_cons_succ] at hb hc
    simp only [off] at e
    obtain ⟨h1, h2⟩ := off_inj bs i j b c k l hb hc hk hl (by omega)
    exact ⟨by omega, h2⟩
theorem fl_set : ∀ (bs : List va_W) (i : Nat) (b : va_W) (k : Nat) (x : Nat × va_E), bs[i]? = some b → k < b.length → (fl bs).set (off bs i + k) x = fl (bs.set i (b.set k x))
  | [], i, b, k, x, hb, _ => by simp at hb
  | c :: bs, 0, b, k, x, hb, hk => by
    simp only [List.getElem?_cons_zero, Option.some.injEq] at hb
    subst hb
    rw [List.set_cons_zero, fl_cons, fl_cons, show off (c :: bs) 0 + k = k by simp [off], List.set_append_left _ _ hk]
  | c :: bs, i + 1, b, k, x, hb, hk => by
    simp only [List.getElem?_cons_succ] at hb
    rw [List.set_cons_succ, fl_cons, fl_cons, show off (c :: bs) (i + 1) + k = c.length + (off bs i + k) by simp [off]; omega, List.set_append_right _ _ (by omega)]
    rw [show c.length + (off bs i + k) - c.length = off bs i + k by omega, fl_set bs i b k x hb hk]
theorem g_pickB {α : Type} {ws wc : List α} {isC : List Nat} (hC : isC.map (fun i => ws[i]?) = wc.map some) {k : Nat} {q : α} (hq : wc[k]? = some q) : ∃ i, isC[k]? = some i ∧ ws[i]? = some q := by
  have h1 : (isC.map (fun i => ws[i]?))[k]? = some (some q) := by rw [hC, List.getElem?_map, hq]; rfl
  rw [List.getElem?_map] at h1
  cases hi : isC[k]? with
  | none => rw [hi] at h1; cases h1
  | some i => rw [hi] at h1; exact ⟨i, rfl, Option.some.inj h1⟩
theorem fl_sub {bs bc : List va_W} {isB : List Nat} (hC : isB.map (fun i => bs[i]?) = bc.map some) {n : Nat} {q : Nat × va_E} (h : (fl bc)[n]? = some q) : ∃ j c l i, bc[j]? = some c ∧ c[l]? = some q ∧ n = off bc j + l ∧ isB[j]? = some i ∧ bs[i]? = some c ∧ (fl bs)[off bs i + l]? = some q := by
  obtain ⟨j, c, l, h1, h2, h3⟩ := fl_inv bc n q h
  obtain ⟨i, h4, h5⟩ := g_pickB hC h1
  exact ⟨j, c, l, i, h1, h2, h3, h4, h5, fl_get bs i c l q h5 h2⟩
theorem fl_P {D : va_G} {bs bc : List va_W} {isB : List Nat} {H : Heap} (hC : isB.map (fun i => bs[i]?) = bc.map some) (hP : va_P D vwCl (fl bs) H) : va_P D vwCl (fl bc) H := by
  intro n q h
  obtain ⟨j, c, l, i, -, -, -, -, -, h6⟩ := fl_sub hC h
  exact hP _ q h6
theorem fl_D {A : Nat → Prop} {bs bc : List va_W} {isB : List Nat} (hC : isB.map (fun i => bs[i]?) = bc.map some) (hN : va_nd isB = true) (hD : va_D A (fl bs)) : va_D A (fl bc) := by
  refine ⟨fun n m x y hx hy hxy => ?_, fun n q h => ?_⟩
  · obtain ⟨j, c, l, i, a1, a2, a3, a4, a5, a6⟩ := fl_sub hC hx
    obtain ⟨j', c', l', i', b1, b2, b3, b4, b5, b6⟩ := fl_sub hC hy
    have e := hD.1 _ _ x y a6 b6 hxy
    obtain ⟨e1, e2⟩ := off_inj bs i i' c c' l l' a5 b5 (List.getElem?_eq_some_iff.mp a2).1 (List.getElem?_eq_some_iff.mp b2).1 e
    subst e1
    have e3 := va_nd_inj isB hN j j' i a4 b4
    subst e3
    rw [a3, b3, e2]
  · obtain ⟨j, c, l, i, -, -, -, -, -, h6⟩ := fl_sub hC h
    exact hD.2 _ q h6
theorem fl_free {A : Nat → Prop} {bs bc : List va_W} {isB : List Nat} {H0 H : Heap} {locs : List Loc} (hC : isB.map (fun i => bs[i]?) = bc.map some) (hD : va_D A (fl bs)) (hS : va_S A H0 H locs) (hA : ∀ q, H0.size ≤ q → A q) : ∀ q, va_A (fl bc) H.size q → A q := by
  intro q h
  rcases h with ⟨n, e, h⟩ | h
  · obtain ⟨j, c, l, i, -, -, -, -, -, h6⟩ := fl_sub hC h
    exact hD.2 _ _ h6
  · exact hA q (Nat.le_trans hS.1 h)
theorem g_joinB {A : Nat → Prop} {D : va_G} {bs bc b1 : List va_W} {H H1 : Heap} (hP : va_P D vwCl (fl bs) H) (hD : va_D A (fl bs)) (isB : List Nat) (hC : isB.map (fun i => bs[i]?) = bc.map some) (hB : isB.length ≤ b1.length)
    (hk : ∀ q : Nat, q < H.size → ¬ va_A (fl bc) H.size q → H1[q]? = H[q]?) (hF : ∀ q, va_A (fl bc) H.size q → A q) (hP1 : va_P D vwCl (fl b1) H1) (hD1 : va_D (va_A (fl bc) H.size) (fl b1)) : va_P D vwCl (fl (g_repl bs isB b1)) H1 ∧ va_D A (fl (g_repl bs isB b1)) := by
  have apart : ∀ (i : Nat) (b : va_W) (k : Nat) (q : Nat × va_E), i ∉ isB → bs[i]? = some b → b[k]? = some q → q.1 < H.size ∧ ¬ va_A (fl bc) H.size q.1 := by
    intro i b k q hn hb hq
    have hf := fl_get bs i b k q hb hq
    have hl := (hP _ q hf).lt
    refine ⟨hl, fun h => ?_⟩
    rcases h with ⟨n, e, h⟩ | h
    · obtain ⟨j, c, l, i', -, a2, -, a4, a5, a6⟩ := fl_sub hC h
      have hij := hD.1 _ _ q (q.1, e) hf a6 rfl
      obtain ⟨e1, -⟩ := off_inj bs i i' b c k l hb a5 (List.getElem?_eq_some_iff.mp hq).1 (List.getElem?_eq_some_iff.mp a2).1 hij
      subst e1
      exact hn (List.mem_of_getElem? a4)
    · omega
  refine ⟨fun n q h => ?_, fun n m x y hx hy hxy => ?_, fun n q h => ?_⟩
  · obtain ⟨i, b, k, h1, h2, -⟩ := fl_inv _ n q h
    rcases g_repl_get isB bs b1 i b hB h1 with ⟨j, h3, -⟩ | ⟨h3, h4⟩
    · exact hP1 _ q (fl_get b1 j b k q h3 h2)
    · obtain ⟨g1, g2⟩ := apart i b k q h3 h4 h2
      exact (hP _ q (fl_get bs i b k q h4 h2)).kept (hk q.1 g1 g2)
  · obtain ⟨i, b, k, a1, a2, a3⟩ := fl_inv _ n x hx
    obtain ⟨i', b', k', c1, c2, c3⟩ := fl_inv _ m y hy
    have lk := (List.getElem?_eq_some_iff.mp a2).1
    have lk' := (List.getElem?_eq_some_iff.mp c2).1
    rcases g_repl_get isB bs b1 i b hB a1 with ⟨j, h1, h1'⟩ | ⟨h1, h2⟩ <;> rcases g_repl_get isB bs b1 i' b' hB c1 with ⟨j', h3, h3'⟩ | ⟨h3, h4⟩
    · have e := hD1.1 _ _ x y (fl_get b1 j b k x h1 a2) (fl_get b1 j' b' k' y h3 c2) hxy
      obtain ⟨e1, e2⟩ := off_inj b1 j j' b b' k k' h1 h3 lk lk' e
      subst e1; subst e2
      have e4 : i = i' := by
        rcases h1' with h1' | ⟨h1', e1⟩ <;> rcases h3' with h3' | ⟨h3', e3⟩
        · exact Option.some.inj (h1'.symm.trans h3')
        · have := (List.getElem?_eq_some_iff.mp h1').1
          omega
        · have := (List.getElem?_eq_some_iff.mp h3').1
          omega
        · rw [e1, e3]
      rw [a3, c3, e4]
    · exact absurd (hxy ▸ hD1.2 _ x (fl_get b1 j b k x h1 a2)) (apart i' b' k' y h3 h4 c2).2
    · exact absurd (hxy.symm ▸ hD1.2 _ y (fl_get b1 j' b' k' y h3 c2)) (apart i b k x h1 h2 a2).2
    · have e := hD.1 _ _ x y (fl_get bs i b k x h2 a2) (fl_get bs i' b' k' y h4 c2) hxy
      obtain ⟨e1, e2⟩ := off_inj bs i i' b b' k k' h2 h4 lk lk' e
      rw [a3, c3, e1, e2]
  · obtain ⟨i, b, k, h1, h2, -⟩ := fl_inv _ n q h
    rcases g_repl_get isB bs b1 i b hB h1 with ⟨j, h3, -⟩ | ⟨h3, h4⟩
    · exact hF _ (hD1.2 _ q (fl_get b1 j b k q h3 h2))
    · exact hD.2 _ q (fl_get bs i b k q h4 h2)
section GBS
variable {p : Program} {l : Launch} {e : Env} {R : Room} {s : State} {m : MethodId} {args : Array Value} {below : List Frame} {meth : Method} {c : Code} {D : va_G} {cI cR : ClassId} {A : Nat → Prop} {nL : Nat} {Q : State → Prop} {ce sl : Nat} {bs : List va_W} {lv : List (Nat × Value)} {pc pc' : Nat} {st : List Value} {cc : ByteArray} {own : String} {ret : Option FieldType}
theorem gb_pre (κ : KC p s m args meth c cc nL own D cI cR A ret) {H : Heap} {locs : List Loc} {av : List Value} {bc : List va_W} (hP : va_P D vwCl (fl bs) H) (hD : va_D A (fl bs)) (hS : va_S A s.heap H locs) (isB : List Nat) (hC : isB.map (fun i => bs[i]?) = bc.map some) (hN : va_nd isB = true) :
    ∀ U : State, U.heap = H → s.WarmedH U.vm → g_Pc D cI cR av (fl bc) H.size av.toArray U := by
  intro U hU hW
  have hF := fl_free hC hD hS κ.2.2.1
  have hq : ∀ a : Nat, a < s.heap.size → ¬ A a → U.heap[a]? = s.heap[a]? := fun a h1 h2 => by rw [hU]; exact hS.2.1 a h1 h2
  have hst := κ.2.2.2.1
  exact ⟨rfl, by rw [hU], by rw [hU]; exact fl_P hC hP, va_K.moved hW.alike κ.2.1, (fl_D hC hN hD).weaken (fun _ _ _ _ => trivial), hst.1.step hq hW.alike hF, hst.2.1.step hq hW.alike hF, hst.2.2.1.step hq hW.alike hF, hst.2.2.2.warm hW⟩
theorem gb_run (κ : KC p s m args meth c cc nL own D cI cR A ret) {S : Type} {Bb : S → List va_W} {post : Option Value → S → Prop} {bc : List va_W} {mc ms : Nat} {rest st0 : List Value} {aa : Array Value} (isB : List Nat) (hC : isB.map (fun i => bs[i]?) = bc.map some) (hB : ∀ u, isB.length ≤ (Bb u).length)
    (hr : ∀ (H : Heap) (locs : List Loc) (ls : Array Slot), va_P D vwCl (fl bs) H → va_D A (fl bs) → va_S A s.heap H locs → lv_has ls nL lv → va_Run p l e R s m args below meth c H locs ce sl mc ms (F0 m pc ls st0) rest (g_Q D post (fun u => fl (Bb u)) (va_A (fl bc) H.size) aa) (va_A (fl bc) H.size))
    (kk : ∀ v u, post v u → GW p l e R s m args below meth c D A nL Q (ce + mc) (sl + ms) (fl (g_repl bs isB (Bb u))) lv (pc + 3) (v.toList ++ rest)) : GW p l e R s m args below meth c D A nL Q ce sl (fl bs) lv pc st0 := by
  intro H locs ls hP hD hS hl
  have hF := fl_free hC hD hS κ.2.2.1
  refine g_call (hr H locs ls hP hD hS hl) hS (fun q _ h => hF q h) hF (fun v u H1 locs1 hp hP1 hD1 hk hS1 => ?_)
  obtain ⟨hP2, hD2⟩ := g_joinB hP hD isB hC (hB u) hk hF hP1 hD1
  exact kk v u hp H1 locs1 ls hP2 hD2 hS1 hl

theorem gb_callV (κ : KC p s m args meth c cc nL own D cI cR A ret) {y : MethodName} {cy : ByteArray} {nLy : Nat} {rety : Option FieldType} {rm : Room} {b : Nat} {As : List Value} {bc : List va_W} {S : Type} {Bb : S → List va_W} {post : Option Value → S → Prop} {mc ms n idx ci qb : Nat} {fs : List Value} {r : vw_C} {rest : List Value}
    (hct : CT l D cI cR y cy nLy rety rm (.ref b :: As) (fl bc) (fun u => fl (Bb u)) post mc ms) (hrm : g_rm R rm nLy mc ms)
    (hwl : Cond.methodLink own idx y ∈ lw_good) (hwi : Cond.instanceMethod y ∈ lw_good) (hws : Cond.selects y.cls y y ∈ lw_good) (hwc : Cond.code y cy nLy rety ∈ lw_good) (hwn : Cond.initialized y.cls ∈ lw_good)
    (hy : g_hy y n) (hn : As.length = n) (hcl : vwCl[ci]? = some r) (hrc : r.1 = y.cls) {bb : va_W} (hqa : bs[qb]? = some bb) (hqb : bb[0]? = some (b, .inr (ci, fs)))
    (hW : (rest.map fun v => v.category).sum ≤ 8) (hst : st = As.reverse ++ .ref b :: rest) (hd : decode cc pc = .ok (.invokevirtual idx, 3))
    (isB : List Nat) (hC : isB.map (fun i => bs[i]?) = bc.map some) (hN : va_nd isB = true) (hB : ∀ u, isB.length ≤ (Bb u).length) (hcells : ce + mc ≤ R.cells ∧ sl + ms ≤ R.slots)
    (kk : ∀ v u, post v u → GW p l e R s m args below meth c D A nL Q (ce + mc) (sl + ms) (fl (g_repl bs isB (Bb u))) lv (pc + 3) (v.toList ++ rest)) : GW p l e R s m args below meth c D A nL Q ce sl (fl bs) lv pc st := by
  have hts := κ.1.2.2.2.2
  refine gb_run κ (rest := rest) (aa := (Value.ref b :: As).toArray) isB hC hB (fun H locs ls hP hD hS hl => ?_) kk
  obtain ⟨cell, g1, g2, g3⟩ := va_recv κ.2.1 hP hcl (fl_get bs qb bb 0 _ hqa hqb)
  exact va_runV (C := y.cls) (n := n) (ret := rety) κ.1 (hct H.size) ⟨callB_of n hts (g_good hwc) rfl hrm.1 hrm.2.1 (hts _ hwn) (hts _ hwl) hy hrm.2.2, hts _ hwi, hts _ hws⟩
    ⟨g_Pc.blind, ⟨cell, g1, g2, by rw [← hrc]; exact g3⟩, gb_pre κ hP hD hS isB hC hN⟩ rfl hn hl.1 hst (lv_room hW) hd hcells
theorem gb_callS (κ : KC p s m args meth c cc nL own D cI cR A ret) {y : MethodName} {cy : ByteArray} {nLy : Nat} {rety : Option FieldType} {rm : Room} {As : List Value} {bc : List va_W} {S : Type} {Bb : S → List va_W} {post : Option Value → S → Prop} {mc ms n idx : Nat} {rest : List Value}
    (hct : CT l D cI cR y cy nLy rety rm As (fl bc) (fun u => fl (Bb u)) post mc ms) (hrm : g_rm R rm nLy mc ms)
    (hwl : Cond.methodLink own idx y ∈ lw_good) (hwi : Cond.static y ∈ lw_good) (hwc : Cond.code y cy nLy rety ∈ lw_good) (hwn : Cond.initialized y.cls ∈ lw_good)
    (hy : g_hy y n) (hn : As.length = n)
    (hW : (rest.map fun v => v.category).sum ≤ 8) (hst : st = As.reverse ++ rest) (hd : decode cc pc = .ok (.invokestatic idx, 3))
    (isB : List Nat) (hC : isB.map (fun i => bs[i]?) = bc.map some) (hN : va_nd isB = true) (hB : ∀ u, isB.length ≤ (Bb u).length) (hcells : ce + mc ≤ R.cells ∧ sl + ms ≤ R.slots)
    (kk : ∀ v u, post v u → GW p l e R s m args below meth c D A nL Q (ce + mc) (sl + ms) (fl (g_repl bs isB (Bb u))) lv (pc + 3) (v.toList ++ rest)) : GW p l e R s m args below meth c D A nL Q ce sl (fl bs) lv pc st := by
  have hts := κ.1.2.2.2.2
  refine gb_run κ (rest := rest) (aa := As.toArray) isB hC hB (fun H locs ls hP hD hS hl => ?_) kk
  exact va_runS (n := n) (ret := rety) κ.1 (hct H.size) ⟨callB_of n hts (g_good hwc) rfl hrm.1 hrm.2.1 (hts _ hwn) (hts _ hwl) hy hrm.2.2, hts _ hwi⟩
    ⟨g_Pc.blind, gb_pre κ hP hD hS isB hC hN⟩ rfl hn hl.1 hst (lv_room hW) hd hcells
theorem gb_callSN (κ : KC p s m args meth c cc nL own D cI cR A ret) {y : MethodName} {cy : ByteArray} {nLy : Nat} {rety : Option FieldType} {rm : Room} {As : List Value} {bc : List va_W} {S : Type} {Bb : S → List va_W} {post : Option Value → S → Prop} {mc ms n idx : Nat} {rest : List Value} {host : String}
    (hct : CT l D cI cR y cy nLy rety rm As (fl bc) (fun u => fl (Bb u)) post mc ms) (hrm : g_rm R rm nLy mc ms)
    (hwl : va_Nw (.methodLinkNest own idx y host) s) (hwi : Cond.static y ∈ lw_good) (hwc : Cond.code y cy nLy rety ∈ lw_good) (hwn : Cond.initialized y.cls ∈ lw_good)
    (hy : g_hy y n) (hn : As.length = n)
    (hW : (rest.map fun v => v.category).sum ≤ 8) (hst : st = As.reverse ++ rest) (hd : decode cc pc = .ok (.invokestatic idx, 3))
    (isB : List Nat) (hC : isB.map (fun i => bs[i]?) = bc.map some) (hN : va_nd isB = true) (hB : ∀ u, isB.length ≤ (Bb u).length) (hcells : ce + mc ≤ R.cells ∧ sl + ms ≤ R.slots)
    (kk : ∀ v u, post v u → GW p l e R s m args below meth c D A nL Q (ce + mc) (sl + ms) (fl (g_repl bs isB (Bb u))) lv (pc + 3) (v.toList ++ rest)) : GW p l e R s m args below meth c D A nL Q ce sl (fl bs) lv pc st := by
  have hts := κ.1.2.2.2.2
  refine gb_run κ (rest := rest) (aa := As.toArray) isB hC hB (fun H locs ls hP hD hS hl => ?_) kk
  exact va_runSN (n := n) (ret := rety) κ.1 (hct H.size) ⟨va_cnB n hts (g_good hwc) rfl hrm.1 hrm.2.1 hwl (hts _ hwn) hy hrm.2.2, hts _ hwi, trivial⟩
    ⟨g_Pc.blind, gb_pre κ hP hD hS isB hC hN⟩ rfl hn hl.1 hst (lv_room hW) hd hcells
theorem gb_callI (κ : KC p s m args meth c cc nL own D cI cR A ret) {y : MethodName} {cy : ByteArray} {nLy : Nat} {rm : Room} {b : Nat} {As : List Value} {bc : List va_W} {S : Type} {Bb : S → List va_W} {post : Option Value → S → Prop} {mc ms n idx : Nat} {rest : List Value}
    (hct : CT l D cI cR y cy nLy none rm (.ref b :: As) (fl bc) (fun u => fl (Bb u)) post mc ms) (hrm : g_rm R rm nLy mc ms)
    (hwl : Cond.methodLink own idx y ∈ lw_good) (hwi : Cond.instanceMethod y ∈ lw_good) (hwc : Cond.code y cy nLy none ∈ lw_good) (hwn : Cond.initialized y.cls ∈ lw_good)
    (hy : g_hy y n) (hy1 : y.name = "<init>") (hn : As.length = n)
    (hW : (rest.map fun v => v.category).sum ≤ 8) (hst : st = As.reverse ++ .ref b :: rest) (hd : decode cc pc = .ok (.invokespecial idx, 3))
    (isB : List Nat) (hC : isB.map (fun i => bs[i]?) = bc.map some) (hN : va_nd isB = true) (hB : ∀ u, isB.length ≤ (Bb u).length) (hcells : ce + mc ≤ R.cells ∧ sl + ms ≤ R.slots)
    (kk : ∀ v u, post v u → GW p l e R s m args below meth c D A nL Q (ce + mc) (sl + ms) (fl (g_repl bs isB (Bb u))) lv (pc + 3) (v.toList ++ rest)) : GW p l e R s m args below meth c D A nL Q ce sl (fl bs) lv pc st := by
  have hts := κ.1.2.2.2.2
  refine gb_run κ (rest := rest) (aa := (Value.ref b :: As).toArray) isB hC hB (fun H locs ls hP hD hS hl => ?_) kk
  exact va_runI (n := n) κ.1 (hct H.size) ⟨callB_of n hts (g_good hwc) rfl hrm.1 hrm.2.1 (hts _ hwn) (hts _ hwl) hy hrm.2.2, hy1, hts _ hwi⟩
    ⟨g_Pc.blind, gb_pre κ hP hD hS isB hC hN⟩ rfl hn hl.1 hst (lv_room hW) hd hcells
theorem gb_callIN (κ : KC p s m args meth c cc nL own D cI cR A ret) {y : MethodName} {cy : ByteArray} {nLy : Nat} {rm : Room} {b : Nat} {As : List Value} {bc : List va_W} {S : Type} {Bb : S → List va_W} {post : Option Value → S → Prop} {mc ms n idx : Nat} {rest : List Value} {host : String}
    (hct : CT l D cI cR y cy nLy none rm (.ref b :: As) (fl bc) (fun u => fl (Bb u)) post mc ms) (hrm : g_rm R rm nLy mc ms)
    (hwl : va_Nw (.methodLinkNest own idx y host) s) (hwi : Cond.instanceMethod y ∈ lw_good) (hwc : Cond.code y cy nLy none ∈ lw_good) (hwn : Cond.initialized y.cls ∈ lw_good)
    (hy : g_hy y n) (hy1 : y.name = "<init>") (hn : As.length = n)
    (hW : (rest.map fun v => v.category).sum ≤ 8) (hst : st = As.reverse ++ .ref b :: rest) (hd : decode cc pc = .ok (.invokespecial idx, 3))
    (isB : List Nat) (hC : isB.map (fun i => bs[i]?) = bc.map some) (hN : va_nd isB = true) (hB : ∀ u, isB.length ≤ (Bb u).length) (hcells : ce + mc ≤ R.cells ∧ sl + ms ≤ R.slots)
    (kk : ∀ v u, post v u → GW p l e R s m args below meth c D A nL Q (ce + mc) (sl + ms) (fl (g_repl bs isB (Bb u))) lv (pc + 3) (v.toList ++ rest)) : GW p l e R s m args below meth c D A nL Q ce sl (fl bs) lv pc st := by
  have hts := κ.1.2.2.2.2
  refine gb_run κ (rest := rest) (aa := (Value.ref b :: As).toArray) isB hC hB (fun H locs ls hP hD hS hl => ?_) kk
  exact va_runIN (n := n) κ.1 (hct H.size) ⟨va_cnB n hts (g_good hwc) rfl hrm.1 hrm.2.1 hwl (hts _ hwn) hy hrm.2.2, hy1, hts _ hwi⟩
    ⟨g_Pc.blind, gb_pre κ hP hD hS isB hC hN⟩ rfl hn hl.1 hst (lv_room hW) hd hcells
theorem gb_get (κ : KC p s m args meth c cc nL own D cI cR A ret) {C : String} {T : u_T} {N ci idx a : Nat} {fs : List Value} {b : va_W} {v : Value} (hd : decode cc pc = .ok (.getfield idx, 3)) (hp : pc + 3 = pc') (hin : ∀ w ∈ u_ws C T N, w ∈ lw_good) (i : Nat) (hb : bs[i]? = some b) (he : b[0]? = some (a, .inr (ci, fs))) (hc : vwCl[ci]? = some (C, T, N)) (k : Nat) (hk : k < N) (hlink : Cond.fieldLink own idx (T k).1 (T k).2.1 (T k).2.2.1 ∈ lw_good) (hv : fs[k]? = some v) (kk : GW p l e R s m args below meth c D A nL Q ce sl (fl bs) lv pc' (v :: st)) : GW p l e R s m args below meth c D A nL Q ce sl (fl bs) lv pc (.ref a :: st) :=
  gw_get κ hd hp hin (off bs i + 0) (fl_get bs i b 0 _ hb he) hc k hk hlink hv kk
theorem gb_put (κ : KC p s m args meth c cc nL own D cI cR A ret) {C : String} {T : u_T} {N ci idx a : Nat} {fs : List Value} {b : va_W} {ty : FieldType} {v : Value} {bs' : List va_W} (hd : decode cc pc = .ok (.putfield idx, 3)) (hp : pc + 3 = pc') (hin : ∀ w ∈ u_ws C T N, w ∈ lw_good) (ty0 : Nat → FieldType) (hty : ∀ k, k < N → parseFieldDescriptor (T k).2.2.1 = some (ty0 k)) (hnm : ∀ a, a < N → ∀ b, b < N → a ≠ b → (T a).2.1 ≠ (T b).2.1) (i : Nat) (hb : bs[i]? = some b) (he : b[0]? = some (a, .inr (ci, fs))) (hc : vwCl[ci]? = some (C, T, N)) (k : Nat) (hk : k < N) (hlink : Cond.fieldLink own idx (T k).1 (T k).2.1 (T k).2.2.1 ∈ lw_good) (hfin : (T k).2.2.2 = false) (hdd : parseFieldDescriptor (T k).2.2.1 = some ty) (hn : narrow ty v = v) (hfit : fits ty v = true) (hlen : k < fs.length) (hw : bs.set i (b.set 0 (a, .inr (ci, fs.set k v))) = bs') (kk : GW p l e R s m args below meth c D A nL Q ce sl (fl bs') lv pc' st) : GW p l e R s m args below meth c D A nL Q ce sl (fl bs) lv pc (v :: .ref a :: st) := by
  refine gw_put κ hd hp hin ty0 hty hnm (off bs i + 0) (fl_get bs i b 0 _ hb he) hc k hk hlink hfin hdd hn hfit hlen ?_ kk
  rw [fl_set bs i b 0 _ hb (List.getElem?_eq_some_iff.mp he).1, hw]
theorem gb_iald (κ : KC p s m args meth c cc nL own D cI cR A ret) {a n : Nat} {f : Nat → Int32} {b : va_W} {x : Int32} (hd : decode cc pc = .ok (.iaload, 1)) (hp : pc + 1 = pc') (i k : Nat) (hb : bs[i]? = some b) (ha : b[k]? = some (a, .inl (cI, n, .inl f))) (hin : vp_in x n) (kk : GW p l e R s m args below meth c D A nL Q ce sl (fl bs) lv pc' (.int (f x.toNatClampNeg) :: st)) : GW p l e R s m args below meth c D A nL Q ce sl (fl bs) lv pc (.int x :: .ref a :: st) :=
  gw_iald κ hd hp (off bs i + k) (fl_get bs i b k _ hb ha) hin kk
theorem gb_iast (κ : KC p s m args meth c cc nL own D cI cR A ret) {a n : Nat} {f : Nat → Int32} {b : va_W} {x y : Int32} {bs' : List va_W} (hd : decode cc pc = .ok (.iastore, 1)) (hp : pc + 1 = pc') (i k : Nat) (hb : bs[i]? = some b) (ha : b[k]? = some (a, .inl (cI, n, .inl f))) (hin : vp_in x n) (hw : bs.set i (b.set k (a, .inl (cI, n, .inl (upd f x.toNatClampNeg y)))) = bs') (kk : GW p l e R s m args below meth c D A nL Q ce sl (fl bs') lv pc' st) : GW p l e R s m args below meth c D A nL Q ce sl (fl bs) lv pc (.int y :: .int x :: .ref a :: st) := by
  refine gw_iast κ hd hp (off bs i + k) (fl_get bs i b k _ hb ha) hin ?_ kk
  rw [fl_set bs i b k _ hb (List.getElem?_eq_some_iff.mp ha).1, hw]
theorem gb_aald (κ : KC p s m args meth c cc nL own D cI cR A ret) {a n : Nat} {f : Nat → Option Nat} {b : va_W} {x : Int32} {v : Value} (hd : decode cc pc = .ok (.aaload, 1)) (hp : pc + 1 = pc') (i k : Nat) (hb : bs[i]? = some b) (ha : b[k]? = some (a, .inl (cR, n, .inr (.inr (.inr (.inr f)))))) (hin : vp_in x n) (hv : va_rf (f x.toNatClampNeg) = v) (kk : GW p l e R s m args below meth c D A nL Q ce sl (fl bs) lv pc' (v :: st)) : GW p l e R s m args below meth c D A nL Q ce sl (fl bs) lv pc (.int x :: .ref a :: st) :=
  gw_aald κ hd hp (off bs i + k) (fl_get bs i b k _ hb ha) hin hv kk
theorem gb_copy (κ : KC p s m args meth c cc nL own D cI cR A ret) {a0 a1 n0 idx : Nat} {f g : Nat → Int32} {b0 b1 : va_W} {n : Int32} {bs' : List va_W} (hd : decode cc pc = .ok (.invokestatic idx, 3)) (hp : pc + 3 = pc') (i0 k0 i1 k1 : Nat) (hb0 : bs[i0]? = some b0) (hb1 : bs[i1]? = some b1) (ha0 : b0[k0]? = some (a0, .inl (cI, n0, .inl f))) (ha1 : b1[k1]? = some (a1, .inl (cI, n0, .inl g))) (hnn : ¬ n < 0) (hn : n.toNatClampNeg = n0) (hlink : Cond.methodLink own idx arraycopyName ∈ lw_good) (hini : Cond.initialized "java/lang/System" ∈ lw_good) (hR : 1 ≤ R.frames ∧ (st.map fun v => v.category).sum + (nativeFrameWords "java/lang/System" "arraycopy" 5 + 11) ≤ R.locals) (hw : bs.set i1 (b1.set k1 (a1, .inl (cI, n0, .inl f))) = bs') (kk : GW p l e R s m args below meth c D A nL Q ce sl (fl bs') lv pc' st) : GW p l e R s m args below meth c D A nL Q ce sl (fl bs) lv pc (.int n :: .int 0 :: .ref a1 :: .int 0 :: .ref a0 :: st) := by
  refine gw_copy κ hd hp (off bs i0 + k0) (off bs i1 + k1) (fl_get bs i0 b0 k0 _ hb0 ha0) (fl_get bs i1 b1 k1 _ hb1 ha1) hnn hn hlink hini hR ?_ kk
  rw [fl_set bs i1 b1 k1 _ hb1 (List.getElem?_eq_some_iff.mp ha1).1, hw]
end GBS
end
section
/-! ===== what the cells hold: State, Plan, Way, Pad, History; the reference ===== -/

def StT : Type := (Nat → Int32) × (Nat → Int32) × (Nat → Int32) × (Nat → Int32) × (Nat → Int32) × (Nat → Int32) × (Nat → Int32) × (Nat → Int32) × (Nat → Int32) × Int32
def mkSt (se : Nat → Int32) (la : Nat → Int32) (de : Nat → Int32) (le : Nat → Int32) (sa : Nat → Int32) (fl : Nat → Int32) (ar : Nat → Int32) (dr : Nat → Int32) (pe : Nat → Int32) (ri : Int32) : StT := (se, la, de, le, sa, fl, ar, dr, pe, ri)
def StT.se (x : StT) : Nat → Int32 := x.1
def StT.la (x : StT) : Nat → Int32 := x.2.1
def StT.de (x : StT) : Nat → Int32 := x.2.2.1
def StT.le (x : StT) : Nat → Int32 := x.2.2.2.1
def StT.sa (x : StT) : Nat → Int32 := x.2.2.2.2.1
def StT.fl (x : StT) : Nat → Int32 := x.2.2.2.2.2.1
def StT.ar (x : StT) : Nat → Int32 := x.2.2.2.2.2.2.1
def StT.dr (x : StT) : Nat → Int32 := x.2.2.2.2.2.2.2.1
def StT.pe (x : StT) : Nat → Int32 := x.2.2.2.2.2.2.2.2.1
def StT.ri (x : StT) : Int32 := x.2.2.2.2.2.2.2.2.2
def PlT : Type := (Nat → Int32) × (Nat → Int32) × (Nat → Int32) × (Nat → Int32) × (Nat → Int32) × Int32 × Int32 × Int32
def mkPl (od : Nat → Int32) (rd : Nat → Int32) (vn : Nat → Int32) (pn : Nat → Int32) (ao : Nat → Int32) (sr : Int32) (sp : Int32) (wt : Int32) : PlT := (od, rd, vn, pn, ao, sr, sp, wt)
def PlT.od (x : PlT) : Nat → Int32 := x.1
def PlT.rd (x : PlT) : Nat → Int32 := x.2.1
def PlT.vn (x : PlT) : Nat → Int32 := x.2.2.1
def PlT.pn (x : PlT) : Nat → Int32 := x.2.2.2.1
def PlT.ao (x : PlT) : Nat → Int32 := x.2.2.2.2.1
def PlT.sr (x : PlT) : Int32 := x.2.2.2.2.2.1
def PlT.sp (x : PlT) : Int32 := x.2.2.2.2.2.2.1
def PlT.wt (x : PlT) : Int32 := x.2.2.2.2.2.2.2
def WyT : Type := (Nat → Int32) × (Nat → Int32) × (Nat → Int32) × Int32
def mkWy (ky : Nat → Int32) (wp : Nat → Int32) (mi : Nat → Int32) (so : Int32) : WyT := (ky, wp, mi, so)
def WyT.ky (x : WyT) : Nat → Int32 := x.1
def WyT.wp (x : WyT) : Nat → Int32 := x.2.1
def WyT.mi (x : WyT) : Nat → Int32 := x.2.2.1
def WyT.so (x : WyT) : Int32 := x.2.2.2
def PdT : Type := (Nat → Int32) × Int32
def mkPd (co : Nat → Int32) (ln : Int32) : PdT := (co, ln)
def PdT.co (x : PdT) : Nat → Int32 := x.1
def PdT.ln (x : PdT) : Int32 := x.2
def updS (f : Nat → StT) (k : Nat) (x : StT) : Nat → StT := fun j => if j = k then x else f j
def HiT : Type := (Nat → StT) × Int32 × Int32
def mkHi (hs : Nat → StT) (ol sz : Int32) : HiT := (hs, ol, sz)
def HiT.hs (x : HiT) : Nat → StT := x.1
def HiT.ol (x : HiT) : Int32 := x.2.1
def HiT.sz (x : HiT) : Int32 := x.2.2
def cSt (q : Nat → Nat) (cI : ClassId) (se : Nat → Int32) (la : Nat → Int32) (de : Nat → Int32) (le : Nat → Int32) (sa : Nat → Int32) (fl : Nat → Int32) (ar : Nat → Int32) (dr : Nat → Int32) (pe : Nat → Int32) (ri : Int32) : va_W := [(q 0, .inr (3, [.ref (q 1), .ref (q 2), .ref (q 3), .ref (q 4), .ref (q 5), .ref (q 6), .ref (q 7), .ref (q 8), .ref (q 9), .int ri])), (q 1, .inl (cI, 5, .inl se)), (q 2, .inl (cI, 6, .inl la)), (q 3, .inl (cI, 6, .inl de)), (q 4, .inl (cI, 8, .inl le)), (q 5, .inl (cI, 8, .inl sa)), (q 6, .inl (cI, 24, .inl fl)), (q 7, .inl (cI, 24, .inl ar)), (q 8, .inl (cI, 24, .inl dr)), (q 9, .inl (cI, 24, .inl pe))]
def cPl (q : Nat → Nat) (cI : ClassId) (od : Nat → Int32) (rd : Nat → Int32) (vn : Nat → Int32) (pn : Nat → Int32) (ao : Nat → Int32) (sr : Int32) (sp : Int32) (wt : Int32) : va_W := [(q 0, .inr (2, [.ref (q 1), .ref (q 2), .ref (q 3), .ref (q 4), .ref (q 5), .int sr, .int sp, .int wt])), (q 1, .inl (cI, 24, .inl od)), (q 2, .inl (cI, 24, .inl rd)), (q 3, .inl (cI, 24, .inl vn)), (q 4, .inl (cI, 8, .inl pn)), (q 5, .inl (cI, 8, .inl ao))]
def cWy (q : Nat → Nat) (cI : ClassId) (ky : Nat → Int32) (wp : Nat → Int32) (mi : Nat → Int32) (so : Int32) : va_W := [(q 0, .inr (4, [.ref (q 1), .ref (q 2), .ref (q 3), .int so])), (q 1, .inl (cI, 24, .inl ky)), (q 2, .inl (cI, 24, .inl wp)), (q 3, .inl (cI, 24, .inl mi))]
def cPd (q : Nat → Nat) (cI : ClassId) (co : Nat → Int32) (ln : Int32) : va_W := [(q 0, .inr (1, [.ref (q 1), .int ln])), (q 1, .inl (cI, 60, .inl co))]
def cM (q : Nat → Nat) (cI : ClassId) (Mst : Nat → Int32) (Mhi : Nat → Int32) (Mhn : Int32) (Msl : Nat → Int32) (Msv : Nat → Int32) (Mpd : Nat → Int32) (Mln : Int32) (Mat : Int32) (Mit : Nat → Int32) (Mvf : Nat → Int32) (Mdn : Nat → Int32) (Mlf : Nat → Int32) (Mar : Nat → Int32) (Msa : Nat → Int32) (Msm : Nat → Int32) (Mso : Int32) : va_W := [(q 0, .inr (6, [.ref (q 1), .ref (q 2), .int Mhn, .ref (q 3), .ref (q 4), .ref (q 5), .int Mln, .int Mat, .ref (q 6), .ref (q 7), .ref (q 8), .ref (q 9), .ref (q 10), .ref (q 11), .ref (q 12), .int Mso])), (q 1, .inl (cI, 130, .inl Mst)), (q 2, .inl (cI, 780, .inl Mhi)), (q 3, .inl (cI, 260, .inl Msl)), (q 4, .inl (cI, 2, .inl Msv)), (q 5, .inl (cI, 60, .inl Mpd)), (q 6, .inl (cI, 4, .inl Mit)), (q 7, .inl (cI, 24, .inl Mvf)), (q 8, .inl (cI, 24, .inl Mdn)), (q 9, .inl (cI, 8, .inl Mlf)), (q 10, .inl (cI, 8, .inl Mar)), (q 11, .inl (cI, 24, .inl Msa)), (q 12, .inl (cI, 24, .inl Msm))]
def cHi (qa : Nat → Nat) (qas : Nat → Nat → Nat) (cR : ClassId) (ol sz : Int32) : va_W := [(qa 0, .inr (0, [.ref (qa 1), .int ol, .int sz])), (qa 1, .inl (cR, 6, .inr (.inr (.inr (.inr (fun j => some (qas j 0))))))) ]
def cX (qx qn qp qw qt qu qd qh ql : Nat → Nat) : va_W := [(qx 0, .inr (5, [.ref (qn 0), .ref (qp 0), .ref (qw 0), .ref (qt 0), .ref (qu 0), .ref (qd 0), .ref (qh 0), .ref (ql 0)]))]
def wp_X5_isIn (P : Int32 → Prop) (x0 : Int32) (x1 : Int32) (x2 : Int32) : Prop :=
  ((x0 < x1) →
    P (0 : Int32)) ∧
  ((¬ x0 < x1) →
    ((x2 < x0) →
      P (0 : Int32)) ∧
    ((¬ x2 < x0) →
      P (1 : Int32)))
def wp_X3_copyFrom (P : (Nat → Int32) → (Nat → Int32) → (Nat → Int32) → (Nat → Int32) → (Nat → Int32) → (Nat → Int32) → (Nat → Int32) → (Nat → Int32) → (Nat → Int32) → Int32 → Prop) (o0 : StT) (o1 : StT) : Prop :=
  P o1.se o1.la o1.de o1.le o1.sa o1.fl o1.ar o1.dr o1.pe o1.ri
def wp_X0_record_32 (P : (Nat → StT) → Int32 → Int32 → Prop) (o0 : HiT) (o1 : StT) (hs : Nat → StT) (ol : Int32) (sz : Int32) : Prop :=
  vp_in ((ol + sz) - (ol + sz) / (6 : Int32) * (6 : Int32)) 6 ∧
  ∀ j_4 : Nat, j_4 < 6 → ((ol + sz) - (ol + sz) / (6 : Int32) * (6 : Int32)) = nI j_4 →
  wp_X3_copyFrom (fun se_25 la_26 de_27 le_28 sa_29 fl_30 ar_31 dr_32 pe_33 ri_34 =>
    P (updS hs j_4 (mkSt se_25 la_26 de_27 le_28 sa_29 fl_30 ar_31 dr_32 pe_33 ri_34)) ol (sz + (1 : Int32))) (hs j_4) o1
def wp_X0_record (P : (Nat → StT) → Int32 → Int32 → Prop) (o0 : HiT) (o1 : StT) : Prop :=
  ((o0.sz < (6 : Int32)) →
    wp_X0_record_32 P o0 o1 o0.hs o0.ol o0.sz) ∧
  ((¬ o0.sz < (6 : Int32)) →
    wp_X0_record_32 P o0 o1 o0.hs ((o0.ol + (1 : Int32)) - (o0.ol + (1 : Int32)) / (6 : Int32) * (6 : Int32)) (o0.sz - (1 : Int32)))
def wp_X3_flightReady (P : Int32 → Prop) (o0 : StT) (x1 : Int32) : Prop :=
  vp_in x1 6 ∧
  vp_in x1 6 ∧
  P (((o0.la x1.toNatClampNeg) + (o0.de x1.toNatClampNeg)) + (o0.se (0 : Int32).toNatClampNeg))
def wp_X3_riderReady (P : Int32 → Prop) (o0 : StT) (x1 : Int32) : Prop :=
  vp_in x1 24 ∧
  wp_X3_flightReady (fun r_2 =>
    P r_2) o0 (o0.fl x1.toNatClampNeg)
def wp_X2_lineUp_69 (P : (Nat → Int32) → (Nat → Int32) → Prop) (o0 : PlT) (o1 : StT) (r2 : Int32 → (Nat → Int32) → (Nat → Int32) → Prop) (v2 : Int32) (v3 : Int32) (od : Nat → Int32) (rd : Nat → Int32) : Prop :=
  vp_in v3 24 ∧
  r2 (v2 + 1) (upd od v3.toNatClampNeg v2) rd
def wp_X2_lineUp_23F (P : (Nat → Int32) → (Nat → Int32) → Prop) (o0 : PlT) (o1 : StT) (r2 : Int32 → (Nat → Int32) → (Nat → Int32) → Prop) (v2 : Int32) (rd : Nat → Int32) (r23 : Int32 → (Nat → Int32) → Prop) (v3 : Int32) (od : Nat → Int32) : Prop :=
  ((v3 ≤ 0) →
    wp_X2_lineUp_69 P o0 o1 r2 v2 v3 od rd) ∧
  ((¬ v3 ≤ 0) →
    vp_in (v3 - (1 : Int32)) 24 ∧
    vp_in (od (v3 - (1 : Int32)).toNatClampNeg) 24 ∧
    vp_in v2 24 ∧
    (((rd (od (v3 - (1 : Int32)).toNatClampNeg).toNatClampNeg) ≤ (rd v2.toNatClampNeg)) →
      wp_X2_lineUp_69 P o0 o1 r2 v2 v3 od rd) ∧
    ((¬ (rd (od (v3 - (1 : Int32)).toNatClampNeg).toNatClampNeg) ≤ (rd v2.toNatClampNeg)) →
      vp_in (v3 - (1 : Int32)) 24 ∧
      vp_in v3 24 ∧
      r23 (v3 + (-1)) (upd od v3.toNatClampNeg (od (v3 - (1 : Int32)).toNatClampNeg))))
def wp_X2_lineUp_23 (P : (Nat → Int32) → (Nat → Int32) → Prop) (o0 : PlT) (o1 : StT) (r2 : Int32 → (Nat → Int32) → (Nat → Int32) → Prop) (v2 : Int32) (rd : Nat → Int32) : Nat → Int32 → (Nat → Int32) → Prop
  | 0 => fun _ _ => False
  | n + 1 => wp_X2_lineUp_23F P o0 o1 r2 v2 rd (wp_X2_lineUp_23 P o0 o1 r2 v2 rd n)
def wp_X2_lineUp_2F (P : (Nat → Int32) → (Nat → Int32) → Prop) (o0 : PlT) (o1 : StT) (r2 : Int32 → (Nat → Int32) → (Nat → Int32) → Prop) (v2 : Int32) (od : Nat → Int32) (rd : Nat → Int32) : Prop :=
  ((o1.ri ≤ v2) →
    P od rd) ∧
  ((¬ o1.ri ≤ v2) →
    wp_X3_riderReady (fun r_2 =>
      vp_in v2 24 ∧
      ∃ n : Nat, wp_X2_lineUp_23 P o0 o1 r2 v2 (upd rd v2.toNatClampNeg r_2) n v2 od) o1 v2)
def wp_X2_lineUp_2 (P : (Nat → Int32) → (Nat → Int32) → Prop) (o0 : PlT) (o1 : StT) : Nat → Int32 → (Nat → Int32) → (Nat → Int32) → Prop
  | 0 => fun _ _ _ => False
  | n + 1 => wp_X2_lineUp_2F P o0 o1 (wp_X2_lineUp_2 P o0 o1 n)
def wp_X2_lineUp (P : (Nat → Int32) → (Nat → Int32) → Prop) (o0 : PlT) (o1 : StT) : Prop :=
  ∃ n : Nat, wp_X2_lineUp_2 P o0 o1 n (0 : Int32) o0.od o0.rd
def wp_J6_bitCount_0f7a4 (P : Int32 → Prop) (x0 : Int32) : Prop :=
  ∀ y_1 : Int32, y_1 = (x0 - (((x0).toUInt32 >>> (((1 : Int32)).toUInt32 &&& Int32.toUInt32 31)).toInt32 &&& (1431655765 : Int32))) →
  ∀ y_2 : Int32, y_2 = ((y_1 &&& (858993459 : Int32)) + (((y_1).toUInt32 >>> (((2 : Int32)).toUInt32 &&& Int32.toUInt32 31)).toInt32 &&& (858993459 : Int32))) →
  ∀ y_3 : Int32, y_3 = ((y_2 + ((y_2).toUInt32 >>> (((4 : Int32)).toUInt32 &&& Int32.toUInt32 31)).toInt32) &&& (252645135 : Int32)) →
  ∀ y_4 : Int32, y_4 = (y_3 + ((y_3).toUInt32 >>> (((8 : Int32)).toUInt32 &&& Int32.toUInt32 31)).toInt32) →
  ∀ y_5 : Int32, y_5 = (y_4 + ((y_4).toUInt32 >>> (((16 : Int32)).toUInt32 &&& Int32.toUInt32 31)).toInt32) →
  P (y_5 &&& (63 : Int32))
def wp_X2_takes (P : Int32 → Prop) (o0 : PlT) (o1 : StT) (x2 : Int32) (x3 : Int32) : Prop :=
  vp_in x2 8 ∧
  vp_in x3 24 ∧
  ∀ y_3 : Int32, y_3 = ((o1.le x2.toNatClampNeg) - (o0.rd x3.toNatClampNeg)) →
  wp_X5_isIn (fun r_5 =>
    ((¬ r_5 = 0) →
      vp_in x2 8 ∧
      vp_in x3 24 ∧
      vp_in x2 8 ∧
      ((((o0.pn x2.toNatClampNeg) + (o1.pe x3.toNatClampNeg)) ≤ (o1.sa x2.toNatClampNeg)) →
        vp_in x2 8 ∧
        vp_in x3 24 ∧
        ∀ y_13 : Int32, y_13 = ((o0.ao x2.toNatClampNeg) ||| ((1 : Int32) <<< ((o1.ar x3.toNatClampNeg) &&& 31))) →
        wp_J6_bitCount_0f7a4 (fun r_14 =>
          (((o1.se (2 : Int32).toNatClampNeg) < r_14) →
            P (0 : Int32)) ∧
          ((¬ (o1.se (2 : Int32).toNatClampNeg) < r_14) →
            P (1 : Int32))) y_13) ∧
      ((¬ ((o0.pn x2.toNatClampNeg) + (o1.pe x3.toNatClampNeg)) ≤ (o1.sa x2.toNatClampNeg)) →
        P (0 : Int32))) ∧
    ((r_5 = 0) →
      P (0 : Int32))) y_3 (0 : Int32) (o1.se (1 : Int32).toNatClampNeg)
def wp_X2_firstVanFor_39 (P : Int32 → Prop) (o0 : PlT) (o1 : StT) (x2 : Int32) (r9 : Int32 → Int32 → Int32 → Prop) (v3 : Int32) (v4 : Int32) (v5 : Int32) (w0 : Int32) : Prop :=
  ((w0 = 0) →
    r9 v3 v4 (v5 + 1)) ∧
  ((¬ w0 = 0) →
    wp_X2_takes (fun r_6 =>
      ((r_6 = 0) →
        r9 v3 v4 (v5 + 1)) ∧
      ((¬ r_6 = 0) →
        vp_in v5 8 ∧
        r9 v5 (o1.le v5.toNatClampNeg) (v5 + 1))) o0 o1 v5 x2)
def wp_X2_firstVanFor_9F (P : Int32 → Prop) (o0 : PlT) (o1 : StT) (x2 : Int32) (r9 : Int32 → Int32 → Int32 → Prop) (v3 : Int32) (v4 : Int32) (v5 : Int32) : Prop :=
  (((8 : Int32) ≤ v5) →
    P v3) ∧
  ((¬ (8 : Int32) ≤ v5) →
    ((v3 = (-106 : Int32)) →
      wp_X2_firstVanFor_39 P o0 o1 x2 r9 v3 v4 v5 (1 : Int32)) ∧
    ((¬ v3 = (-106 : Int32)) →
      vp_in v5 8 ∧
      ((v4 ≤ (o1.le v5.toNatClampNeg)) →
        wp_X2_firstVanFor_39 P o0 o1 x2 r9 v3 v4 v5 (0 : Int32)) ∧
      ((¬ v4 ≤ (o1.le v5.toNatClampNeg)) →
        wp_X2_firstVanFor_39 P o0 o1 x2 r9 v3 v4 v5 (1 : Int32))))
def wp_X2_firstVanFor_9 (P : Int32 → Prop) (o0 : PlT) (o1 : StT) (x2 : Int32) : Nat → Int32 → Int32 → Int32 → Prop
  | 0 => fun _ _ _ => False
  | n + 1 => wp_X2_firstVanFor_9F P o0 o1 x2 (wp_X2_firstVanFor_9 P o0 o1 x2 n)
def wp_X2_firstVanFor (P : Int32 → Prop) (o0 : PlT) (o1 : StT) (x2 : Int32) : Prop :=
  ∃ n : Nat, wp_X2_firstVanFor_9 P o0 o1 x2 n (-106 : Int32) (0 : Int32) (0 : Int32)
def wp_X5_isVan (P : Int32 → Prop) (x0 : Int32) : Prop :=
  wp_X5_isIn (fun r_1 =>
    g_b r_1 ∧ P r_1) x0 (0 : Int32) (7 : Int32)
def wp_X2_boardOne (P : (Nat → Int32) → (Nat → Int32) → (Nat → Int32) → Int32 → Int32 → Int32 → Prop) (o0 : PlT) (o1 : StT) (x2 : Int32) : Prop :=
  vp_in x2 24 ∧
  wp_X2_firstVanFor (fun r_2 =>
    vp_in x2 24 ∧
    wp_X5_isVan (fun r_4 =>
      ((¬ r_4 = 0) →
        vp_in r_2 8 ∧
        vp_in r_2 8 ∧
        vp_in r_2 8 ∧
        vp_in x2 24 ∧
        vp_in r_2 8 ∧
        vp_in r_2 8 ∧
        vp_in x2 24 ∧
        P (upd o0.vn x2.toNatClampNeg r_2) (upd o0.pn r_2.toNatClampNeg ((o0.pn r_2.toNatClampNeg) + (o1.pe x2.toNatClampNeg))) (upd o0.ao r_2.toNatClampNeg ((o0.ao r_2.toNatClampNeg) ||| ((1 : Int32) <<< ((o1.ar x2.toNatClampNeg) &&& 31)))) o0.sr o0.sp (o0.wt + ((o1.pe x2.toNatClampNeg) * ((o1.le r_2.toNatClampNeg) - (o0.rd x2.toNatClampNeg))))) ∧
      ((r_4 = 0) →
        P (upd o0.vn x2.toNatClampNeg r_2) o0.pn o0.ao (o0.sr + (1 : Int32)) (o0.sp + (o1.pe x2.toNatClampNeg)) o0.wt)) r_2) o0 o1 x2
def wp_X2_board_45F (P : (Nat → Int32) → (Nat → Int32) → (Nat → Int32) → Int32 → Int32 → Int32 → Prop) (o0 : PlT) (o1 : StT) (r45 : Int32 → (Nat → Int32) → (Nat → Int32) → (Nat → Int32) → Int32 → Int32 → Int32 → Prop) (v2 : Int32) (vn : Nat → Int32) (pn : Nat → Int32) (ao : Nat → Int32) (sr : Int32) (sp : Int32) (wt : Int32) : Prop :=
  ((o1.ri ≤ v2) →
    P vn pn ao sr sp wt) ∧
  ((¬ o1.ri ≤ v2) →
    vp_in v2 24 ∧
    wp_X2_boardOne (fun vn_6 pn_7 ao_8 sr_9 sp_10 wt_11 =>
      r45 (v2 + 1) vn_6 pn_7 ao_8 sr_9 sp_10 wt_11) (mkPl o0.od o0.rd vn pn ao sr sp wt) o1 (o0.od v2.toNatClampNeg))
def wp_X2_board_45 (P : (Nat → Int32) → (Nat → Int32) → (Nat → Int32) → Int32 → Int32 → Int32 → Prop) (o0 : PlT) (o1 : StT) : Nat → Int32 → (Nat → Int32) → (Nat → Int32) → (Nat → Int32) → Int32 → Int32 → Int32 → Prop
  | 0 => fun _ _ _ _ _ _ _ => False
  | n + 1 => wp_X2_board_45F P o0 o1 (wp_X2_board_45 P o0 o1 n)
def wp_X2_board_2F (P : (Nat → Int32) → (Nat → Int32) → (Nat → Int32) → Int32 → Int32 → Int32 → Prop) (o0 : PlT) (o1 : StT) (vn : Nat → Int32) (sr : Int32) (sp : Int32) (wt : Int32) (r2 : Int32 → (Nat → Int32) → (Nat → Int32) → Prop) (v2 : Int32) (pn : Nat → Int32) (ao : Nat → Int32) : Prop :=
  (((8 : Int32) ≤ v2) →
    ∃ n : Nat, wp_X2_board_45 P o0 o1 n (0 : Int32) vn pn ao (0 : Int32) (0 : Int32) (0 : Int32)) ∧
  ((¬ (8 : Int32) ≤ v2) →
    vp_in v2 8 ∧
    vp_in v2 8 ∧
    r2 (v2 + 1) (upd pn v2.toNatClampNeg (0 : Int32)) (upd ao v2.toNatClampNeg (0 : Int32)))
def wp_X2_board_2 (P : (Nat → Int32) → (Nat → Int32) → (Nat → Int32) → Int32 → Int32 → Int32 → Prop) (o0 : PlT) (o1 : StT) (vn : Nat → Int32) (sr : Int32) (sp : Int32) (wt : Int32) : Nat → Int32 → (Nat → Int32) → (Nat → Int32) → Prop
  | 0 => fun _ _ _ => False
  | n + 1 => wp_X2_board_2F P o0 o1 vn sr sp wt (wp_X2_board_2 P o0 o1 vn sr sp wt n)
def wp_X2_board (P : (Nat → Int32) → (Nat → Int32) → (Nat → Int32) → Int32 → Int32 → Int32 → Prop) (o0 : PlT) (o1 : StT) : Prop :=
  ∃ n : Nat, wp_X2_board_2 P o0 o1 o0.vn o0.sr o0.sp o0.wt n (0 : Int32) o0.pn o0.ao
def wp_X2_make (P : (Nat → Int32) → (Nat → Int32) → (Nat → Int32) → (Nat → Int32) → (Nat → Int32) → Int32 → Int32 → Int32 → Prop) (o0 : PlT) (o1 : StT) : Prop :=
  wp_X2_lineUp (fun od_1 rd_2 =>
    wp_X2_board (fun vn_3 pn_4 ao_5 sr_6 sp_7 wt_8 =>
      P od_1 rd_2 vn_3 pn_4 ao_5 sr_6 sp_7 wt_8) (mkPl od_1 rd_2 o0.vn o0.pn o0.ao o0.sr o0.sp o0.wt) o1) o0 o1
def wp_X5_set (P : Int32 → (Nat → Int32) → (Nat → Int32) → (Nat → Int32) → (Nat → Int32) → (Nat → Int32) → (Nat → Int32) → Int32 → Int32 → Int32 → (Nat → StT) → Int32 → Int32 → Prop) (now : StT) (pln : PlT) (his : HiT) (x1 : Int32) (x2 : Int32) : Prop :=
  wp_X5_isIn (fun r_1 =>
    ((¬ r_1 = 0) →
      vp_in x1 5 ∧
      vp_in x1 5 ∧
      wp_X5_isIn (fun r_9 =>
        ((¬ r_9 = 0) →
          vp_in x1 5 ∧
          wp_X0_record (fun hs_12 ol_13 sz_14 =>
            vp_in x1 5 ∧
            wp_X2_make (fun od_16 rd_17 vn_18 pn_19 ao_20 sr_21 sp_22 wt_23 =>
              P (now.se x1.toNatClampNeg) (upd now.se x1.toNatClampNeg x2) od_16 rd_17 vn_18 pn_19 ao_20 sr_21 sp_22 wt_23 hs_12 ol_13 sz_14) pln (mkSt (upd now.se x1.toNatClampNeg x2) now.la now.de now.le now.sa now.fl now.ar now.dr now.pe now.ri)) his now) ∧
        ((r_9 = 0) →
          P (-102 : Int32) now.se pln.od pln.rd pln.vn pln.pn pln.ao pln.sr pln.sp pln.wt his.hs his.ol his.sz)) x2 (g_least x1.toNatClampNeg) (g_most x1.toNatClampNeg)) ∧
    ((r_1 = 0) →
      P (-102 : Int32) now.se pln.od pln.rd pln.vn pln.pn pln.ao pln.sr pln.sp pln.wt his.hs his.ol his.sz)) x1 (0 : Int32) (4 : Int32)
def wp_X5_isFlight (P : Int32 → Prop) (x0 : Int32) : Prop :=
  wp_X5_isIn (fun r_1 =>
    g_b r_1 ∧ P r_1) x0 (0 : Int32) (5 : Int32)
def wp_X5_land (P : Int32 → (Nat → Int32) → (Nat → Int32) → (Nat → Int32) → (Nat → Int32) → (Nat → Int32) → (Nat → Int32) → Int32 → Int32 → Int32 → (Nat → StT) → Int32 → Int32 → Prop) (now : StT) (pln : PlT) (his : HiT) (x1 : Int32) (x2 : Int32) : Prop :=
  wp_X5_isFlight (fun r_1 =>
    ((¬ r_1 = 0) →
      wp_X5_isIn (fun r_3 =>
        ((¬ r_3 = 0) →
          vp_in x1 6 ∧
          wp_X0_record (fun hs_6 ol_7 sz_8 =>
            vp_in x1 6 ∧
            wp_X2_make (fun od_10 rd_11 vn_12 pn_13 ao_14 sr_15 sp_16 wt_17 =>
              P (now.la x1.toNatClampNeg) (upd now.la x1.toNatClampNeg x2) od_10 rd_11 vn_12 pn_13 ao_14 sr_15 sp_16 wt_17 hs_6 ol_7 sz_8) pln (mkSt now.se (upd now.la x1.toNatClampNeg x2) now.de now.le now.sa now.fl now.ar now.dr now.pe now.ri)) his now) ∧
        ((r_3 = 0) →
          P (-102 : Int32) now.la pln.od pln.rd pln.vn pln.pn pln.ao pln.sr pln.sp pln.wt his.hs his.ol his.sz)) x2 (0 : Int32) (1200 : Int32)) ∧
    ((r_1 = 0) →
      P (-101 : Int32) now.la pln.od pln.rd pln.vn pln.pn pln.ao pln.sr pln.sp pln.wt his.hs his.ol his.sz)) x1
def wp_X5_isDelay (P : Int32 → Prop) (x0 : Int32) : Prop :=
  wp_X5_isIn (fun r_1 =>
    g_b r_1 ∧ P r_1) x0 (-30 : Int32) (300 : Int32)
def wp_X5_delay (P : Int32 → (Nat → Int32) → (Nat → Int32) → (Nat → Int32) → (Nat → Int32) → (Nat → Int32) → (Nat → Int32) → Int32 → Int32 → Int32 → (Nat → StT) → Int32 → Int32 → Prop) (now : StT) (pln : PlT) (his : HiT) (x1 : Int32) (x2 : Int32) : Prop :=
  wp_X5_isFlight (fun r_1 =>
    ((¬ r_1 = 0) →
      wp_X5_isDelay (fun r_3 =>
        ((¬ r_3 = 0) →
          wp_X0_record (fun hs_5 ol_6 sz_7 =>
            vp_in x1 6 ∧
            wp_X2_make (fun od_9 rd_10 vn_11 pn_12 ao_13 sr_14 sp_15 wt_16 =>
              wp_X3_flightReady (fun r_17 =>
                P r_17 (upd now.de x1.toNatClampNeg x2) od_9 rd_10 vn_11 pn_12 ao_13 sr_14 sp_15 wt_16 hs_5 ol_6 sz_7) (mkSt now.se now.la (upd now.de x1.toNatClampNeg x2) now.le now.sa now.fl now.ar now.dr now.pe now.ri) x1) pln (mkSt now.se now.la (upd now.de x1.toNatClampNeg x2) now.le now.sa now.fl now.ar now.dr now.pe now.ri)) his now) ∧
        ((r_3 = 0) →
          P (-102 : Int32) now.de pln.od pln.rd pln.vn pln.pn pln.ao pln.sr pln.sp pln.wt his.hs his.ol his.sz)) x2) ∧
    ((r_1 = 0) →
      P (-101 : Int32) now.de pln.od pln.rd pln.vn pln.pn pln.ao pln.sr pln.sp pln.wt his.hs his.ol his.sz)) x1
def wp_X5_van (P : Int32 → (Nat → Int32) → (Nat → Int32) → (Nat → Int32) → (Nat → Int32) → (Nat → Int32) → (Nat → Int32) → (Nat → Int32) → Int32 → Int32 → Int32 → (Nat → StT) → Int32 → Int32 → Prop) (now : StT) (pln : PlT) (his : HiT) (x1 : Int32) (x2 : Int32) (x3 : Int32) : Prop :=
  wp_X5_isVan (fun r_1 =>
    ((¬ r_1 = 0) →
      wp_X5_isIn (fun r_3 =>
        ((r_3 = 0) →
          P (-102 : Int32) now.le now.sa pln.od pln.rd pln.vn pln.pn pln.ao pln.sr pln.sp pln.wt his.hs his.ol his.sz) ∧
        ((¬ r_3 = 0) →
          wp_X5_isIn (fun r_5 =>
            ((¬ r_5 = 0) →
              wp_X0_record (fun hs_7 ol_8 sz_9 =>
                vp_in x1 8 ∧
                vp_in x1 8 ∧
                wp_X2_make (fun od_12 rd_13 vn_14 pn_15 ao_16 sr_17 sp_18 wt_19 =>
                  P sp_18 (upd now.le x1.toNatClampNeg x2) (upd now.sa x1.toNatClampNeg x3) od_12 rd_13 vn_14 pn_15 ao_16 sr_17 sp_18 wt_19 hs_7 ol_8 sz_9) pln (mkSt now.se now.la now.de (upd now.le x1.toNatClampNeg x2) (upd now.sa x1.toNatClampNeg x3) now.fl now.ar now.dr now.pe now.ri)) his now) ∧
            ((r_5 = 0) →
              P (-102 : Int32) now.le now.sa pln.od pln.rd pln.vn pln.pn pln.ao pln.sr pln.sp pln.wt his.hs his.ol his.sz)) x3 (0 : Int32) (12 : Int32))) x2 (0 : Int32) (1500 : Int32)) ∧
    ((r_1 = 0) →
      P (-101 : Int32) now.le now.sa pln.od pln.rd pln.vn pln.pn pln.ao pln.sr pln.sp pln.wt his.hs his.ol his.sz)) x1
def wp_X3_addRider (P : (Nat → Int32) → (Nat → Int32) → (Nat → Int32) → (Nat → Int32) → Int32 → Prop) (o0 : StT) (x1 : Int32) (x2 : Int32) (x3 : Int32) (x4 : Int32) : Prop :=
  ((o0.ri < (24 : Int32)) →
    vp_in o0.ri 24 ∧
    vp_in o0.ri 24 ∧
    vp_in o0.ri 24 ∧
    vp_in o0.ri 24 ∧
    P (upd o0.fl o0.ri.toNatClampNeg x1) (upd o0.ar o0.ri.toNatClampNeg x2) (upd o0.dr o0.ri.toNatClampNeg x3) (upd o0.pe o0.ri.toNatClampNeg x4) (o0.ri + (1 : Int32))) ∧
  ((¬ o0.ri < (24 : Int32)) →
    P o0.fl o0.ar o0.dr o0.pe o0.ri)
def wp_X5_ride (P : Int32 → (Nat → Int32) → (Nat → Int32) → (Nat → Int32) → (Nat → Int32) → Int32 → (Nat → Int32) → (Nat → Int32) → (Nat → Int32) → (Nat → Int32) → (Nat → Int32) → Int32 → Int32 → Int32 → (Nat → StT) → Int32 → Int32 → Prop) (now : StT) (pln : PlT) (his : HiT) (x1 : Int32) (x2 : Int32) (x3 : Int32) (x4 : Int32) : Prop :=
  wp_X5_isFlight (fun r_1 =>
    ((r_1 = 0) →
      P (-101 : Int32) now.fl now.ar now.dr now.pe now.ri pln.od pln.rd pln.vn pln.pn pln.ao pln.sr pln.sp pln.wt his.hs his.ol his.sz) ∧
    ((¬ r_1 = 0) →
      wp_X5_isIn (fun r_3 =>
        ((¬ r_3 = 0) →
          wp_X5_isIn (fun r_5 =>
            ((r_5 = 0) →
              P (-102 : Int32) now.fl now.ar now.dr now.pe now.ri pln.od pln.rd pln.vn pln.pn pln.ao pln.sr pln.sp pln.wt his.hs his.ol his.sz) ∧
            ((¬ r_5 = 0) →
              wp_X5_isIn (fun r_7 =>
                ((¬ r_7 = 0) →
                  ((now.ri < (24 : Int32)) →
                    wp_X0_record (fun hs_10 ol_11 sz_12 =>
                      wp_X3_addRider (fun fl_13 ar_14 dr_15 pe_16 ri_17 =>
                        wp_X2_make (fun od_18 rd_19 vn_20 pn_21 ao_22 sr_23 sp_24 wt_25 =>
                          P (ri_17 - (1 : Int32)) fl_13 ar_14 dr_15 pe_16 ri_17 od_18 rd_19 vn_20 pn_21 ao_22 sr_23 sp_24 wt_25 hs_10 ol_11 sz_12) pln (mkSt now.se now.la now.de now.le now.sa fl_13 ar_14 dr_15 pe_16 ri_17)) now x1 x2 x3 x4) his now) ∧
                  ((¬ now.ri < (24 : Int32)) →
                    P (-104 : Int32) now.fl now.ar now.dr now.pe now.ri pln.od pln.rd pln.vn pln.pn pln.ao pln.sr pln.sp pln.wt his.hs his.ol his.sz)) ∧
                ((r_7 = 0) →
                  P (-102 : Int32) now.fl now.ar now.dr now.pe now.ri pln.od pln.rd pln.vn pln.pn pln.ao pln.sr pln.sp pln.wt his.hs his.ol his.sz)) x4 (1 : Int32) (4 : Int32))) x3 (0 : Int32) (99 : Int32)) ∧
        ((r_3 = 0) →
          P (-101 : Int32) now.fl now.ar now.dr now.pe now.ri pln.od pln.rd pln.vn pln.pn pln.ao pln.sr pln.sp pln.wt his.hs his.ol his.sz)) x2 (0 : Int32) (5 : Int32))) x1
def wp_X1_isDigit (P : Int32 → Prop) (x0 : Int32) : Prop :=
  wp_X5_isIn (fun r_1 =>
    g_b r_1 ∧ P r_1) x0 (48 : Int32) (57 : Int32)
def wp_X1_afterFirstDigit (P : Int32 → Prop) (x0 : Int32) : Prop :=
  wp_X1_isDigit (fun r_1 =>
    ((¬ r_1 = 0) →
      ((¬ x0 = (48 : Int32)) →
        P (3 : Int32)) ∧
      ((x0 = (48 : Int32)) →
        P (4 : Int32))) ∧
    ((r_1 = 0) →
      P (7 : Int32))) x0
def wp_X1_afterDoor (P : Int32 → Prop) (x0 : Int32) : Prop :=
  ((¬ x0 = (120 : Int32)) →
    ((¬ x0 = (44 : Int32)) →
      P (7 : Int32)) ∧
    ((x0 = (44 : Int32)) →
      P (0 : Int32))) ∧
  ((x0 = (120 : Int32)) →
    P (5 : Int32))
def wp_X1_after (P : Int32 → Prop) (x0 : Int32) (x1 : Int32) : Prop :=
  (x0 = 0 →
    wp_X5_isIn (fun r_2 =>
      ((r_2 = 0) →
        P (7 : Int32)) ∧
      ((¬ r_2 = 0) →
        P (1 : Int32))) x1 (48 : Int32) (53 : Int32)) ∧
  (x0 = 1 →
    wp_X5_isIn (fun r_4 =>
      ((r_4 = 0) →
        P (7 : Int32)) ∧
      ((¬ r_4 = 0) →
        P (2 : Int32))) x1 (97 : Int32) (102 : Int32)) ∧
  (x0 = 2 →
    wp_X1_afterFirstDigit (fun r_6 =>
      P r_6) x1) ∧
  (x0 = 3 →
    wp_X1_isDigit (fun r_7 =>
      ((r_7 = 0) →
        wp_X1_afterDoor (fun r_9 =>
          P r_9) x1) ∧
      ((¬ r_7 = 0) →
        P (4 : Int32))) x1) ∧
  (x0 = 4 →
    wp_X1_afterDoor (fun r_10 =>
      P r_10) x1) ∧
  (x0 = 5 →
    wp_X5_isIn (fun r_11 =>
      ((r_11 = 0) →
        P (7 : Int32)) ∧
      ((¬ r_11 = 0) →
        P (6 : Int32))) x1 (49 : Int32) (52 : Int32)) ∧
  (x0 = 6 →
    ((¬ x1 = (44 : Int32)) →
      P (7 : Int32)) ∧
    ((x1 = (44 : Int32)) →
      P (0 : Int32))) ∧
  ((¬ x0 = 0 ∧ ¬ x0 = 1 ∧ ¬ x0 = 2 ∧ ¬ x0 = 3 ∧ ¬ x0 = 4 ∧ ¬ x0 = 5 ∧ ¬ x0 = 6) →
    P (7 : Int32))
def wp_X1_mayEnd (P : Int32 → Prop) (x0 : Int32) : Prop :=
  ((x0 = (3 : Int32)) →
    P (1 : Int32)) ∧
  ((¬ x0 = (3 : Int32)) →
    ((x0 = (4 : Int32)) →
      P (1 : Int32)) ∧
    ((¬ x0 = (4 : Int32)) →
      ((¬ x0 = (6 : Int32)) →
        P (0 : Int32)) ∧
      ((x0 = (6 : Int32)) →
        P (1 : Int32))))
def wp_X1_firstFault_4F (P : Int32 → Prop) (o0 : PdT) (r4 : Int32 → Int32 → Prop) (v1 : Int32) (v2 : Int32) : Prop :=
  ((o0.ln ≤ v2) →
    wp_X1_mayEnd (fun r_2 =>
      ((r_2 = 0) →
        P o0.ln) ∧
      ((¬ r_2 = 0) →
        P (-106 : Int32))) v1) ∧
  ((¬ o0.ln ≤ v2) →
    vp_in v2 60 ∧
    wp_X1_after (fun r_5 =>
      ((¬ r_5 = (7 : Int32)) →
        r4 r_5 (v2 + 1)) ∧
      ((r_5 = (7 : Int32)) →
        P v2)) v1 (o0.co v2.toNatClampNeg))
def wp_X1_firstFault_4 (P : Int32 → Prop) (o0 : PdT) : Nat → Int32 → Int32 → Prop
  | 0 => fun _ _ => False
  | n + 1 => wp_X1_firstFault_4F P o0 (wp_X1_firstFault_4 P o0 n)
def wp_X1_firstFault (P : Int32 → Prop) (o0 : PdT) : Prop :=
  ∃ n : Nat, wp_X1_firstFault_4 P o0 n (0 : Int32) (0 : Int32)
def wp_X1_riderCount_4F (P : Int32 → Prop) (o0 : PdT) (r4 : Int32 → Int32 → Prop) (v1 : Int32) (v2 : Int32) : Prop :=
  ((o0.ln ≤ v2) →
    P v1) ∧
  ((¬ o0.ln ≤ v2) →
    vp_in v2 60 ∧
    ((¬ (o0.co v2.toNatClampNeg) = (44 : Int32)) →
      r4 v1 (v2 + 1)) ∧
    (((o0.co v2.toNatClampNeg) = (44 : Int32)) →
      r4 (v1 + 1) (v2 + 1)))
def wp_X1_riderCount_4 (P : Int32 → Prop) (o0 : PdT) : Nat → Int32 → Int32 → Prop
  | 0 => fun _ _ => False
  | n + 1 => wp_X1_riderCount_4F P o0 (wp_X1_riderCount_4 P o0 n)
def wp_X1_riderCount (P : Int32 → Prop) (o0 : PdT) : Prop :=
  ∃ n : Nat, wp_X1_riderCount_4 P o0 n (1 : Int32) (0 : Int32)
def wp_X1_codeAt (P : Int32 → Prop) (o0 : PdT) (x1 : Int32) : Prop :=
  wp_X5_isIn (fun r_1 =>
    ((r_1 = 0) →
      P (0 : Int32)) ∧
    ((¬ r_1 = 0) →
      vp_in x1 60 ∧
      P (o0.co x1.toNatClampNeg))) x1 (0 : Int32) (o0.ln - (1 : Int32))
def wp_X1_addRiderTo_100 (P : Int32 → (Nat → Int32) → (Nat → Int32) → (Nat → Int32) → (Nat → Int32) → Int32 → Prop) (o0 : PdT) (o1 : StT) (x2 : Int32) (v3 : Int32) (v4 : Int32) (v5 : Int32) (v6 : Int32) (v7 : Int32) (fl : Nat → Int32) (ar : Nat → Int32) (dr : Nat → Int32) (pe : Nat → Int32) (ri : Int32) : Prop :=
  wp_X3_addRider (fun fl_12 ar_13 dr_14 pe_15 ri_16 =>
    P v6 fl_12 ar_13 dr_14 pe_15 ri_16) (mkSt o1.se o1.la o1.de o1.le o1.sa fl ar dr pe ri) v3 v4 v5 v7
def wp_X1_addRiderTo_70 (P : Int32 → (Nat → Int32) → (Nat → Int32) → (Nat → Int32) → (Nat → Int32) → Int32 → Prop) (o0 : PdT) (o1 : StT) (x2 : Int32) (v3 : Int32) (v4 : Int32) (v5 : Int32) (v6 : Int32) (fl : Nat → Int32) (ar : Nat → Int32) (dr : Nat → Int32) (pe : Nat → Int32) (ri : Int32) : Prop :=
  wp_X1_codeAt (fun r_9 =>
    ((¬ r_9 = (120 : Int32)) →
      wp_X1_addRiderTo_100 P o0 o1 x2 v3 v4 v5 v6 (1 : Int32) fl ar dr pe ri) ∧
    ((r_9 = (120 : Int32)) →
      wp_X1_codeAt (fun r_11 =>
        wp_X1_addRiderTo_100 P o0 o1 x2 v3 v4 v5 (v6 + 2) (r_11 - (48 : Int32)) fl ar dr pe ri) o0 (v6 + (1 : Int32)))) o0 v6
def wp_X1_addRiderTo (P : Int32 → (Nat → Int32) → (Nat → Int32) → (Nat → Int32) → (Nat → Int32) → Int32 → Prop) (o0 : PdT) (o1 : StT) (x2 : Int32) : Prop :=
  wp_X1_codeAt (fun r_1 =>
    wp_X1_codeAt (fun r_2 =>
      wp_X1_codeAt (fun r_3 =>
        wp_X1_codeAt (fun r_4 =>
          wp_X1_isDigit (fun r_5 =>
            ((r_5 = 0) →
              wp_X1_addRiderTo_70 P o0 o1 x2 (r_1 - (48 : Int32)) (r_2 - (97 : Int32)) (r_3 - (48 : Int32)) (x2 + (3 : Int32)) o1.fl o1.ar o1.dr o1.pe o1.ri) ∧
            ((¬ r_5 = 0) →
              wp_X1_codeAt (fun r_7 =>
                ∀ y_8 : Int32, y_8 = ((((10 : Int32) * (r_3 - (48 : Int32))) + r_7) - (48 : Int32)) →
                wp_X1_addRiderTo_70 P o0 o1 x2 (r_1 - (48 : Int32)) (r_2 - (97 : Int32)) y_8 ((x2 + (3 : Int32)) + 1) o1.fl o1.ar o1.dr o1.pe o1.ri) o0 (x2 + (3 : Int32)))) r_4) o0 (x2 + (3 : Int32))) o0 (x2 + (2 : Int32))) o0 (x2 + (1 : Int32))) o0 x2
def wp_X1_addRidersTo_10F (P : (Nat → Int32) → (Nat → Int32) → (Nat → Int32) → (Nat → Int32) → Int32 → Prop) (o0 : PdT) (o1 : StT) (v2 : Int32) (r10 : Int32 → Int32 → (Nat → Int32) → (Nat → Int32) → (Nat → Int32) → (Nat → Int32) → Int32 → Prop) (v3 : Int32) (v4 : Int32) (fl : Nat → Int32) (ar : Nat → Int32) (dr : Nat → Int32) (pe : Nat → Int32) (ri : Int32) : Prop :=
  ((v2 ≤ v4) →
    P fl ar dr pe ri) ∧
  ((¬ v2 ≤ v4) →
    wp_X1_addRiderTo (fun r_8 fl_3 ar_4 dr_5 pe_6 ri_7 =>
      r10 (r_8 + (1 : Int32)) (v4 + 1) fl_3 ar_4 dr_5 pe_6 ri_7) o0 (mkSt o1.se o1.la o1.de o1.le o1.sa fl ar dr pe ri) v3)
def wp_X1_addRidersTo_10 (P : (Nat → Int32) → (Nat → Int32) → (Nat → Int32) → (Nat → Int32) → Int32 → Prop) (o0 : PdT) (o1 : StT) (v2 : Int32) : Nat → Int32 → Int32 → (Nat → Int32) → (Nat → Int32) → (Nat → Int32) → (Nat → Int32) → Int32 → Prop
  | 0 => fun _ _ _ _ _ _ _ => False
  | n + 1 => wp_X1_addRidersTo_10F P o0 o1 v2 (wp_X1_addRidersTo_10 P o0 o1 v2 n)
def wp_X1_addRidersTo (P : (Nat → Int32) → (Nat → Int32) → (Nat → Int32) → (Nat → Int32) → Int32 → Prop) (o0 : PdT) (o1 : StT) : Prop :=
  wp_X1_riderCount (fun r_1 =>
    ∃ n : Nat, wp_X1_addRidersTo_10 P o0 o1 r_1 n (0 : Int32) (0 : Int32) o1.fl o1.ar o1.dr o1.pe o1.ri) o0
def wp_X5_read (P : Int32 → (Nat → Int32) → (Nat → Int32) → (Nat → Int32) → (Nat → Int32) → Int32 → (Nat → Int32) → (Nat → Int32) → (Nat → Int32) → (Nat → Int32) → (Nat → Int32) → Int32 → Int32 → Int32 → Int32 → (Nat → StT) → Int32 → Int32 → Prop) (now : StT) (pln : PlT) (pad : PdT) (his : HiT) : Prop :=
  wp_X1_firstFault (fun r_1 =>
    ((r_1 = (-106 : Int32)) →
      wp_X1_riderCount (fun r_3 =>
        (((now.ri + r_3) ≤ (24 : Int32)) →
          wp_X0_record (fun hs_5 ol_6 sz_7 =>
            wp_X1_addRidersTo (fun fl_8 ar_9 dr_10 pe_11 ri_12 =>
              wp_X2_make (fun od_13 rd_14 vn_15 pn_16 ao_17 sr_18 sp_19 wt_20 =>
                P ri_12 fl_8 ar_9 dr_10 pe_11 ri_12 od_13 rd_14 vn_15 pn_16 ao_17 sr_18 sp_19 wt_20 (0 : Int32) hs_5 ol_6 sz_7) pln (mkSt now.se now.la now.de now.le now.sa fl_8 ar_9 dr_10 pe_11 ri_12)) pad now) his now) ∧
        ((¬ (now.ri + r_3) ≤ (24 : Int32)) →
          P (-104 : Int32) now.fl now.ar now.dr now.pe now.ri pln.od pln.rd pln.vn pln.pn pln.ao pln.sr pln.sp pln.wt pad.ln his.hs his.ol his.sz)) pad) ∧
    ((¬ r_1 = (-106 : Int32)) →
      P (-103 : Int32) now.fl now.ar now.dr now.pe now.ri pln.od pln.rd pln.vn pln.pn pln.ao pln.sr pln.sp pln.wt pad.ln his.hs his.ol his.sz)) pad
def wp_X5_isRider (P : Int32 → Prop) (now : StT) (x1 : Int32) : Prop :=
  wp_X5_isIn (fun r_1 =>
    g_b r_1 ∧ P r_1) x1 (0 : Int32) (now.ri - (1 : Int32))
def wp_X3_stopKey (P : Int32 → Prop) (o0 : StT) (x1 : Int32) : Prop :=
  vp_in x1 24 ∧
  vp_in x1 24 ∧
  P (((o0.ar x1.toNatClampNeg) * (100 : Int32)) + (o0.dr x1.toNatClampNeg))
def wp_X2_shares (P : Int32 → Prop) (o0 : PlT) (o1 : StT) (x2 : Int32) (x3 : Int32) (x4 : Int32) : Prop :=
  vp_in x2 24 ∧
  vp_in x3 24 ∧
  ((¬ (o0.vn x2.toNatClampNeg) = (o0.vn x3.toNatClampNeg)) →
    P (0 : Int32)) ∧
  (((o0.vn x2.toNatClampNeg) = (o0.vn x3.toNatClampNeg)) →
    ((x4 = 0) →
      P (1 : Int32)) ∧
    ((¬ x4 = 0) →
      wp_X3_stopKey (fun r_5 =>
        wp_X3_stopKey (fun r_6 =>
          ((¬ r_5 = r_6) →
            P (0 : Int32)) ∧
          ((r_5 = r_6) →
            P (1 : Int32))) o1 x3) o1 x2))
def wp_X2_share_71F (P : Int32 → Prop) (o0 : PlT) (o1 : StT) (x2 : Int32) (x3 : Int32) (x4 : Int32) (v5 : Int32) (v6 : Int32) (r71 : Int32 → Int32 → Int32 → Prop) (v7 : Int32) (v8 : Int32) (v9 : Int32) : Prop :=
  ((o1.ri ≤ v9) →
    vp_in x2 24 ∧
    ¬ v6 = 0 ∧
    ((v7 ≤ v8) →
      P ((v5 * (o1.pe x2.toNatClampNeg)) / v6)) ∧
    ((¬ v7 ≤ v8) →
      P (((v5 * (o1.pe x2.toNatClampNeg)) / v6) + (1 : Int32)))) ∧
  ((¬ o1.ri ≤ v9) →
    wp_X2_shares (fun r_11 =>
      ((r_11 = 0) →
        r71 v7 v8 (v9 + 1)) ∧
      ((¬ r_11 = 0) →
        vp_in v9 24 ∧
        ¬ v6 = 0 ∧
        ((x2 ≤ v9) →
          r71 (v7 - ((v5 * (o1.pe v9.toNatClampNeg)) / v6)) (v8 + (0 : Int32)) (v9 + 1)) ∧
        ((¬ x2 ≤ v9) →
          r71 (v7 - ((v5 * (o1.pe v9.toNatClampNeg)) / v6)) (v8 + (1 : Int32)) (v9 + 1)))) o0 o1 x2 v9 x4)
def wp_X2_share_71 (P : Int32 → Prop) (o0 : PlT) (o1 : StT) (x2 : Int32) (x3 : Int32) (x4 : Int32) (v5 : Int32) (v6 : Int32) : Nat → Int32 → Int32 → Int32 → Prop
  | 0 => fun _ _ _ => False
  | n + 1 => wp_X2_share_71F P o0 o1 x2 x3 x4 v5 v6 (wp_X2_share_71 P o0 o1 x2 x3 x4 v5 v6 n)
def wp_X2_share_14F (P : Int32 → Prop) (o0 : PlT) (o1 : StT) (x2 : Int32) (x3 : Int32) (x4 : Int32) (v5 : Int32) (r14 : Int32 → Int32 → Prop) (v6 : Int32) (v7 : Int32) : Prop :=
  ((o1.ri ≤ v7) →
    ((0 < v6) →
      ∃ n : Nat, wp_X2_share_71 P o0 o1 x2 x3 x4 v5 v6 n v5 (0 : Int32) (0 : Int32)) ∧
    ((¬ 0 < v6) →
      P (0 : Int32))) ∧
  ((¬ o1.ri ≤ v7) →
    wp_X2_shares (fun r_4 =>
      ((r_4 = 0) →
        r14 v6 (v7 + 1)) ∧
      ((¬ r_4 = 0) →
        vp_in v7 24 ∧
        r14 (v6 + (o1.pe v7.toNatClampNeg)) (v7 + 1))) o0 o1 x2 v7 x4)
def wp_X2_share_14 (P : Int32 → Prop) (o0 : PlT) (o1 : StT) (x2 : Int32) (x3 : Int32) (x4 : Int32) (v5 : Int32) : Nat → Int32 → Int32 → Prop
  | 0 => fun _ _ => False
  | n + 1 => wp_X2_share_14F P o0 o1 x2 x3 x4 v5 (wp_X2_share_14 P o0 o1 x2 x3 x4 v5 n)
def wp_X2_share (P : Int32 → Prop) (o0 : PlT) (o1 : StT) (x2 : Int32) (x3 : Int32) (x4 : Int32) : Prop :=
  vp_in x3 5 ∧
  ∃ n : Nat, wp_X2_share_14 P o0 o1 x2 x3 x4 (o1.se x3.toNatClampNeg) n (0 : Int32) (0 : Int32)
def wp_X2_fare (P : Int32 → Prop) (o0 : PlT) (o1 : StT) (x2 : Int32) : Prop :=
  vp_in x2 24 ∧
  ((¬ (o0.vn x2.toNatClampNeg) = (-106 : Int32)) →
    wp_X2_share (fun r_3 =>
      wp_X2_share (fun r_4 =>
        P (r_3 + r_4)) o0 o1 x2 (4 : Int32) (1 : Int32)) o0 o1 x2 (3 : Int32) (0 : Int32)) ∧
  (((o0.vn x2.toNatClampNeg) = (-106 : Int32)) →
    P (0 : Int32))
def wp_X3_removeRider_2F (P : (Nat → Int32) → (Nat → Int32) → (Nat → Int32) → (Nat → Int32) → Int32 → Prop) (o0 : StT) (x1 : Int32) (ri : Int32) (r2 : Int32 → (Nat → Int32) → (Nat → Int32) → (Nat → Int32) → (Nat → Int32) → Prop) (v2 : Int32) (fl : Nat → Int32) (ar : Nat → Int32) (dr : Nat → Int32) (pe : Nat → Int32) : Prop :=
  (((ri - (1 : Int32)) ≤ v2) →
    P fl ar dr pe (ri - (1 : Int32))) ∧
  ((¬ (ri - (1 : Int32)) ≤ v2) →
    vp_in (v2 + (1 : Int32)) 24 ∧
    vp_in v2 24 ∧
    vp_in (v2 + (1 : Int32)) 24 ∧
    vp_in v2 24 ∧
    vp_in (v2 + (1 : Int32)) 24 ∧
    vp_in v2 24 ∧
    vp_in (v2 + (1 : Int32)) 24 ∧
    vp_in v2 24 ∧
    r2 (v2 + 1) (upd fl v2.toNatClampNeg (fl (v2 + (1 : Int32)).toNatClampNeg)) (upd ar v2.toNatClampNeg (ar (v2 + (1 : Int32)).toNatClampNeg)) (upd dr v2.toNatClampNeg (dr (v2 + (1 : Int32)).toNatClampNeg)) (upd pe v2.toNatClampNeg (pe (v2 + (1 : Int32)).toNatClampNeg)))
def wp_X3_removeRider_2 (P : (Nat → Int32) → (Nat → Int32) → (Nat → Int32) → (Nat → Int32) → Int32 → Prop) (o0 : StT) (x1 : Int32) (ri : Int32) : Nat → Int32 → (Nat → Int32) → (Nat → Int32) → (Nat → Int32) → (Nat → Int32) → Prop
  | 0 => fun _ _ _ _ _ => False
  | n + 1 => wp_X3_removeRider_2F P o0 x1 ri (wp_X3_removeRider_2 P o0 x1 ri n)
def wp_X3_removeRider (P : (Nat → Int32) → (Nat → Int32) → (Nat → Int32) → (Nat → Int32) → Int32 → Prop) (o0 : StT) (x1 : Int32) : Prop :=
  ∃ n : Nat, wp_X3_removeRider_2 P o0 x1 o0.ri n x1 o0.fl o0.ar o0.dr o0.pe
def wp_X5_cancel (P : Int32 → (Nat → Int32) → (Nat → Int32) → (Nat → Int32) → (Nat → Int32) → Int32 → (Nat → Int32) → (Nat → Int32) → (Nat → Int32) → (Nat → Int32) → (Nat → Int32) → Int32 → Int32 → Int32 → (Nat → StT) → Int32 → Int32 → Prop) (now : StT) (pln : PlT) (his : HiT) (x1 : Int32) : Prop :=
  wp_X5_isRider (fun r_1 =>
    ((¬ r_1 = 0) →
      wp_X2_fare (fun r_3 =>
        wp_X0_record (fun hs_4 ol_5 sz_6 =>
          wp_X3_removeRider (fun fl_7 ar_8 dr_9 pe_10 ri_11 =>
            wp_X2_make (fun od_12 rd_13 vn_14 pn_15 ao_16 sr_17 sp_18 wt_19 =>
              P r_3 fl_7 ar_8 dr_9 pe_10 ri_11 od_12 rd_13 vn_14 pn_15 ao_16 sr_17 sp_18 wt_19 hs_4 ol_5 sz_6) pln (mkSt now.se now.la now.de now.le now.sa fl_7 ar_8 dr_9 pe_10 ri_11)) now x1) his now) pln now x1) ∧
    ((r_1 = 0) →
      P (-101 : Int32) now.fl now.ar now.dr now.pe now.ri pln.od pln.rd pln.vn pln.pn pln.ao pln.sr pln.sp pln.wt his.hs his.ol his.sz)) now x1
def wp_X5_rebook (P : Int32 → (Nat → Int32) → (Nat → Int32) → (Nat → Int32) → (Nat → Int32) → (Nat → Int32) → (Nat → Int32) → Int32 → Int32 → Int32 → (Nat → StT) → Int32 → Int32 → Prop) (now : StT) (pln : PlT) (his : HiT) (x1 : Int32) (x2 : Int32) : Prop :=
  wp_X5_isRider (fun r_1 =>
    ((r_1 = 0) →
      P (-101 : Int32) now.fl pln.od pln.rd pln.vn pln.pn pln.ao pln.sr pln.sp pln.wt his.hs his.ol his.sz) ∧
    ((¬ r_1 = 0) →
      wp_X5_isFlight (fun r_3 =>
        ((¬ r_3 = 0) →
          vp_in x1 24 ∧
          ((¬ (now.fl x1.toNatClampNeg) = x2) →
            wp_X0_record (fun hs_7 ol_8 sz_9 =>
              vp_in x1 24 ∧
              wp_X2_make (fun od_11 rd_12 vn_13 pn_14 ao_15 sr_16 sp_17 wt_18 =>
                vp_in x1 24 ∧
                P (vn_13 x1.toNatClampNeg) (upd now.fl x1.toNatClampNeg x2) od_11 rd_12 vn_13 pn_14 ao_15 sr_16 sp_17 wt_18 hs_7 ol_8 sz_9) pln (mkSt now.se now.la now.de now.le now.sa (upd now.fl x1.toNatClampNeg x2) now.ar now.dr now.pe now.ri)) his now) ∧
          (((now.fl x1.toNatClampNeg) = x2) →
            P (-105 : Int32) now.fl pln.od pln.rd pln.vn pln.pn pln.ao pln.sr pln.sp pln.wt his.hs his.ol his.sz)) ∧
        ((r_3 = 0) →
          P (-101 : Int32) now.fl pln.od pln.rd pln.vn pln.pn pln.ao pln.sr pln.sp pln.wt his.hs his.ol his.sz)) x2)) now x1
def wp_X2_waitOf (P : Int32 → Prop) (o0 : PlT) (o1 : StT) (x2 : Int32) : Prop :=
  vp_in x2 24 ∧
  wp_X5_isVan (fun r_2 =>
    ((r_2 = 0) →
      P (-106 : Int32)) ∧
    ((¬ r_2 = 0) →
      vp_in (o0.vn x2.toNatClampNeg) 8 ∧
      vp_in x2 24 ∧
      P ((o1.le (o0.vn x2.toNatClampNeg).toNatClampNeg) - (o0.rd x2.toNatClampNeg)))) (o0.vn x2.toNatClampNeg)
def wp_X4_placeFor_2F (P : Int32 → Prop) (o0 : WyT) (x1 : Int32) (r2 : Int32 → Prop) (v2 : Int32) : Prop :=
  ((o0.so ≤ v2) →
    P v2) ∧
  ((¬ o0.so ≤ v2) →
    vp_in v2 24 ∧
    ((x1 ≤ (o0.ky v2.toNatClampNeg)) →
      P v2) ∧
    ((¬ x1 ≤ (o0.ky v2.toNatClampNeg)) →
      r2 (v2 + 1)))
def wp_X4_placeFor_2 (P : Int32 → Prop) (o0 : WyT) (x1 : Int32) : Nat → Int32 → Prop
  | 0 => fun _ => False
  | n + 1 => wp_X4_placeFor_2F P o0 x1 (wp_X4_placeFor_2 P o0 x1 n)
def wp_X4_placeFor (P : Int32 → Prop) (o0 : WyT) (x1 : Int32) : Prop :=
  ∃ n : Nat, wp_X4_placeFor_2 P o0 x1 n (0 : Int32)
def wp_X4_openStop_15F (P : (Nat → Int32) → (Nat → Int32) → Int32 → Prop) (o0 : WyT) (x1 : Int32) (x2 : Int32) (so : Int32) (r15 : Int32 → (Nat → Int32) → (Nat → Int32) → Prop) (v3 : Int32) (ky : Nat → Int32) (wp : Nat → Int32) : Prop :=
  ((v3 ≤ x1) →
    vp_in x1 24 ∧
    vp_in x1 24 ∧
    P (upd ky x1.toNatClampNeg x2) (upd wp x1.toNatClampNeg (0 : Int32)) (so + (1 : Int32))) ∧
  ((¬ v3 ≤ x1) →
    vp_in (v3 - (1 : Int32)) 24 ∧
    vp_in v3 24 ∧
    vp_in (v3 - (1 : Int32)) 24 ∧
    vp_in v3 24 ∧
    r15 (v3 + (-1)) (upd ky v3.toNatClampNeg (ky (v3 - (1 : Int32)).toNatClampNeg)) (upd wp v3.toNatClampNeg (wp (v3 - (1 : Int32)).toNatClampNeg)))
def wp_X4_openStop_15 (P : (Nat → Int32) → (Nat → Int32) → Int32 → Prop) (o0 : WyT) (x1 : Int32) (x2 : Int32) (so : Int32) : Nat → Int32 → (Nat → Int32) → (Nat → Int32) → Prop
  | 0 => fun _ _ _ => False
  | n + 1 => wp_X4_openStop_15F P o0 x1 x2 so (wp_X4_openStop_15 P o0 x1 x2 so n)
def wp_X4_openStop (P : (Nat → Int32) → (Nat → Int32) → Int32 → Prop) (o0 : WyT) (x1 : Int32) (x2 : Int32) : Prop :=
  ((o0.so < (24 : Int32)) →
    ∃ n : Nat, wp_X4_openStop_15 P o0 x1 x2 o0.so n o0.so o0.ky o0.wp) ∧
  ((¬ o0.so < (24 : Int32)) →
    P o0.ky o0.wp o0.so)
def wp_X4_letOut_37 (P : (Nat → Int32) → (Nat → Int32) → Int32 → Prop) (o0 : WyT) (x1 : Int32) (x2 : Int32) (v3 : Int32) (ky : Nat → Int32) (wp : Nat → Int32) (so : Int32) : Prop :=
  vp_in v3 24 ∧
  vp_in v3 24 ∧
  P ky (upd wp v3.toNatClampNeg ((wp v3.toNatClampNeg) + x2)) so
def wp_X4_letOut_31 (P : (Nat → Int32) → (Nat → Int32) → Int32 → Prop) (o0 : WyT) (x1 : Int32) (x2 : Int32) (v3 : Int32) (ky : Nat → Int32) (wp : Nat → Int32) (so : Int32) : Prop :=
  wp_X4_openStop (fun ky_6 wp_7 so_8 =>
    wp_X4_letOut_37 P o0 x1 x2 v3 ky_6 wp_7 so_8) (mkWy ky wp o0.mi so) v3 x1
def wp_X4_letOut (P : (Nat → Int32) → (Nat → Int32) → Int32 → Prop) (o0 : WyT) (x1 : Int32) (x2 : Int32) : Prop :=
  wp_X4_placeFor (fun r_1 =>
    ((r_1 < (24 : Int32)) →
      ((r_1 = o0.so) →
        wp_X4_letOut_31 P o0 x1 x2 r_1 o0.ky o0.wp o0.so) ∧
      ((¬ r_1 = o0.so) →
        vp_in r_1 24 ∧
        (((o0.ky r_1.toNatClampNeg) = x1) →
          wp_X4_letOut_37 P o0 x1 x2 r_1 o0.ky o0.wp o0.so) ∧
        ((¬ (o0.ky r_1.toNatClampNeg) = x1) →
          wp_X4_letOut_31 P o0 x1 x2 r_1 o0.ky o0.wp o0.so))) ∧
    ((¬ r_1 < (24 : Int32)) →
      P o0.ky o0.wp o0.so)) o0 x1
def wp_X3_areaOfStop (P : Int32 → Prop) (x0 : Int32) : Prop :=
  P (x0 / (100 : Int32))
def wp_X4_tellMinutes_82 (P : (Nat → Int32) → Prop) (o0 : WyT) (x1 : Int32) (r2 : Int32 → (Nat → Int32) → Prop) (v2 : Int32) (w0 : Int32) (w1 : Int32) (w2 : Int32) (mi : Nat → Int32) : Prop :=
  vp_in w0 24 ∧
  r2 (v2 + 1) (upd mi w0.toNatClampNeg (w1 + w2))
def wp_X4_tellMinutes_2F (P : (Nat → Int32) → Prop) (o0 : WyT) (x1 : Int32) (r2 : Int32 → (Nat → Int32) → Prop) (v2 : Int32) (mi : Nat → Int32) : Prop :=
  ((o0.so ≤ v2) →
    P mi) ∧
  ((¬ o0.so ≤ v2) →
    vp_in v2 24 ∧
    wp_X3_areaOfStop (fun r_3 =>
      ((¬ v2 = 0) →
        vp_in (v2 - (1 : Int32)) 24 ∧
        wp_X3_areaOfStop (fun r_6 =>
          vp_in (v2 - (1 : Int32)) 24 ∧
          (((r_3 - r_6) ≤ 0) →
            wp_X4_tellMinutes_82 P o0 x1 r2 v2 v2 (mi (v2 - (1 : Int32)).toNatClampNeg) (3 : Int32) mi) ∧
          ((¬ (r_3 - r_6) ≤ 0) →
            wp_X4_tellMinutes_82 P o0 x1 r2 v2 v2 (mi (v2 - (1 : Int32)).toNatClampNeg) ((5 : Int32) * (r_3 - r_6)) mi)) (o0.ky (v2 - (1 : Int32)).toNatClampNeg)) ∧
      ((v2 = 0) →
        vp_in v2 24 ∧
        r2 (v2 + 1) (upd mi v2.toNatClampNeg ((x1 + (10 : Int32)) + ((5 : Int32) * r_3))))) (o0.ky v2.toNatClampNeg))
def wp_X4_tellMinutes_2 (P : (Nat → Int32) → Prop) (o0 : WyT) (x1 : Int32) : Nat → Int32 → (Nat → Int32) → Prop
  | 0 => fun _ _ => False
  | n + 1 => wp_X4_tellMinutes_2F P o0 x1 (wp_X4_tellMinutes_2 P o0 x1 n)
def wp_X4_tellMinutes (P : (Nat → Int32) → Prop) (o0 : WyT) (x1 : Int32) : Prop :=
  ∃ n : Nat, wp_X4_tellMinutes_2 P o0 x1 n (0 : Int32) o0.mi
def wp_X4_follow_8F (P : (Nat → Int32) → (Nat → Int32) → (Nat → Int32) → Int32 → Prop) (o0 : WyT) (o1 : StT) (o2 : PlT) (x3 : Int32) (mi : Nat → Int32) (r8 : Int32 → (Nat → Int32) → (Nat → Int32) → Int32 → Prop) (v4 : Int32) (ky : Nat → Int32) (wp : Nat → Int32) (so : Int32) : Prop :=
  ((o1.ri ≤ v4) →
    vp_in x3 8 ∧
    wp_X4_tellMinutes (fun mi_3 =>
      P ky wp mi_3 so) (mkWy ky wp mi so) (o1.le x3.toNatClampNeg)) ∧
  ((¬ o1.ri ≤ v4) →
    vp_in v4 24 ∧
    ((¬ (o2.vn v4.toNatClampNeg) = x3) →
      r8 (v4 + 1) ky wp so) ∧
    (((o2.vn v4.toNatClampNeg) = x3) →
      wp_X3_stopKey (fun r_6 =>
        vp_in v4 24 ∧
        wp_X4_letOut (fun ky_8 wp_9 so_10 =>
          r8 (v4 + 1) ky_8 wp_9 so_10) (mkWy ky wp mi so) r_6 (o1.pe v4.toNatClampNeg)) o1 v4))
def wp_X4_follow_8 (P : (Nat → Int32) → (Nat → Int32) → (Nat → Int32) → Int32 → Prop) (o0 : WyT) (o1 : StT) (o2 : PlT) (x3 : Int32) (mi : Nat → Int32) : Nat → Int32 → (Nat → Int32) → (Nat → Int32) → Int32 → Prop
  | 0 => fun _ _ _ _ => False
  | n + 1 => wp_X4_follow_8F P o0 o1 o2 x3 mi (wp_X4_follow_8 P o0 o1 o2 x3 mi n)
def wp_X4_follow (P : (Nat → Int32) → (Nat → Int32) → (Nat → Int32) → Int32 → Prop) (o0 : WyT) (o1 : StT) (o2 : PlT) (x3 : Int32) : Prop :=
  ∃ n : Nat, wp_X4_follow_8 P o0 o1 o2 x3 o0.mi n (0 : Int32) o0.ky o0.wp (0 : Int32)
def wp_X4_minuteAt (P : Int32 → Prop) (o0 : WyT) (x1 : Int32) : Prop :=
  wp_X4_placeFor (fun r_1 =>
    ((o0.so ≤ r_1) →
      P (-106 : Int32)) ∧
    ((¬ o0.so ≤ r_1) →
      vp_in r_1 24 ∧
      P (o0.mi r_1.toNatClampNeg))) o0 x1
def wp_X5_minuteAtDoor (P : Int32 → (Nat → Int32) → (Nat → Int32) → (Nat → Int32) → Int32 → Prop) (now : StT) (pln : PlT) (way : WyT) (x1 : Int32) : Prop :=
  vp_in x1 24 ∧
  wp_X5_isVan (fun r_2 =>
    ((¬ r_2 = 0) →
      wp_X4_follow (fun ky_4 wp_5 mi_6 so_7 =>
        wp_X3_stopKey (fun r_8 =>
          wp_X4_minuteAt (fun r_9 =>
            P r_9 ky_4 wp_5 mi_6 so_7) (mkWy ky_4 wp_5 mi_6 so_7) r_8) now x1) way now pln (pln.vn x1.toNatClampNeg)) ∧
    ((r_2 = 0) →
      P (-106 : Int32) way.ky way.wp way.mi way.so)) (pln.vn x1.toNatClampNeg)
def wp_X2_othersAtStop_18F (P : Int32 → Prop) (o0 : PlT) (o1 : StT) (x2 : Int32) (r18 : Int32 → Int32 → Prop) (v3 : Int32) (v4 : Int32) : Prop :=
  ((o1.ri ≤ v4) →
    P v3) ∧
  ((¬ o1.ri ≤ v4) →
    ((v4 = x2) →
      r18 v3 (v4 + 1)) ∧
    ((¬ v4 = x2) →
      wp_X2_shares (fun r_5 =>
        ((r_5 = 0) →
          r18 v3 (v4 + 1)) ∧
        ((¬ r_5 = 0) →
          r18 (v3 + 1) (v4 + 1))) o0 o1 x2 v4 (1 : Int32)))
def wp_X2_othersAtStop_18 (P : Int32 → Prop) (o0 : PlT) (o1 : StT) (x2 : Int32) : Nat → Int32 → Int32 → Prop
  | 0 => fun _ _ => False
  | n + 1 => wp_X2_othersAtStop_18F P o0 o1 x2 (wp_X2_othersAtStop_18 P o0 o1 x2 n)
def wp_X2_othersAtStop (P : Int32 → Prop) (o0 : PlT) (o1 : StT) (x2 : Int32) : Prop :=
  vp_in x2 24 ∧
  ((¬ (o0.vn x2.toNatClampNeg) = (-106 : Int32)) →
    ∃ n : Nat, wp_X2_othersAtStop_18 P o0 o1 x2 n (0 : Int32) (0 : Int32)) ∧
  (((o0.vn x2.toNatClampNeg) = (-106 : Int32)) →
    P (0 : Int32))
def wp_X5_rider (P : Int32 → (Nat → Int32) → (Nat → Int32) → (Nat → Int32) → Int32 → Prop) (now : StT) (pln : PlT) (way : WyT) (x1 : Int32) (x2 : Int32) : Prop :=
  wp_X5_isRider (fun r_1 =>
    ((¬ r_1 = 0) →
      (x2 = 0 →
        vp_in x1 24 ∧
        P (now.fl x1.toNatClampNeg) way.ky way.wp way.mi way.so) ∧
      (x2 = 1 →
        vp_in x1 24 ∧
        P (now.ar x1.toNatClampNeg) way.ky way.wp way.mi way.so) ∧
      (x2 = 2 →
        vp_in x1 24 ∧
        P (now.dr x1.toNatClampNeg) way.ky way.wp way.mi way.so) ∧
      (x2 = 3 →
        vp_in x1 24 ∧
        P (now.pe x1.toNatClampNeg) way.ky way.wp way.mi way.so) ∧
      (x2 = 4 →
        wp_X3_riderReady (fun r_8 =>
          P r_8 way.ky way.wp way.mi way.so) now x1) ∧
      (x2 = 5 →
        vp_in x1 24 ∧
        P (pln.vn x1.toNatClampNeg) way.ky way.wp way.mi way.so) ∧
      (x2 = 6 →
        wp_X2_waitOf (fun r_10 =>
          P r_10 way.ky way.wp way.mi way.so) pln now x1) ∧
      (x2 = 7 →
        wp_X5_minuteAtDoor (fun r_15 ky_11 wp_12 mi_13 so_14 =>
          P r_15 ky_11 wp_12 mi_13 so_14) now pln way x1) ∧
      (x2 = 8 →
        wp_X2_fare (fun r_16 =>
          P r_16 way.ky way.wp way.mi way.so) pln now x1) ∧
      (x2 = 9 →
        wp_X2_othersAtStop (fun r_17 =>
          P r_17 way.ky way.wp way.mi way.so) pln now x1) ∧
      ((¬ x2 = 0 ∧ ¬ x2 = 1 ∧ ¬ x2 = 2 ∧ ¬ x2 = 3 ∧ ¬ x2 = 4 ∧ ¬ x2 = 5 ∧ ¬ x2 = 6 ∧ ¬ x2 = 7 ∧ ¬ x2 = 8 ∧ ¬ x2 = 9) →
        P (-102 : Int32) way.ky way.wp way.mi way.so)) ∧
    ((r_1 = 0) →
      P (-101 : Int32) way.ky way.wp way.mi way.so)) now x1
def wp_X2_ridersIn_5F (P : Int32 → Prop) (o0 : PlT) (o1 : StT) (x2 : Int32) (r5 : Int32 → Int32 → Prop) (v3 : Int32) (v4 : Int32) : Prop :=
  ((o1.ri ≤ v4) →
    P v3) ∧
  ((¬ o1.ri ≤ v4) →
    vp_in v4 24 ∧
    ((¬ (o0.vn v4.toNatClampNeg) = x2) →
      r5 v3 (v4 + 1)) ∧
    (((o0.vn v4.toNatClampNeg) = x2) →
      r5 (v3 ||| ((1 : Int32) <<< (v4 &&& 31))) (v4 + 1)))
def wp_X2_ridersIn_5 (P : Int32 → Prop) (o0 : PlT) (o1 : StT) (x2 : Int32) : Nat → Int32 → Int32 → Prop
  | 0 => fun _ _ => False
  | n + 1 => wp_X2_ridersIn_5F P o0 o1 x2 (wp_X2_ridersIn_5 P o0 o1 x2 n)
def wp_X2_ridersIn (P : Int32 → Prop) (o0 : PlT) (o1 : StT) (x2 : Int32) : Prop :=
  ∃ n : Nat, wp_X2_ridersIn_5 P o0 o1 x2 n (0 : Int32) (0 : Int32)
def wp_X4_lastMinute (P : Int32 → Prop) (o0 : WyT) : Prop :=
  ((o0.so ≤ 0) →
    P (-106 : Int32)) ∧
  ((¬ o0.so ≤ 0) →
    vp_in (o0.so - (1 : Int32)) 24 ∧
    P (o0.mi (o0.so - (1 : Int32)).toNatClampNeg))
def wp_X2_faresOf_5F (P : Int32 → Prop) (o0 : PlT) (o1 : StT) (x2 : Int32) (r5 : Int32 → Int32 → Prop) (v3 : Int32) (v4 : Int32) : Prop :=
  ((o1.ri ≤ v4) →
    P v3) ∧
  ((¬ o1.ri ≤ v4) →
    vp_in v4 24 ∧
    ((¬ (o0.vn v4.toNatClampNeg) = x2) →
      r5 v3 (v4 + 1)) ∧
    (((o0.vn v4.toNatClampNeg) = x2) →
      wp_X2_fare (fun r_4 =>
        r5 (v3 + r_4) (v4 + 1)) o0 o1 v4))
def wp_X2_faresOf_5 (P : Int32 → Prop) (o0 : PlT) (o1 : StT) (x2 : Int32) : Nat → Int32 → Int32 → Prop
  | 0 => fun _ _ => False
  | n + 1 => wp_X2_faresOf_5F P o0 o1 x2 (wp_X2_faresOf_5 P o0 o1 x2 n)
def wp_X2_faresOf (P : Int32 → Prop) (o0 : PlT) (o1 : StT) (x2 : Int32) : Prop :=
  ∃ n : Nat, wp_X2_faresOf_5 P o0 o1 x2 n (0 : Int32) (0 : Int32)
def wp_X5_vanOf (P : Int32 → (Nat → Int32) → (Nat → Int32) → (Nat → Int32) → Int32 → Prop) (now : StT) (pln : PlT) (way : WyT) (x1 : Int32) (x2 : Int32) : Prop :=
  wp_X5_isVan (fun r_1 =>
    ((¬ r_1 = 0) →
      wp_X4_follow (fun ky_3 wp_4 mi_5 so_6 =>
        (x2 = 0 →
          vp_in x1 8 ∧
          P (now.le x1.toNatClampNeg) ky_3 wp_4 mi_5 so_6) ∧
        (x2 = 1 →
          vp_in x1 8 ∧
          P (now.sa x1.toNatClampNeg) ky_3 wp_4 mi_5 so_6) ∧
        (x2 = 2 →
          vp_in x1 8 ∧
          P (pln.pn x1.toNatClampNeg) ky_3 wp_4 mi_5 so_6) ∧
        (x2 = 3 →
          wp_X2_ridersIn (fun r_11 =>
            P r_11 ky_3 wp_4 mi_5 so_6) pln now x1) ∧
        (x2 = 4 →
          vp_in x1 8 ∧
          P (pln.ao x1.toNatClampNeg) ky_3 wp_4 mi_5 so_6) ∧
        (x2 = 5 →
          P so_6 ky_3 wp_4 mi_5 so_6) ∧
        (x2 = 6 →
          wp_X4_lastMinute (fun r_13 =>
            P r_13 ky_3 wp_4 mi_5 so_6) (mkWy ky_3 wp_4 mi_5 so_6)) ∧
        (x2 = 7 →
          wp_X2_faresOf (fun r_14 =>
            P r_14 ky_3 wp_4 mi_5 so_6) pln now x1) ∧
        ((¬ x2 = 0 ∧ ¬ x2 = 1 ∧ ¬ x2 = 2 ∧ ¬ x2 = 3 ∧ ¬ x2 = 4 ∧ ¬ x2 = 5 ∧ ¬ x2 = 6 ∧ ¬ x2 = 7) →
          P (-102 : Int32) ky_3 wp_4 mi_5 so_6)) way now pln x1) ∧
    ((r_1 = 0) →
      P (-101 : Int32) way.ky way.wp way.mi way.so)) x1
def wp_X2_peopleOfFlight_36 (P : Int32 → Prop) (o0 : PlT) (o1 : StT) (x2 : Int32) (x3 : Int32) (r6 : Int32 → Int32 → Prop) (v4 : Int32) (v5 : Int32) (w0 : Int32) : Prop :=
  ((w0 = 0) →
    r6 v4 (v5 + 1)) ∧
  ((¬ w0 = 0) →
    vp_in v5 24 ∧
    ((¬ (o1.fl v5.toNatClampNeg) = x2) →
      r6 v4 (v5 + 1)) ∧
    (((o1.fl v5.toNatClampNeg) = x2) →
      vp_in v5 24 ∧
      r6 (v4 + (o1.pe v5.toNatClampNeg)) (v5 + 1)))
def wp_X2_peopleOfFlight_6F (P : Int32 → Prop) (o0 : PlT) (o1 : StT) (x2 : Int32) (x3 : Int32) (r6 : Int32 → Int32 → Prop) (v4 : Int32) (v5 : Int32) : Prop :=
  ((o1.ri ≤ v5) →
    P v4) ∧
  ((¬ o1.ri ≤ v5) →
    ((x3 = 0) →
      wp_X2_peopleOfFlight_36 P o0 o1 x2 x3 r6 v4 v5 (1 : Int32)) ∧
    ((¬ x3 = 0) →
      vp_in v5 24 ∧
      ((¬ (o0.vn v5.toNatClampNeg) = (-106 : Int32)) →
        wp_X2_peopleOfFlight_36 P o0 o1 x2 x3 r6 v4 v5 (0 : Int32)) ∧
      (((o0.vn v5.toNatClampNeg) = (-106 : Int32)) →
        wp_X2_peopleOfFlight_36 P o0 o1 x2 x3 r6 v4 v5 (1 : Int32))))
def wp_X2_peopleOfFlight_6 (P : Int32 → Prop) (o0 : PlT) (o1 : StT) (x2 : Int32) (x3 : Int32) : Nat → Int32 → Int32 → Prop
  | 0 => fun _ _ => False
  | n + 1 => wp_X2_peopleOfFlight_6F P o0 o1 x2 x3 (wp_X2_peopleOfFlight_6 P o0 o1 x2 x3 n)
def wp_X2_peopleOfFlight (P : Int32 → Prop) (o0 : PlT) (o1 : StT) (x2 : Int32) (x3 : Int32) : Prop :=
  ∃ n : Nat, wp_X2_peopleOfFlight_6 P o0 o1 x2 x3 n (0 : Int32) (0 : Int32)
def wp_X5_flight (P : Int32 → Prop) (now : StT) (pln : PlT) (x1 : Int32) (x2 : Int32) : Prop :=
  wp_X5_isFlight (fun r_1 =>
    ((¬ r_1 = 0) →
      (x2 = 0 →
        vp_in x1 6 ∧
        P (now.la x1.toNatClampNeg)) ∧
      (x2 = 1 →
        vp_in x1 6 ∧
        P (now.de x1.toNatClampNeg)) ∧
      (x2 = 2 →
        wp_X3_flightReady (fun r_6 =>
          P r_6) now x1) ∧
      (x2 = 3 →
        wp_X2_peopleOfFlight (fun r_7 =>
          P r_7) pln now x1 (0 : Int32)) ∧
      (x2 = 4 →
        wp_X2_peopleOfFlight (fun r_8 =>
          P r_8) pln now x1 (1 : Int32)) ∧
      ((¬ x2 = 0 ∧ ¬ x2 = 1 ∧ ¬ x2 = 2 ∧ ¬ x2 = 3 ∧ ¬ x2 = 4) →
        P (-102 : Int32))) ∧
    ((r_1 = 0) →
      P (-101 : Int32))) x1
def wp_X3_doorOfStop (P : Int32 → Prop) (x0 : Int32) : Prop :=
  P (x0 - x0 / (100 : Int32) * (100 : Int32))
def wp_X5_stop (P : Int32 → (Nat → Int32) → (Nat → Int32) → (Nat → Int32) → Int32 → Prop) (now : StT) (pln : PlT) (way : WyT) (x1 : Int32) (x2 : Int32) (x3 : Int32) : Prop :=
  wp_X5_isVan (fun r_1 =>
    ((¬ r_1 = 0) →
      wp_X4_follow (fun ky_3 wp_4 mi_5 so_6 =>
        wp_X5_isIn (fun r_7 =>
          ((¬ r_7 = 0) →
            (x3 = 0 →
              vp_in x2 24 ∧
              wp_X3_areaOfStop (fun r_11 =>
                P r_11 ky_3 wp_4 mi_5 so_6) (ky_3 x2.toNatClampNeg)) ∧
            (x3 = 1 →
              vp_in x2 24 ∧
              wp_X3_doorOfStop (fun r_13 =>
                P r_13 ky_3 wp_4 mi_5 so_6) (ky_3 x2.toNatClampNeg)) ∧
            (x3 = 2 →
              vp_in x2 24 ∧
              P (mi_5 x2.toNatClampNeg) ky_3 wp_4 mi_5 so_6) ∧
            (x3 = 3 →
              vp_in x2 24 ∧
              P (wp_4 x2.toNatClampNeg) ky_3 wp_4 mi_5 so_6) ∧
            ((¬ x3 = 0 ∧ ¬ x3 = 1 ∧ ¬ x3 = 2 ∧ ¬ x3 = 3) →
              P (-102 : Int32) ky_3 wp_4 mi_5 so_6)) ∧
          ((r_7 = 0) →
            P (-101 : Int32) ky_3 wp_4 mi_5 so_6)) x2 (0 : Int32) (so_6 - (1 : Int32))) way now pln x1) ∧
    ((r_1 = 0) →
      P (-101 : Int32) way.ky way.wp way.mi way.so)) x1
def wp_X3_allPeople_4F (P : Int32 → Prop) (o0 : StT) (r4 : Int32 → Int32 → Prop) (v1 : Int32) (v2 : Int32) : Prop :=
  ((o0.ri ≤ v2) →
    P v1) ∧
  ((¬ o0.ri ≤ v2) →
    vp_in v2 24 ∧
    r4 (v1 + (o0.pe v2.toNatClampNeg)) (v2 + 1))
def wp_X3_allPeople_4 (P : Int32 → Prop) (o0 : StT) : Nat → Int32 → Int32 → Prop
  | 0 => fun _ _ => False
  | n + 1 => wp_X3_allPeople_4F P o0 (wp_X3_allPeople_4 P o0 n)
def wp_X3_allPeople (P : Int32 → Prop) (o0 : StT) : Prop :=
  ∃ n : Nat, wp_X3_allPeople_4 P o0 n (0 : Int32) (0 : Int32)
def wp_X5_allFares_4F (P : Int32 → Prop) (now : StT) (pln : PlT) (r4 : Int32 → Int32 → Prop) (v1 : Int32) (v2 : Int32) : Prop :=
  ((now.ri ≤ v2) →
    P v1) ∧
  ((¬ now.ri ≤ v2) →
    wp_X2_fare (fun r_2 =>
      r4 (v1 + r_2) (v2 + 1)) pln now v2)
def wp_X5_allFares_4 (P : Int32 → Prop) (now : StT) (pln : PlT) : Nat → Int32 → Int32 → Prop
  | 0 => fun _ _ => False
  | n + 1 => wp_X5_allFares_4F P now pln (wp_X5_allFares_4 P now pln n)
def wp_X5_allFares (P : Int32 → Prop) (now : StT) (pln : PlT) : Prop :=
  ∃ n : Nat, wp_X5_allFares_4 P now pln n (0 : Int32) (0 : Int32)
def wp_X2_vansWithRiders_4F (P : Int32 → Prop) (o0 : PlT) (r4 : Int32 → Int32 → Prop) (v1 : Int32) (v2 : Int32) : Prop :=
  (((8 : Int32) ≤ v2) →
    P v1) ∧
  ((¬ (8 : Int32) ≤ v2) →
    vp_in v2 8 ∧
    (((o0.pn v2.toNatClampNeg) ≤ 0) →
      r4 v1 (v2 + 1)) ∧
    ((¬ (o0.pn v2.toNatClampNeg) ≤ 0) →
      r4 (v1 + 1) (v2 + 1)))
def wp_X2_vansWithRiders_4 (P : Int32 → Prop) (o0 : PlT) : Nat → Int32 → Int32 → Prop
  | 0 => fun _ _ => False
  | n + 1 => wp_X2_vansWithRiders_4F P o0 (wp_X2_vansWithRiders_4 P o0 n)
def wp_X2_vansWithRiders (P : Int32 → Prop) (o0 : PlT) : Prop :=
  ∃ n : Nat, wp_X2_vansWithRiders_4 P o0 n (0 : Int32) (0 : Int32)
def wp_X5_allStops_4F (P : Int32 → (Nat → Int32) → (Nat → Int32) → (Nat → Int32) → Int32 → Prop) (now : StT) (pln : PlT) (way : WyT) (r4 : Int32 → Int32 → (Nat → Int32) → (Nat → Int32) → (Nat → Int32) → Int32 → Prop) (v1 : Int32) (v2 : Int32) (way_ky : Nat → Int32) (way_wp : Nat → Int32) (way_mi : Nat → Int32) (way_so : Int32) : Prop :=
  (((8 : Int32) ≤ v2) →
    P v1 way_ky way_wp way_mi way_so) ∧
  ((¬ (8 : Int32) ≤ v2) →
    wp_X4_follow (fun ky_2 wp_3 mi_4 so_5 =>
      r4 (v1 + so_5) (v2 + 1) ky_2 wp_3 mi_4 so_5) (mkWy way_ky way_wp way_mi way_so) now pln v2)
def wp_X5_allStops_4 (P : Int32 → (Nat → Int32) → (Nat → Int32) → (Nat → Int32) → Int32 → Prop) (now : StT) (pln : PlT) (way : WyT) : Nat → Int32 → Int32 → (Nat → Int32) → (Nat → Int32) → (Nat → Int32) → Int32 → Prop
  | 0 => fun _ _ _ _ _ _ => False
  | n + 1 => wp_X5_allStops_4F P now pln way (wp_X5_allStops_4 P now pln way n)
def wp_X5_allStops (P : Int32 → (Nat → Int32) → (Nat → Int32) → (Nat → Int32) → Int32 → Prop) (now : StT) (pln : PlT) (way : WyT) : Prop :=
  ∃ n : Nat, wp_X5_allStops_4 P now pln way n (0 : Int32) (0 : Int32) way.ky way.wp way.mi way.so
def wp_X5_lastAtDoor_6F (P : Int32 → (Nat → Int32) → (Nat → Int32) → (Nat → Int32) → Int32 → Prop) (way : WyT) (o1 : StT) (o2 : PlT) (r6 : Int32 → Int32 → (Nat → Int32) → (Nat → Int32) → (Nat → Int32) → Int32 → Prop) (v3 : Int32) (v4 : Int32) (way_ky : Nat → Int32) (way_wp : Nat → Int32) (way_mi : Nat → Int32) (way_so : Int32) : Prop :=
  (((8 : Int32) ≤ v4) →
    P v3 way_ky way_wp way_mi way_so) ∧
  ((¬ (8 : Int32) ≤ v4) →
    wp_X4_follow (fun ky_2 wp_3 mi_4 so_5 =>
      ((so_5 ≤ 0) →
        r6 v3 (v4 + 1) ky_2 wp_3 mi_4 so_5) ∧
      ((¬ so_5 ≤ 0) →
        wp_X4_lastMinute (fun r_7 =>
          r6 (if v3 < r_7 then r_7 else v3) (v4 + 1) ky_2 wp_3 mi_4 so_5) (mkWy ky_2 wp_3 mi_4 so_5))) (mkWy way_ky way_wp way_mi way_so) o1 o2 v4)
def wp_X5_lastAtDoor_6 (P : Int32 → (Nat → Int32) → (Nat → Int32) → (Nat → Int32) → Int32 → Prop) (way : WyT) (o1 : StT) (o2 : PlT) : Nat → Int32 → Int32 → (Nat → Int32) → (Nat → Int32) → (Nat → Int32) → Int32 → Prop
  | 0 => fun _ _ _ _ _ _ => False
  | n + 1 => wp_X5_lastAtDoor_6F P way o1 o2 (wp_X5_lastAtDoor_6 P way o1 o2 n)
def wp_X5_lastAtDoor (P : Int32 → (Nat → Int32) → (Nat → Int32) → (Nat → Int32) → Int32 → Prop) (way : WyT) (o1 : StT) (o2 : PlT) : Prop :=
  ∃ n : Nat, wp_X5_lastAtDoor_6 P way o1 o2 n (-106 : Int32) (0 : Int32) way.ky way.wp way.mi way.so
def wp_X5_count (P : Int32 → (Nat → Int32) → (Nat → Int32) → (Nat → Int32) → Int32 → Prop) (now : StT) (pln : PlT) (way : WyT) (pad : PdT) (his : HiT) (x1 : Int32) : Prop :=
  wp_X5_isIn (fun r_1 =>
    ((r_1 = 0) →
      (x1 = 5 →
        P now.ri way.ky way.wp way.mi way.so) ∧
      (x1 = 6 →
        wp_X3_allPeople (fun r_4 =>
          P r_4 way.ky way.wp way.mi way.so) now) ∧
      (x1 = 7 →
        P pln.sr way.ky way.wp way.mi way.so) ∧
      (x1 = 8 →
        P pln.sp way.ky way.wp way.mi way.so) ∧
      (x1 = 9 →
        P pln.wt way.ky way.wp way.mi way.so) ∧
      (x1 = 10 →
        wp_X5_allFares (fun r_5 =>
          P r_5 way.ky way.wp way.mi way.so) now pln) ∧
      (x1 = 11 →
        wp_X2_vansWithRiders (fun r_6 =>
          P r_6 way.ky way.wp way.mi way.so) pln) ∧
      (x1 = 12 →
        wp_X5_allStops (fun r_11 ky_7 wp_8 mi_9 so_10 =>
          P r_11 ky_7 wp_8 mi_9 so_10) now pln way) ∧
      (x1 = 13 →
        wp_X5_lastAtDoor (fun r_16 ky_12 wp_13 mi_14 so_15 =>
          P r_16 ky_12 wp_13 mi_14 so_15) way now pln) ∧
      (x1 = 14 →
        P pad.ln way.ky way.wp way.mi way.so) ∧
      (x1 = 15 →
        P his.sz way.ky way.wp way.mi way.so) ∧
      ((¬ x1 = 5 ∧ ¬ x1 = 6 ∧ ¬ x1 = 7 ∧ ¬ x1 = 8 ∧ ¬ x1 = 9 ∧ ¬ x1 = 10 ∧ ¬ x1 = 11 ∧ ¬ x1 = 12 ∧ ¬ x1 = 13 ∧ ¬ x1 = 14 ∧ ¬ x1 = 15) →
        P (-102 : Int32) way.ky way.wp way.mi way.so)) ∧
    ((¬ r_1 = 0) →
      vp_in x1 5 ∧
      P (now.se x1.toNatClampNeg) way.ky way.wp way.mi way.so)) x1 (0 : Int32) (4 : Int32)
def wp_X2_isAtKerb (P : Int32 → Prop) (o0 : PlT) (o1 : StT) (x2 : Int32) (x3 : Int32) : Prop :=
  vp_in x2 24 ∧
  (((o0.rd x2.toNatClampNeg) ≤ x3) →
    vp_in x2 24 ∧
    wp_X5_isVan (fun r_4 =>
      ((r_4 = 0) →
        vp_in x2 24 ∧
        (((o1.se (1 : Int32).toNatClampNeg) < (x3 - (o0.rd x2.toNatClampNeg))) →
          P (0 : Int32)) ∧
        ((¬ (o1.se (1 : Int32).toNatClampNeg) < (x3 - (o0.rd x2.toNatClampNeg))) →
          P (1 : Int32))) ∧
      ((¬ r_4 = 0) →
        vp_in (o0.vn x2.toNatClampNeg) 8 ∧
        (((o1.le (o0.vn x2.toNatClampNeg).toNatClampNeg) ≤ x3) →
          P (0 : Int32)) ∧
        ((¬ (o1.le (o0.vn x2.toNatClampNeg).toNatClampNeg) ≤ x3) →
          P (1 : Int32)))) (o0.vn x2.toNatClampNeg)) ∧
  ((¬ (o0.rd x2.toNatClampNeg) ≤ x3) →
    P (0 : Int32))
def wp_X5_kerb_18F (P : Int32 → Prop) (now : StT) (pln : PlT) (x1 : Int32) (r18 : Int32 → Int32 → Prop) (v2 : Int32) (v3 : Int32) : Prop :=
  ((now.ri ≤ v3) →
    P v2) ∧
  ((¬ now.ri ≤ v3) →
    wp_X2_isAtKerb (fun r_4 =>
      ((r_4 = 0) →
        r18 v2 (v3 + 1)) ∧
      ((¬ r_4 = 0) →
        vp_in v3 24 ∧
        r18 (v2 + (now.pe v3.toNatClampNeg)) (v3 + 1))) pln now v3 x1)
def wp_X5_kerb_18 (P : Int32 → Prop) (now : StT) (pln : PlT) (x1 : Int32) : Nat → Int32 → Int32 → Prop
  | 0 => fun _ _ => False
  | n + 1 => wp_X5_kerb_18F P now pln x1 (wp_X5_kerb_18 P now pln x1 n)
def wp_X5_kerb (P : Int32 → Prop) (now : StT) (pln : PlT) (x1 : Int32) : Prop :=
  wp_X5_isIn (fun r_1 =>
    ((¬ r_1 = 0) →
      ∃ n : Nat, wp_X5_kerb_18 P now pln x1 n (0 : Int32) (0 : Int32)) ∧
    ((r_1 = 0) →
      P (-102 : Int32))) x1 (0 : Int32) (3000 : Int32)
def wp_X5_ifDelayed (P : Int32 → (Nat → Int32) → (Nat → Int32) → (Nat → Int32) → Int32 → (Nat → Int32) → (Nat → Int32) → (Nat → Int32) → (Nat → Int32) → (Nat → Int32) → (Nat → Int32) → (Nat → Int32) → (Nat → Int32) → (Nat → Int32) → Int32 → (Nat → Int32) → (Nat → Int32) → (Nat → Int32) → (Nat → Int32) → (Nat → Int32) → Int32 → Int32 → Int32 → Prop) (now : StT) (way : WyT) (tri : StT) (tpl : PlT) (x1 : Int32) (x2 : Int32) (x3 : Int32) : Prop :=
  wp_X5_isFlight (fun r_1 =>
    ((¬ r_1 = 0) →
      wp_X5_isDelay (fun r_3 =>
        ((r_3 = 0) →
          P (-102 : Int32) way.ky way.wp way.mi way.so tri.se tri.la tri.de tri.le tri.sa tri.fl tri.ar tri.dr tri.pe tri.ri tpl.od tpl.rd tpl.vn tpl.pn tpl.ao tpl.sr tpl.sp tpl.wt) ∧
        ((¬ r_3 = 0) →
          wp_X5_isIn (fun r_5 =>
            ((¬ r_5 = 0) →
              wp_X3_copyFrom (fun se_7 la_8 de_9 le_10 sa_11 fl_12 ar_13 dr_14 pe_15 ri_16 =>
                vp_in x1 6 ∧
                wp_X2_make (fun od_18 rd_19 vn_20 pn_21 ao_22 sr_23 sp_24 wt_25 =>
                  ((¬ x3 = 0) →
                    ((¬ x3 = (1 : Int32)) →
                      wp_X5_lastAtDoor (fun r_32 ky_28 wp_29 mi_30 so_31 =>
                        P r_32 ky_28 wp_29 mi_30 so_31 se_7 la_8 (upd de_9 x1.toNatClampNeg x2) le_10 sa_11 fl_12 ar_13 dr_14 pe_15 ri_16 od_18 rd_19 vn_20 pn_21 ao_22 sr_23 sp_24 wt_25) way (mkSt se_7 la_8 (upd de_9 x1.toNatClampNeg x2) le_10 sa_11 fl_12 ar_13 dr_14 pe_15 ri_16) (mkPl od_18 rd_19 vn_20 pn_21 ao_22 sr_23 sp_24 wt_25)) ∧
                    ((x3 = (1 : Int32)) →
                      P wt_25 way.ky way.wp way.mi way.so se_7 la_8 (upd de_9 x1.toNatClampNeg x2) le_10 sa_11 fl_12 ar_13 dr_14 pe_15 ri_16 od_18 rd_19 vn_20 pn_21 ao_22 sr_23 sp_24 wt_25)) ∧
                  ((x3 = 0) →
                    P sp_24 way.ky way.wp way.mi way.so se_7 la_8 (upd de_9 x1.toNatClampNeg x2) le_10 sa_11 fl_12 ar_13 dr_14 pe_15 ri_16 od_18 rd_19 vn_20 pn_21 ao_22 sr_23 sp_24 wt_25)) tpl (mkSt se_7 la_8 (upd de_9 x1.toNatClampNeg x2) le_10 sa_11 fl_12 ar_13 dr_14 pe_15 ri_16)) tri now) ∧
            ((r_5 = 0) →
              P (-102 : Int32) way.ky way.wp way.mi way.so tri.se tri.la tri.de tri.le tri.sa tri.fl tri.ar tri.dr tri.pe tri.ri tpl.od tpl.rd tpl.vn tpl.pn tpl.ao tpl.sr tpl.sp tpl.wt)) x3 (0 : Int32) (2 : Int32))) x2) ∧
    ((r_1 = 0) →
      P (-101 : Int32) way.ky way.wp way.mi way.so tri.se tri.la tri.de tri.le tri.sa tri.fl tri.ar tri.dr tri.pe tri.ri tpl.od tpl.rd tpl.vn tpl.pn tpl.ao tpl.sr tpl.sp tpl.wt)) x1
def wp_X5_mostDelay_25F (P : Int32 → (Nat → Int32) → (Nat → Int32) → (Nat → Int32) → (Nat → Int32) → (Nat → Int32) → (Nat → Int32) → (Nat → Int32) → (Nat → Int32) → (Nat → Int32) → Int32 → (Nat → Int32) → (Nat → Int32) → (Nat → Int32) → (Nat → Int32) → (Nat → Int32) → Int32 → Int32 → Int32 → Prop) (now : StT) (pln : PlT) (tri : StT) (tpl : PlT) (x1 : Int32) (tri_se : Nat → Int32) (tri_la : Nat → Int32) (tri_le : Nat → Int32) (tri_sa : Nat → Int32) (tri_fl : Nat → Int32) (tri_ar : Nat → Int32) (tri_dr : Nat → Int32) (tri_pe : Nat → Int32) (tri_ri : Int32) (r25 : Int32 → (Nat → Int32) → (Nat → Int32) → (Nat → Int32) → (Nat → Int32) → (Nat → Int32) → (Nat → Int32) → Int32 → Int32 → Int32 → Prop) (v2 : Int32) (tri_de : Nat → Int32) (tpl_od : Nat → Int32) (tpl_rd : Nat → Int32) (tpl_vn : Nat → Int32) (tpl_pn : Nat → Int32) (tpl_ao : Nat → Int32) (tpl_sr : Int32) (tpl_sp : Int32) (tpl_wt : Int32) : Prop :=
  ((v2 ≤ (-30 : Int32)) →
    P (-30 : Int32) tri_se tri_la tri_de tri_le tri_sa tri_fl tri_ar tri_dr tri_pe tri_ri tpl_od tpl_rd tpl_vn tpl_pn tpl_ao tpl_sr tpl_sp tpl_wt) ∧
  ((¬ v2 ≤ (-30 : Int32)) →
    vp_in x1 6 ∧
    wp_X2_make (fun od_15 rd_16 vn_17 pn_18 ao_19 sr_20 sp_21 wt_22 =>
      ((pln.sp < sp_21) →
        r25 (v2 + (-1)) (upd tri_de x1.toNatClampNeg v2) od_15 rd_16 vn_17 pn_18 ao_19 sr_20 sp_21 wt_22) ∧
      ((¬ pln.sp < sp_21) →
        P v2 tri_se tri_la (upd tri_de x1.toNatClampNeg v2) tri_le tri_sa tri_fl tri_ar tri_dr tri_pe tri_ri od_15 rd_16 vn_17 pn_18 ao_19 sr_20 sp_21 wt_22)) (mkPl tpl_od tpl_rd tpl_vn tpl_pn tpl_ao tpl_sr tpl_sp tpl_wt) (mkSt tri_se tri_la (upd tri_de x1.toNatClampNeg v2) tri_le tri_sa tri_fl tri_ar tri_dr tri_pe tri_ri))
def wp_X5_mostDelay_25 (P : Int32 → (Nat → Int32) → (Nat → Int32) → (Nat → Int32) → (Nat → Int32) → (Nat → Int32) → (Nat → Int32) → (Nat → Int32) → (Nat → Int32) → (Nat → Int32) → Int32 → (Nat → Int32) → (Nat → Int32) → (Nat → Int32) → (Nat → Int32) → (Nat → Int32) → Int32 → Int32 → Int32 → Prop) (now : StT) (pln : PlT) (tri : StT) (tpl : PlT) (x1 : Int32) (tri_se : Nat → Int32) (tri_la : Nat → Int32) (tri_le : Nat → Int32) (tri_sa : Nat → Int32) (tri_fl : Nat → Int32) (tri_ar : Nat → Int32) (tri_dr : Nat → Int32) (tri_pe : Nat → Int32) (tri_ri : Int32) : Nat → Int32 → (Nat → Int32) → (Nat → Int32) → (Nat → Int32) → (Nat → Int32) → (Nat → Int32) → (Nat → Int32) → Int32 → Int32 → Int32 → Prop
  | 0 => fun _ _ _ _ _ _ _ _ _ _ => False
  | n + 1 => wp_X5_mostDelay_25F P now pln tri tpl x1 tri_se tri_la tri_le tri_sa tri_fl tri_ar tri_dr tri_pe tri_ri (wp_X5_mostDelay_25 P now pln tri tpl x1 tri_se tri_la tri_le tri_sa tri_fl tri_ar tri_dr tri_pe tri_ri n)
def wp_X5_mostDelay (P : Int32 → (Nat → Int32) → (Nat → Int32) → (Nat → Int32) → (Nat → Int32) → (Nat → Int32) → (Nat → Int32) → (Nat → Int32) → (Nat → Int32) → (Nat → Int32) → Int32 → (Nat → Int32) → (Nat → Int32) → (Nat → Int32) → (Nat → Int32) → (Nat → Int32) → Int32 → Int32 → Int32 → Prop) (now : StT) (pln : PlT) (tri : StT) (tpl : PlT) (x1 : Int32) : Prop :=
  wp_X5_isFlight (fun r_1 =>
    ((¬ r_1 = 0) →
      wp_X3_copyFrom (fun se_3 la_4 de_5 le_6 sa_7 fl_8 ar_9 dr_10 pe_11 ri_12 =>
        ∃ n : Nat, wp_X5_mostDelay_25 P now pln tri tpl x1 se_3 la_4 le_6 sa_7 fl_8 ar_9 dr_10 pe_11 ri_12 n (300 : Int32) de_5 tpl.od tpl.rd tpl.vn tpl.pn tpl.ao tpl.sr tpl.sp tpl.wt) tri now) ∧
    ((r_1 = 0) →
      P (-101 : Int32) tri.se tri.la tri.de tri.le tri.sa tri.fl tri.ar tri.dr tri.pe tri.ri tpl.od tpl.rd tpl.vn tpl.pn tpl.ao tpl.sr tpl.sp tpl.wt)) x1
def wp_X5_bestMinute_114 (P : Int32 → (Nat → Int32) → (Nat → Int32) → (Nat → Int32) → (Nat → Int32) → (Nat → Int32) → (Nat → Int32) → (Nat → Int32) → (Nat → Int32) → (Nat → Int32) → Int32 → (Nat → Int32) → (Nat → Int32) → (Nat → Int32) → (Nat → Int32) → (Nat → Int32) → Int32 → Int32 → Int32 → Prop) (now : StT) (tri : StT) (tpl : PlT) (x1 : Int32) (r42 : Int32 → Int32 → Int32 → Int32 → (Nat → Int32) → (Nat → Int32) → (Nat → Int32) → (Nat → Int32) → Int32 → Int32 → Int32 → Prop) (v2 : Int32) (v3 : Int32) (v4 : Int32) (v5 : Int32) (v6 : Int32) (v7 : Int32) (w0 : Int32) (tri_se : Nat → Int32) (tri_la : Nat → Int32) (tri_de : Nat → Int32) (tri_le : Nat → Int32) (tri_sa : Nat → Int32) (tri_fl : Nat → Int32) (tri_ar : Nat → Int32) (tri_dr : Nat → Int32) (tri_pe : Nat → Int32) (tri_ri : Int32) (tpl_od : Nat → Int32) (tpl_rd : Nat → Int32) (tpl_vn : Nat → Int32) (tpl_pn : Nat → Int32) (tpl_ao : Nat → Int32) (tpl_sr : Int32) (tpl_sp : Int32) (tpl_wt : Int32) : Prop :=
  ((v5 = 0) →
    r42 v5 v6 v7 (v5 + 5) tri_le tpl_vn tpl_pn tpl_ao tpl_sr tpl_sp tpl_wt) ∧
  ((¬ v5 = 0) →
    ((w0 = 0) →
      r42 v2 v3 v4 (v5 + 5) tri_le tpl_vn tpl_pn tpl_ao tpl_sr tpl_sp tpl_wt) ∧
    ((¬ w0 = 0) →
      r42 v5 v6 v7 (v5 + 5) tri_le tpl_vn tpl_pn tpl_ao tpl_sr tpl_sp tpl_wt))
def wp_X5_bestMinute_42F (P : Int32 → (Nat → Int32) → (Nat → Int32) → (Nat → Int32) → (Nat → Int32) → (Nat → Int32) → (Nat → Int32) → (Nat → Int32) → (Nat → Int32) → (Nat → Int32) → Int32 → (Nat → Int32) → (Nat → Int32) → (Nat → Int32) → (Nat → Int32) → (Nat → Int32) → Int32 → Int32 → Int32 → Prop) (now : StT) (tri : StT) (tpl : PlT) (x1 : Int32) (tri_se : Nat → Int32) (tri_la : Nat → Int32) (tri_de : Nat → Int32) (tri_sa : Nat → Int32) (tri_fl : Nat → Int32) (tri_ar : Nat → Int32) (tri_dr : Nat → Int32) (tri_pe : Nat → Int32) (tri_ri : Int32) (tpl_od : Nat → Int32) (tpl_rd : Nat → Int32) (r42 : Int32 → Int32 → Int32 → Int32 → (Nat → Int32) → (Nat → Int32) → (Nat → Int32) → (Nat → Int32) → Int32 → Int32 → Int32 → Prop) (v2 : Int32) (v3 : Int32) (v4 : Int32) (v5 : Int32) (tri_le : Nat → Int32) (tpl_vn : Nat → Int32) (tpl_pn : Nat → Int32) (tpl_ao : Nat → Int32) (tpl_sr : Int32) (tpl_sp : Int32) (tpl_wt : Int32) : Prop :=
  (((1500 : Int32) < v5) →
    P v2 tri_se tri_la tri_de tri_le tri_sa tri_fl tri_ar tri_dr tri_pe tri_ri tpl_od tpl_rd tpl_vn tpl_pn tpl_ao tpl_sr tpl_sp tpl_wt) ∧
  ((¬ (1500 : Int32) < v5) →
    vp_in x1 8 ∧
    wp_X2_board (fun vn_17 pn_18 ao_19 sr_20 sp_21 wt_22 =>
      ((sp_21 < v3) →
        wp_X5_bestMinute_114 P now tri tpl x1 r42 v2 v3 v4 v5 sp_21 wt_22 (1 : Int32) tri_se tri_la tri_de (upd tri_le x1.toNatClampNeg v5) tri_sa tri_fl tri_ar tri_dr tri_pe tri_ri tpl_od tpl_rd vn_17 pn_18 ao_19 sr_20 sp_21 wt_22) ∧
      ((¬ sp_21 < v3) →
        ((¬ sp_21 = v3) →
          wp_X5_bestMinute_114 P now tri tpl x1 r42 v2 v3 v4 v5 sp_21 wt_22 (0 : Int32) tri_se tri_la tri_de (upd tri_le x1.toNatClampNeg v5) tri_sa tri_fl tri_ar tri_dr tri_pe tri_ri tpl_od tpl_rd vn_17 pn_18 ao_19 sr_20 sp_21 wt_22) ∧
        ((sp_21 = v3) →
          ((v4 ≤ wt_22) →
            wp_X5_bestMinute_114 P now tri tpl x1 r42 v2 v3 v4 v5 sp_21 wt_22 (0 : Int32) tri_se tri_la tri_de (upd tri_le x1.toNatClampNeg v5) tri_sa tri_fl tri_ar tri_dr tri_pe tri_ri tpl_od tpl_rd vn_17 pn_18 ao_19 sr_20 sp_21 wt_22) ∧
          ((¬ v4 ≤ wt_22) →
            wp_X5_bestMinute_114 P now tri tpl x1 r42 v2 v3 v4 v5 sp_21 wt_22 (1 : Int32) tri_se tri_la tri_de (upd tri_le x1.toNatClampNeg v5) tri_sa tri_fl tri_ar tri_dr tri_pe tri_ri tpl_od tpl_rd vn_17 pn_18 ao_19 sr_20 sp_21 wt_22)))) (mkPl tpl_od tpl_rd tpl_vn tpl_pn tpl_ao tpl_sr tpl_sp tpl_wt) (mkSt tri_se tri_la tri_de (upd tri_le x1.toNatClampNeg v5) tri_sa tri_fl tri_ar tri_dr tri_pe tri_ri))
def wp_X5_bestMinute_42 (P : Int32 → (Nat → Int32) → (Nat → Int32) → (Nat → Int32) → (Nat → Int32) → (Nat → Int32) → (Nat → Int32) → (Nat → Int32) → (Nat → Int32) → (Nat → Int32) → Int32 → (Nat → Int32) → (Nat → Int32) → (Nat → Int32) → (Nat → Int32) → (Nat → Int32) → Int32 → Int32 → Int32 → Prop) (now : StT) (tri : StT) (tpl : PlT) (x1 : Int32) (tri_se : Nat → Int32) (tri_la : Nat → Int32) (tri_de : Nat → Int32) (tri_sa : Nat → Int32) (tri_fl : Nat → Int32) (tri_ar : Nat → Int32) (tri_dr : Nat → Int32) (tri_pe : Nat → Int32) (tri_ri : Int32) (tpl_od : Nat → Int32) (tpl_rd : Nat → Int32) : Nat → Int32 → Int32 → Int32 → Int32 → (Nat → Int32) → (Nat → Int32) → (Nat → Int32) → (Nat → Int32) → Int32 → Int32 → Int32 → Prop
  | 0 => fun _ _ _ _ _ _ _ _ _ _ _ => False
  | n + 1 => wp_X5_bestMinute_42F P now tri tpl x1 tri_se tri_la tri_de tri_sa tri_fl tri_ar tri_dr tri_pe tri_ri tpl_od tpl_rd (wp_X5_bestMinute_42 P now tri tpl x1 tri_se tri_la tri_de tri_sa tri_fl tri_ar tri_dr tri_pe tri_ri tpl_od tpl_rd n)
def wp_X5_bestMinute (P : Int32 → (Nat → Int32) → (Nat → Int32) → (Nat → Int32) → (Nat → Int32) → (Nat → Int32) → (Nat → Int32) → (Nat → Int32) → (Nat → Int32) → (Nat → Int32) → Int32 → (Nat → Int32) → (Nat → Int32) → (Nat → Int32) → (Nat → Int32) → (Nat → Int32) → Int32 → Int32 → Int32 → Prop) (now : StT) (tri : StT) (tpl : PlT) (x1 : Int32) : Prop :=
  wp_X5_isVan (fun r_1 =>
    ((¬ r_1 = 0) →
      wp_X3_copyFrom (fun se_3 la_4 de_5 le_6 sa_7 fl_8 ar_9 dr_10 pe_11 ri_12 =>
        wp_X2_lineUp (fun od_13 rd_14 =>
          ∃ n : Nat, wp_X5_bestMinute_42 P now tri tpl x1 se_3 la_4 de_5 sa_7 fl_8 ar_9 dr_10 pe_11 ri_12 od_13 rd_14 n (0 : Int32) (0 : Int32) (0 : Int32) (0 : Int32) le_6 tpl.vn tpl.pn tpl.ao tpl.sr tpl.sp tpl.wt) tpl (mkSt se_3 la_4 de_5 le_6 sa_7 fl_8 ar_9 dr_10 pe_11 ri_12)) tri now) ∧
    ((r_1 = 0) →
      P (-101 : Int32) tri.se tri.la tri.de tri.le tri.sa tri.fl tri.ar tri.dr tri.pe tri.ri tpl.od tpl.rd tpl.vn tpl.pn tpl.ao tpl.sr tpl.sp tpl.wt)) x1
def wp_X5_fullest_7F (P : Int32 → Prop) (pln : PlT) (r7 : Int32 → Int32 → Int32 → Prop) (v1 : Int32) (v2 : Int32) (v3 : Int32) : Prop :=
  (((8 : Int32) ≤ v3) →
    P v1) ∧
  ((¬ (8 : Int32) ≤ v3) →
    vp_in v3 8 ∧
    (((pln.pn v3.toNatClampNeg) ≤ v2) →
      r7 v1 v2 (v3 + 1)) ∧
    ((¬ (pln.pn v3.toNatClampNeg) ≤ v2) →
      vp_in v3 8 ∧
      r7 v3 (pln.pn v3.toNatClampNeg) (v3 + 1)))
def wp_X5_fullest_7 (P : Int32 → Prop) (pln : PlT) : Nat → Int32 → Int32 → Int32 → Prop
  | 0 => fun _ _ _ => False
  | n + 1 => wp_X5_fullest_7F P pln (wp_X5_fullest_7 P pln n)
def wp_X5_fullest (P : Int32 → Prop) (pln : PlT) : Prop :=
  ∃ n : Nat, wp_X5_fullest_7 P pln n (-106 : Int32) (0 : Int32) (0 : Int32)
def wp_X1_charactersIn_4F (P : Int32 → Prop) (x0 : Int64) (r4 : Int32 → Int64 → Prop) (v2 : Int32) (v3 : Int64) : Prop :=
  (((lg_cmp v3 (0 : Int64)) = 0) →
    P v2) ∧
  ((¬ (lg_cmp v3 (0 : Int64)) = 0) →
    (((8 : Int32) ≤ v2) →
      P v2) ∧
    ((¬ (8 : Int32) ≤ v2) →
      wp_X5_isIn (fun r_3 =>
        ((¬ r_3 = 0) →
          ∀ y_5 : Int64, y_5 = ((v3).toUInt64 >>> (((8 : Int32)).toInt64.toUInt64 &&& Int64.toUInt64 63)).toInt64 →
          r4 (v2 + 1) y_5) ∧
        ((r_3 = 0) →
          P (0 : Int32))) (((v3 &&& (255 : Int64))).toInt32) (33 : Int32) (126 : Int32)))
def wp_X1_charactersIn_4 (P : Int32 → Prop) (x0 : Int64) : Nat → Int32 → Int64 → Prop
  | 0 => fun _ _ => False
  | n + 1 => wp_X1_charactersIn_4F P x0 (wp_X1_charactersIn_4 P x0 n)
def wp_X1_charactersIn (P : Int32 → Prop) (x0 : Int64) : Prop :=
  ∃ n : Nat, wp_X1_charactersIn_4 P x0 n (0 : Int32) x0
def wp_X1_append_29F (P : (Nat → Int32) → Int32 → Prop) (o0 : PdT) (x1 : Int64) (x3 : Int32) (ln : Int32) (r29 : Int64 → Int32 → (Nat → Int32) → Prop) (v4 : Int64) (v6 : Int32) (co : Nat → Int32) : Prop :=
  ((v6 < ln) →
    P co (ln + x3)) ∧
  ((¬ v6 < ln) →
    vp_in v6 60 ∧
    ∀ y_5 : Int64, y_5 = ((v4).toUInt64 >>> (((8 : Int32)).toInt64.toUInt64 &&& Int64.toUInt64 63)).toInt64 →
    r29 y_5 (v6 + (-1)) (upd co v6.toNatClampNeg (((v4 &&& (255 : Int64))).toInt32)))
def wp_X1_append_29 (P : (Nat → Int32) → Int32 → Prop) (o0 : PdT) (x1 : Int64) (x3 : Int32) (ln : Int32) : Nat → Int64 → Int32 → (Nat → Int32) → Prop
  | 0 => fun _ _ _ => False
  | n + 1 => wp_X1_append_29F P o0 x1 x3 ln (wp_X1_append_29 P o0 x1 x3 ln n)
def wp_X1_append (P : (Nat → Int32) → Int32 → Prop) (o0 : PdT) (x1 : Int64) (x3 : Int32) : Prop :=
  ((x3 < 0) →
    P o0.co o0.ln) ∧
  ((¬ x3 < 0) →
    (((o0.ln + x3) ≤ (60 : Int32)) →
      ∃ n : Nat, wp_X1_append_29 P o0 x1 x3 o0.ln n x1 ((o0.ln + x3) - (1 : Int32)) o0.co) ∧
    ((¬ (o0.ln + x3) ≤ (60 : Int32)) →
      P o0.co o0.ln))
def wp_X5_put (P : Int32 → (Nat → Int32) → Int32 → Prop) (pad : PdT) (x1 : Int64) : Prop :=
  wp_X1_charactersIn (fun r_1 =>
    ((¬ r_1 = 0) →
      (((pad.ln + r_1) ≤ (60 : Int32)) →
        wp_X1_append (fun co_4 ln_5 =>
          P ln_5 co_4 ln_5) pad x1 r_1) ∧
      ((¬ (pad.ln + r_1) ≤ (60 : Int32)) →
        P (-104 : Int32) pad.co pad.ln)) ∧
    ((r_1 = 0) →
      P (-102 : Int32) pad.co pad.ln)) x1
def wp_X5_wipe (P : Int32 → Int32 → Prop) (pad : PdT) : Prop :=
  P pad.ln (0 : Int32)
def wp_X5_fault (P : Int32 → Prop) (pad : PdT) : Prop :=
  wp_X1_firstFault (fun r_1 =>
    P r_1) pad
def wp_X0_takeBack (P : Int32 → (Nat → Int32) → (Nat → Int32) → (Nat → Int32) → (Nat → Int32) → (Nat → Int32) → (Nat → Int32) → (Nat → Int32) → (Nat → Int32) → (Nat → Int32) → Int32 → Prop) (o0 : HiT) (o1 : StT) : Prop :=
  ((0 < o0.sz) →
    vp_in ((o0.ol + (o0.sz - (1 : Int32))) - (o0.ol + (o0.sz - (1 : Int32))) / (6 : Int32) * (6 : Int32)) 6 ∧
    ∀ j_4 : Nat, j_4 < 6 → ((o0.ol + (o0.sz - (1 : Int32))) - (o0.ol + (o0.sz - (1 : Int32))) / (6 : Int32) * (6 : Int32)) = nI j_4 →
    wp_X3_copyFrom (fun se_15 la_16 de_17 le_18 sa_19 fl_20 ar_21 dr_22 pe_23 ri_24 =>
      P (o0.sz - (1 : Int32)) se_15 la_16 de_17 le_18 sa_19 fl_20 ar_21 dr_22 pe_23 ri_24) o1 (o0.hs j_4)) ∧
  ((¬ 0 < o0.sz) →
    P o0.sz o1.se o1.la o1.de o1.le o1.sa o1.fl o1.ar o1.dr o1.pe o1.ri)
def wp_X5_undo (P : Int32 → (Nat → Int32) → (Nat → Int32) → (Nat → Int32) → (Nat → Int32) → (Nat → Int32) → (Nat → Int32) → (Nat → Int32) → (Nat → Int32) → (Nat → Int32) → Int32 → (Nat → Int32) → (Nat → Int32) → (Nat → Int32) → (Nat → Int32) → (Nat → Int32) → Int32 → Int32 → Int32 → Int32 → Prop) (now : StT) (pln : PlT) (his : HiT) : Prop :=
  ((¬ his.sz = 0) →
    wp_X0_takeBack (fun sz_2 se_3 la_4 de_5 le_6 sa_7 fl_8 ar_9 dr_10 pe_11 ri_12 =>
      wp_X2_make (fun od_13 rd_14 vn_15 pn_16 ao_17 sr_18 sp_19 wt_20 =>
        P sz_2 se_3 la_4 de_5 le_6 sa_7 fl_8 ar_9 dr_10 pe_11 ri_12 od_13 rd_14 vn_15 pn_16 ao_17 sr_18 sp_19 wt_20 sz_2) pln (mkSt se_3 la_4 de_5 le_6 sa_7 fl_8 ar_9 dr_10 pe_11 ri_12)) his now) ∧
  ((his.sz = 0) →
    P (-105 : Int32) now.se now.la now.de now.le now.sa now.fl now.ar now.dr now.pe now.ri pln.od pln.rd pln.vn pln.pn pln.ao pln.sr pln.sp pln.wt his.sz)
def wp_X5_isSlot (P : Int32 → Prop) (x0 : Int32) : Prop :=
  wp_X5_isIn (fun r_1 =>
    g_b r_1 ∧ P r_1) x0 (0 : Int32) (1 : Int32)
def wp_X6_within (P : Int32 → Prop) (x0 : Int32) (x1 : Int32) (x2 : Int32) : Prop :=
  ((x0 < x1) →
    P (0 : Int32)) ∧
  ((¬ x0 < x1) →
    ((x2 < x0) →
      P (0 : Int32)) ∧
    ((¬ x2 < x0) →
      P (1 : Int32)))
def wp_X6_isFlight (P : Int32 → Prop) (x0 : Int32) : Prop :=
  wp_X6_within (fun r_1 =>
    g_b r_1 ∧ P r_1) x0 (0 : Int32) (5 : Int32)
def wp_X6_isVan (P : Int32 → Prop) (x0 : Int32) : Prop :=
  wp_X6_within (fun r_1 =>
    g_b r_1 ∧ P r_1) x0 (0 : Int32) (7 : Int32)
def wp_X6_isRider (P : Int32 → Prop) (Mst : Nat → Int32) (x1 : Int32) : Prop :=
  wp_X6_within (fun r_2 =>
    g_b r_2 ∧ P r_2) x1 (0 : Int32) ((Mst (33 : Int32).toNatClampNeg) - (1 : Int32))
def wp_X6_of (P : Int32 → Prop) (Mst : Nat → Int32) (x1 : Int32) (x2 : Int32) : Prop :=
  vp_in (((34 : Int32) + ((4 : Int32) * x1)) + x2) 130 ∧
  P (Mst (((34 : Int32) + ((4 : Int32) * x1)) + x2).toNatClampNeg)
def wp_X6_record_52F (P : (Nat → Int32) → Int32 → Prop) (Mst : Nat → Int32) (Mhn : Int32) (r52 : Int32 → (Nat → Int32) → Prop) (v1 : Int32) (Mhi : Nat → Int32) : Prop :=
  (((130 : Int32) ≤ v1) →
    P Mhi (Mhn + (1 : Int32))) ∧
  ((¬ (130 : Int32) ≤ v1) →
    vp_in v1 130 ∧
    vp_in ((Mhn * (130 : Int32)) + v1) 780 ∧
    r52 (v1 + 1) (upd Mhi ((Mhn * (130 : Int32)) + v1).toNatClampNeg (Mst v1.toNatClampNeg)))
def wp_X6_record_52 (P : (Nat → Int32) → Int32 → Prop) (Mst : Nat → Int32) (Mhn : Int32) : Nat → Int32 → (Nat → Int32) → Prop
  | 0 => fun _ _ => False
  | n + 1 => wp_X6_record_52F P Mst Mhn (wp_X6_record_52 P Mst Mhn n)
def wp_X6_record_11F (P : (Nat → Int32) → Int32 → Prop) (Mst : Nat → Int32) (Mhn : Int32) (r11 : Int32 → (Nat → Int32) → Prop) (v1 : Int32) (Mhi : Nat → Int32) : Prop :=
  (((650 : Int32) ≤ v1) →
    ∃ n : Nat, wp_X6_record_52 P Mst (Mhn - (1 : Int32)) n (0 : Int32) Mhi) ∧
  ((¬ (650 : Int32) ≤ v1) →
    vp_in (v1 + (130 : Int32)) 780 ∧
    vp_in v1 780 ∧
    r11 (v1 + 1) (upd Mhi v1.toNatClampNeg (Mhi (v1 + (130 : Int32)).toNatClampNeg)))
def wp_X6_record_11 (P : (Nat → Int32) → Int32 → Prop) (Mst : Nat → Int32) (Mhn : Int32) : Nat → Int32 → (Nat → Int32) → Prop
  | 0 => fun _ _ => False
  | n + 1 => wp_X6_record_11F P Mst Mhn (wp_X6_record_11 P Mst Mhn n)
def wp_X6_record (P : (Nat → Int32) → Int32 → Prop) (Mst : Nat → Int32) (Mhi : Nat → Int32) (Mhn : Int32) : Prop :=
  ((¬ Mhn = (6 : Int32)) →
    ∃ n : Nat, wp_X6_record_52 P Mst Mhn n (0 : Int32) Mhi) ∧
  ((Mhn = (6 : Int32)) →
    ∃ n : Nat, wp_X6_record_11 P Mst Mhn n (0 : Int32) Mhi)
def wp_X6_undo_22F (P : Int32 → (Nat → Int32) → Int32 → Prop) (Mhi : Nat → Int32) (Mhn : Int32) (r22 : Int32 → (Nat → Int32) → Prop) (v1 : Int32) (Mst : Nat → Int32) : Prop :=
  (((130 : Int32) ≤ v1) →
    P Mhn Mst Mhn) ∧
  ((¬ (130 : Int32) ≤ v1) →
    vp_in ((Mhn * (130 : Int32)) + v1) 780 ∧
    vp_in v1 130 ∧
    r22 (v1 + 1) (upd Mst v1.toNatClampNeg (Mhi ((Mhn * (130 : Int32)) + v1).toNatClampNeg)))
def wp_X6_undo_22 (P : Int32 → (Nat → Int32) → Int32 → Prop) (Mhi : Nat → Int32) (Mhn : Int32) : Nat → Int32 → (Nat → Int32) → Prop
  | 0 => fun _ _ => False
  | n + 1 => wp_X6_undo_22F P Mhi Mhn (wp_X6_undo_22 P Mhi Mhn n)
def wp_X6_undo (P : Int32 → (Nat → Int32) → Int32 → Prop) (Mst : Nat → Int32) (Mhi : Nat → Int32) (Mhn : Int32) : Prop :=
  ((¬ Mhn = 0) →
    ∃ n : Nat, wp_X6_undo_22 P Mhi (Mhn - (1 : Int32)) n (0 : Int32) Mst) ∧
  ((Mhn = 0) →
    P (-105 : Int32) Mst Mhn)
def wp_X6_save_14F (P : Int32 → (Nat → Int32) → (Nat → Int32) → Prop) (Mst : Nat → Int32) (x1 : Int32) (Msv : Nat → Int32) (r14 : Int32 → (Nat → Int32) → Prop) (v2 : Int32) (Msl : Nat → Int32) : Prop :=
  (((130 : Int32) ≤ v2) →
    vp_in x1 2 ∧
    P (Mst (33 : Int32).toNatClampNeg) Msl (upd Msv x1.toNatClampNeg (1 : Int32))) ∧
  ((¬ (130 : Int32) ≤ v2) →
    vp_in v2 130 ∧
    vp_in (((130 : Int32) * x1) + v2) 260 ∧
    r14 (v2 + 1) (upd Msl (((130 : Int32) * x1) + v2).toNatClampNeg (Mst v2.toNatClampNeg)))
def wp_X6_save_14 (P : Int32 → (Nat → Int32) → (Nat → Int32) → Prop) (Mst : Nat → Int32) (x1 : Int32) (Msv : Nat → Int32) : Nat → Int32 → (Nat → Int32) → Prop
  | 0 => fun _ _ => False
  | n + 1 => wp_X6_save_14F P Mst x1 Msv (wp_X6_save_14 P Mst x1 Msv n)
def wp_X6_save (P : Int32 → (Nat → Int32) → (Nat → Int32) → Prop) (Mst : Nat → Int32) (Msl : Nat → Int32) (Msv : Nat → Int32) (x1 : Int32) : Prop :=
  wp_X6_within (fun r_1 =>
    ((¬ r_1 = 0) →
      ∃ n : Nat, wp_X6_save_14 P Mst x1 Msv n (0 : Int32) Msl) ∧
    ((r_1 = 0) →
      P (-102 : Int32) Msl Msv)) x1 (0 : Int32) (1 : Int32)
def wp_X6_restore_30F (P : Int32 → (Nat → Int32) → (Nat → Int32) → Int32 → Prop) (Msl : Nat → Int32) (Msv : Nat → Int32) (x1 : Int32) (Mhi : Nat → Int32) (Mhn : Int32) (r30 : Int32 → (Nat → Int32) → Prop) (v2 : Int32) (Mst : Nat → Int32) : Prop :=
  (((130 : Int32) ≤ v2) →
    P (Mst (33 : Int32).toNatClampNeg) Mst Mhi Mhn) ∧
  ((¬ (130 : Int32) ≤ v2) →
    vp_in (((130 : Int32) * x1) + v2) 260 ∧
    vp_in v2 130 ∧
    r30 (v2 + 1) (upd Mst v2.toNatClampNeg (Msl (((130 : Int32) * x1) + v2).toNatClampNeg)))
def wp_X6_restore_30 (P : Int32 → (Nat → Int32) → (Nat → Int32) → Int32 → Prop) (Msl : Nat → Int32) (Msv : Nat → Int32) (x1 : Int32) (Mhi : Nat → Int32) (Mhn : Int32) : Nat → Int32 → (Nat → Int32) → Prop
  | 0 => fun _ _ => False
  | n + 1 => wp_X6_restore_30F P Msl Msv x1 Mhi Mhn (wp_X6_restore_30 P Msl Msv x1 Mhi Mhn n)
def wp_X6_restore (P : Int32 → (Nat → Int32) → (Nat → Int32) → Int32 → Prop) (Mst : Nat → Int32) (Mhi : Nat → Int32) (Mhn : Int32) (Msl : Nat → Int32) (Msv : Nat → Int32) (x1 : Int32) : Prop :=
  wp_X6_within (fun r_1 =>
    ((¬ r_1 = 0) →
      vp_in x1 2 ∧
      ((¬ (Msv x1.toNatClampNeg) = 0) →
        wp_X6_record (fun Mhi_5 Mhn_6 =>
          ∃ n : Nat, wp_X6_restore_30 P Msl Msv x1 Mhi_5 Mhn_6 n (0 : Int32) Mst) Mst Mhi Mhn) ∧
      (((Msv x1.toNatClampNeg) = 0) →
        P (-105 : Int32) Mst Mhi Mhn)) ∧
    ((r_1 = 0) →
      P (-102 : Int32) Mst Mhi Mhn)) x1 (0 : Int32) (1 : Int32)
def wp_X6_readyOf (P : Int32 → Prop) (Mst : Nat → Int32) (x1 : Int32) : Prop :=
  vp_in ((5 : Int32) + x1) 130 ∧
  vp_in ((11 : Int32) + x1) 130 ∧
  P (((Mst ((5 : Int32) + x1).toNatClampNeg) + (Mst ((11 : Int32) + x1).toNatClampNeg)) + (Mst (0 : Int32).toNatClampNeg))
def wp_X6_ready (P : Int32 → Prop) (Mst : Nat → Int32) (x1 : Int32) : Prop :=
  wp_X6_of (fun r_1 =>
    wp_X6_readyOf (fun r_2 =>
      P r_2) Mst r_1) Mst x1 (0 : Int32)
def wp_X6_ones_4F (P : Int32 → Prop) (x0 : Int32) (r4 : Int32 → Int32 → Prop) (v1 : Int32) (v2 : Int32) : Prop :=
  (((6 : Int32) ≤ v2) →
    P v1) ∧
  ((¬ (6 : Int32) ≤ v2) →
    r4 (v1 + ((x0 >>> (v2 &&& 31)) &&& (1 : Int32))) (v2 + 1))
def wp_X6_ones_4 (P : Int32 → Prop) (x0 : Int32) : Nat → Int32 → Int32 → Prop
  | 0 => fun _ _ => False
  | n + 1 => wp_X6_ones_4F P x0 (wp_X6_ones_4 P x0 n)
def wp_X6_ones (P : Int32 → Prop) (x0 : Int32) : Prop :=
  ∃ n : Nat, wp_X6_ones_4 P x0 n (0 : Int32) (0 : Int32)
def wp_X6_canTake (P : Int32 → Prop) (Mst : Nat → Int32) (Mlf : Nat → Int32) (Mar : Nat → Int32) (x1 : Int32) (x2 : Int32) : Prop :=
  vp_in ((17 : Int32) + x1) 130 ∧
  wp_X6_ready (fun r_2 =>
    vp_in x1 8 ∧
    wp_X6_of (fun r_4 =>
      ∀ y_5 : Int32, y_5 = ((Mar x1.toNatClampNeg) ||| ((1 : Int32) <<< (r_4 &&& 31))) →
      wp_X6_within (fun r_7 =>
        ((r_7 = 0) →
          P (0 : Int32)) ∧
        ((¬ r_7 = 0) →
          vp_in x1 8 ∧
          wp_X6_of (fun r_10 =>
            (((Mlf x1.toNatClampNeg) < r_10) →
              P (0 : Int32)) ∧
            ((¬ (Mlf x1.toNatClampNeg) < r_10) →
              wp_X6_ones (fun r_12 =>
                (((Mst (2 : Int32).toNatClampNeg) < r_12) →
                  P (0 : Int32)) ∧
                ((¬ (Mst (2 : Int32).toNatClampNeg) < r_12) →
                  P (1 : Int32))) y_5)) Mst x2 (3 : Int32))) ((Mst ((17 : Int32) + x1).toNatClampNeg) - r_2) (0 : Int32) (Mst (1 : Int32).toNatClampNeg)) Mst x2 (1 : Int32)) Mst x2
def wp_X6_nextRider_5F (P : Int32 → Prop) (Mst : Nat → Int32) (Mdn : Nat → Int32) (r5 : Int32 → Int32 → Prop) (v1 : Int32) (v2 : Int32) : Prop :=
  (((Mst (33 : Int32).toNatClampNeg) ≤ v2) →
    P v1) ∧
  ((¬ (Mst (33 : Int32).toNatClampNeg) ≤ v2) →
    vp_in v2 24 ∧
    ((¬ (Mdn v2.toNatClampNeg) = 0) →
      r5 v1 (v2 + 1)) ∧
    (((Mdn v2.toNatClampNeg) = 0) →
      ((v1 = (-106 : Int32)) →
        r5 v2 (v2 + 1)) ∧
      ((¬ v1 = (-106 : Int32)) →
        wp_X6_ready (fun r_6 =>
          wp_X6_ready (fun r_7 =>
            ((r_7 ≤ r_6) →
              r5 v1 (v2 + 1)) ∧
            ((¬ r_7 ≤ r_6) →
              r5 v2 (v2 + 1))) Mst v1) Mst v2)))
def wp_X6_nextRider_5 (P : Int32 → Prop) (Mst : Nat → Int32) (Mdn : Nat → Int32) : Nat → Int32 → Int32 → Prop
  | 0 => fun _ _ => False
  | n + 1 => wp_X6_nextRider_5F P Mst Mdn (wp_X6_nextRider_5 P Mst Mdn n)
def wp_X6_nextRider (P : Int32 → Prop) (Mst : Nat → Int32) (Mdn : Nat → Int32) : Prop :=
  ∃ n : Nat, wp_X6_nextRider_5 P Mst Mdn n (-106 : Int32) (0 : Int32)
def wp_X6_firstVan_5F (P : Int32 → Prop) (Mst : Nat → Int32) (Mlf : Nat → Int32) (Mar : Nat → Int32) (x1 : Int32) (r5 : Int32 → Int32 → Prop) (v2 : Int32) (v3 : Int32) : Prop :=
  (((8 : Int32) ≤ v3) →
    P v2) ∧
  ((¬ (8 : Int32) ≤ v3) →
    wp_X6_canTake (fun r_2 =>
      ((r_2 = 0) →
        r5 v2 (v3 + 1)) ∧
      ((¬ r_2 = 0) →
        ((v2 = (-106 : Int32)) →
          r5 v3 (v3 + 1)) ∧
        ((¬ v2 = (-106 : Int32)) →
          vp_in ((17 : Int32) + v3) 130 ∧
          vp_in ((17 : Int32) + v2) 130 ∧
          (((Mst ((17 : Int32) + v2).toNatClampNeg) ≤ (Mst ((17 : Int32) + v3).toNatClampNeg)) →
            r5 v2 (v3 + 1)) ∧
          ((¬ (Mst ((17 : Int32) + v2).toNatClampNeg) ≤ (Mst ((17 : Int32) + v3).toNatClampNeg)) →
            r5 v3 (v3 + 1))))) Mst Mlf Mar v3 x1)
def wp_X6_firstVan_5 (P : Int32 → Prop) (Mst : Nat → Int32) (Mlf : Nat → Int32) (Mar : Nat → Int32) (x1 : Int32) : Nat → Int32 → Int32 → Prop
  | 0 => fun _ _ => False
  | n + 1 => wp_X6_firstVan_5F P Mst Mlf Mar x1 (wp_X6_firstVan_5 P Mst Mlf Mar x1 n)
def wp_X6_firstVan (P : Int32 → Prop) (Mst : Nat → Int32) (Mlf : Nat → Int32) (Mar : Nat → Int32) (x1 : Int32) : Prop :=
  ∃ n : Nat, wp_X6_firstVan_5 P Mst Mlf Mar x1 n (-106 : Int32) (0 : Int32)
def wp_X6_lay_59F (P : (Nat → Int32) → (Nat → Int32) → (Nat → Int32) → (Nat → Int32) → Prop) (Mst : Nat → Int32) (r59 : Int32 → (Nat → Int32) → (Nat → Int32) → (Nat → Int32) → (Nat → Int32) → Prop) (v1 : Int32) (Mvf : Nat → Int32) (Mdn : Nat → Int32) (Mlf : Nat → Int32) (Mar : Nat → Int32) : Prop :=
  (((Mst (33 : Int32).toNatClampNeg) ≤ v1) →
    P Mvf Mdn Mlf Mar) ∧
  ((¬ (Mst (33 : Int32).toNatClampNeg) ≤ v1) →
    wp_X6_nextRider (fun r_9 =>
      wp_X6_firstVan (fun r_10 =>
        vp_in r_9 24 ∧
        vp_in r_9 24 ∧
        ((r_10 = (-106 : Int32)) →
          r59 (v1 + 1) (upd Mvf r_9.toNatClampNeg r_10) (upd Mdn r_9.toNatClampNeg (1 : Int32)) Mlf Mar) ∧
        ((¬ r_10 = (-106 : Int32)) →
          vp_in r_10 8 ∧
          wp_X6_of (fun r_15 =>
            vp_in r_10 8 ∧
            vp_in r_10 8 ∧
            wp_X6_of (fun r_18 =>
              vp_in r_10 8 ∧
              r59 (v1 + 1) (upd Mvf r_9.toNatClampNeg r_10) (upd Mdn r_9.toNatClampNeg (1 : Int32)) (upd Mlf r_10.toNatClampNeg ((Mlf r_10.toNatClampNeg) - r_15)) (upd Mar r_10.toNatClampNeg ((Mar r_10.toNatClampNeg) ||| ((1 : Int32) <<< (r_18 &&& 31))))) Mst r_9 (1 : Int32)) Mst r_9 (3 : Int32))) Mst Mlf Mar r_9) Mst Mdn)
def wp_X6_lay_59 (P : (Nat → Int32) → (Nat → Int32) → (Nat → Int32) → (Nat → Int32) → Prop) (Mst : Nat → Int32) : Nat → Int32 → (Nat → Int32) → (Nat → Int32) → (Nat → Int32) → (Nat → Int32) → Prop
  | 0 => fun _ _ _ _ _ => False
  | n + 1 => wp_X6_lay_59F P Mst (wp_X6_lay_59 P Mst n)
def wp_X6_lay_38F (P : (Nat → Int32) → (Nat → Int32) → (Nat → Int32) → (Nat → Int32) → Prop) (Mst : Nat → Int32) (Mvf : Nat → Int32) (Mlf : Nat → Int32) (Mar : Nat → Int32) (r38 : Int32 → (Nat → Int32) → Prop) (v1 : Int32) (Mdn : Nat → Int32) : Prop :=
  (((24 : Int32) ≤ v1) →
    ∃ n : Nat, wp_X6_lay_59 P Mst n (0 : Int32) Mvf Mdn Mlf Mar) ∧
  ((¬ (24 : Int32) ≤ v1) →
    vp_in v1 24 ∧
    r38 (v1 + 1) (upd Mdn v1.toNatClampNeg (0 : Int32)))
def wp_X6_lay_38 (P : (Nat → Int32) → (Nat → Int32) → (Nat → Int32) → (Nat → Int32) → Prop) (Mst : Nat → Int32) (Mvf : Nat → Int32) (Mlf : Nat → Int32) (Mar : Nat → Int32) : Nat → Int32 → (Nat → Int32) → Prop
  | 0 => fun _ _ => False
  | n + 1 => wp_X6_lay_38F P Mst Mvf Mlf Mar (wp_X6_lay_38 P Mst Mvf Mlf Mar n)
def wp_X6_lay_2F (P : (Nat → Int32) → (Nat → Int32) → (Nat → Int32) → (Nat → Int32) → Prop) (Mst : Nat → Int32) (Mvf : Nat → Int32) (Mdn : Nat → Int32) (r2 : Int32 → (Nat → Int32) → (Nat → Int32) → Prop) (v1 : Int32) (Mlf : Nat → Int32) (Mar : Nat → Int32) : Prop :=
  (((8 : Int32) ≤ v1) →
    ∃ n : Nat, wp_X6_lay_38 P Mst Mvf Mlf Mar n (0 : Int32) Mdn) ∧
  ((¬ (8 : Int32) ≤ v1) →
    vp_in ((25 : Int32) + v1) 130 ∧
    vp_in v1 8 ∧
    vp_in v1 8 ∧
    r2 (v1 + 1) (upd Mlf v1.toNatClampNeg (Mst ((25 : Int32) + v1).toNatClampNeg)) (upd Mar v1.toNatClampNeg (0 : Int32)))
def wp_X6_lay_2 (P : (Nat → Int32) → (Nat → Int32) → (Nat → Int32) → (Nat → Int32) → Prop) (Mst : Nat → Int32) (Mvf : Nat → Int32) (Mdn : Nat → Int32) : Nat → Int32 → (Nat → Int32) → (Nat → Int32) → Prop
  | 0 => fun _ _ _ => False
  | n + 1 => wp_X6_lay_2F P Mst Mvf Mdn (wp_X6_lay_2 P Mst Mvf Mdn n)
def wp_X6_lay (P : (Nat → Int32) → (Nat → Int32) → (Nat → Int32) → (Nat → Int32) → Prop) (Mst : Nat → Int32) (Mvf : Nat → Int32) (Mdn : Nat → Int32) (Mlf : Nat → Int32) (Mar : Nat → Int32) : Prop :=
  ∃ n : Nat, wp_X6_lay_2 P Mst Mvf Mdn n (0 : Int32) Mlf Mar
def wp_X6_keyOf (P : Int32 → Prop) (Mst : Nat → Int32) (x1 : Int32) : Prop :=
  wp_X6_of (fun r_1 =>
    wp_X6_of (fun r_2 =>
      P (((100 : Int32) * r_1) + r_2)) Mst x1 (2 : Int32)) Mst x1 (1 : Int32)
def wp_X6_layStops_70 (P : (Nat → Int32) → (Nat → Int32) → Int32 → Prop) (Mst : Nat → Int32) (Mvf : Nat → Int32) (x1 : Int32) (r9 : Int32 → Int32 → (Nat → Int32) → (Nat → Int32) → Int32 → Prop) (r21 : Int32 → Int32 → Prop) (v2 : Int32) (v4 : Int32) (v5 : Int32) (w0 : Int32) (Msa : Nat → Int32) (Msm : Nat → Int32) (Mso : Int32) : Prop :=
  ((w0 = 0) →
    r21 v4 (v5 + 1)) ∧
  ((¬ w0 = 0) →
    wp_X6_keyOf (fun r_15 =>
      r21 r_15 (v5 + 1)) Mst v5)
def wp_X6_layStops_215 (P : (Nat → Int32) → (Nat → Int32) → Int32 → Prop) (Mst : Nat → Int32) (Mvf : Nat → Int32) (x1 : Int32) (r9 : Int32 → Int32 → (Nat → Int32) → (Nat → Int32) → Int32 → Prop) (v3 : Int32) (v4 : Int32) (w0 : Int32) (w1 : Int32) (w2 : Int32) (Msa : Nat → Int32) (Msm : Nat → Int32) (Mso : Int32) : Prop :=
  vp_in w0 24 ∧
  r9 v4 v3 Msa (upd Msm w0.toNatClampNeg (w1 + w2)) (Mso + (1 : Int32))
def wp_X6_layStops_162 (P : (Nat → Int32) → (Nat → Int32) → Int32 → Prop) (Mst : Nat → Int32) (Mvf : Nat → Int32) (x1 : Int32) (r9 : Int32 → Int32 → (Nat → Int32) → (Nat → Int32) → Int32 → Prop) (v3 : Int32) (v4 : Int32) (w0 : Int32) (Msa : Nat → Int32) (Msm : Nat → Int32) (Mso : Int32) : Prop :=
  vp_in Mso 24 ∧
  ((¬ Mso = 0) →
    vp_in (Mso - (1 : Int32)) 24 ∧
    wp_X6_layStops_215 P Mst Mvf x1 r9 v3 v4 Mso w0 (Msm (Mso - (1 : Int32)).toNatClampNeg) (upd Msa Mso.toNatClampNeg v4) Msm Mso) ∧
  ((Mso = 0) →
    vp_in ((17 : Int32) + x1) 130 ∧
    wp_X6_layStops_215 P Mst Mvf x1 r9 v3 v4 Mso w0 (Mst ((17 : Int32) + x1).toNatClampNeg) (upd Msa Mso.toNatClampNeg v4) Msm Mso)
def wp_X6_layStops_109 (P : (Nat → Int32) → (Nat → Int32) → Int32 → Prop) (Mst : Nat → Int32) (Mvf : Nat → Int32) (x1 : Int32) (r9 : Int32 → Int32 → (Nat → Int32) → (Nat → Int32) → Int32 → Prop) (v2 : Int32) (v4 : Int32) (w0 : Int32) (Msa : Nat → Int32) (Msm : Nat → Int32) (Mso : Int32) : Prop :=
  ((w0 = 0) →
    r9 v2 w0 Msa Msm Mso) ∧
  ((¬ w0 = 0) →
    ((¬ Mso = 0) →
      ((¬ (v4 / (100 : Int32)) = (v2 / (100 : Int32))) →
        wp_X6_layStops_162 P Mst Mvf x1 r9 w0 v4 ((5 : Int32) * ((v4 / (100 : Int32)) - (v2 / (100 : Int32)))) Msa Msm Mso) ∧
      (((v4 / (100 : Int32)) = (v2 / (100 : Int32))) →
        wp_X6_layStops_162 P Mst Mvf x1 r9 w0 v4 (3 : Int32) Msa Msm Mso)) ∧
    ((Mso = 0) →
      wp_X6_layStops_162 P Mst Mvf x1 r9 w0 v4 ((10 : Int32) + ((5 : Int32) * (v4 / (100 : Int32)))) Msa Msm Mso))
def wp_X6_layStops_21F (P : (Nat → Int32) → (Nat → Int32) → Int32 → Prop) (Mst : Nat → Int32) (Mvf : Nat → Int32) (x1 : Int32) (r9 : Int32 → Int32 → (Nat → Int32) → (Nat → Int32) → Int32 → Prop) (v2 : Int32) (Msa : Nat → Int32) (Msm : Nat → Int32) (Mso : Int32) (r21 : Int32 → Int32 → Prop) (v4 : Int32) (v5 : Int32) : Prop :=
  (((Mst (33 : Int32).toNatClampNeg) ≤ v5) →
    (((1000 : Int32) ≤ v4) →
      wp_X6_layStops_109 P Mst Mvf x1 r9 v2 v4 (0 : Int32) Msa Msm Mso) ∧
    ((¬ (1000 : Int32) ≤ v4) →
      wp_X6_layStops_109 P Mst Mvf x1 r9 v2 v4 (1 : Int32) Msa Msm Mso)) ∧
  ((¬ (Mst (33 : Int32).toNatClampNeg) ≤ v5) →
    vp_in v5 24 ∧
    ((¬ (Mvf v5.toNatClampNeg) = x1) →
      wp_X6_layStops_70 P Mst Mvf x1 r9 r21 v2 v4 v5 (0 : Int32) Msa Msm Mso) ∧
    (((Mvf v5.toNatClampNeg) = x1) →
      wp_X6_keyOf (fun r_7 =>
        ((r_7 ≤ v2) →
          wp_X6_layStops_70 P Mst Mvf x1 r9 r21 v2 v4 v5 (0 : Int32) Msa Msm Mso) ∧
        ((¬ r_7 ≤ v2) →
          wp_X6_keyOf (fun r_9 =>
            ((v4 ≤ r_9) →
              wp_X6_layStops_70 P Mst Mvf x1 r9 r21 v2 v4 v5 (0 : Int32) Msa Msm Mso) ∧
            ((¬ v4 ≤ r_9) →
              wp_X6_layStops_70 P Mst Mvf x1 r9 r21 v2 v4 v5 (1 : Int32) Msa Msm Mso)) Mst v5)) Mst v5))
def wp_X6_layStops_21 (P : (Nat → Int32) → (Nat → Int32) → Int32 → Prop) (Mst : Nat → Int32) (Mvf : Nat → Int32) (x1 : Int32) (r9 : Int32 → Int32 → (Nat → Int32) → (Nat → Int32) → Int32 → Prop) (v2 : Int32) (Msa : Nat → Int32) (Msm : Nat → Int32) (Mso : Int32) : Nat → Int32 → Int32 → Prop
  | 0 => fun _ _ => False
  | n + 1 => wp_X6_layStops_21F P Mst Mvf x1 r9 v2 Msa Msm Mso (wp_X6_layStops_21 P Mst Mvf x1 r9 v2 Msa Msm Mso n)
def wp_X6_layStops_9F (P : (Nat → Int32) → (Nat → Int32) → Int32 → Prop) (Mst : Nat → Int32) (Mvf : Nat → Int32) (x1 : Int32) (r9 : Int32 → Int32 → (Nat → Int32) → (Nat → Int32) → Int32 → Prop) (v2 : Int32) (v3 : Int32) (Msa : Nat → Int32) (Msm : Nat → Int32) (Mso : Int32) : Prop :=
  ((v3 = 0) →
    P Msa Msm Mso) ∧
  ((¬ v3 = 0) →
    ∃ n : Nat, wp_X6_layStops_21 P Mst Mvf x1 r9 v2 Msa Msm Mso n (1000 : Int32) (0 : Int32))
def wp_X6_layStops_9 (P : (Nat → Int32) → (Nat → Int32) → Int32 → Prop) (Mst : Nat → Int32) (Mvf : Nat → Int32) (x1 : Int32) : Nat → Int32 → Int32 → (Nat → Int32) → (Nat → Int32) → Int32 → Prop
  | 0 => fun _ _ _ _ _ => False
  | n + 1 => wp_X6_layStops_9F P Mst Mvf x1 (wp_X6_layStops_9 P Mst Mvf x1 n)
def wp_X6_layStops (P : (Nat → Int32) → (Nat → Int32) → Int32 → Prop) (Mst : Nat → Int32) (Mvf : Nat → Int32) (Msa : Nat → Int32) (Msm : Nat → Int32) (Mso : Int32) (x1 : Int32) : Prop :=
  ∃ n : Nat, wp_X6_layStops_9 P Mst Mvf x1 n (-1 : Int32) (1 : Int32) Msa Msm (0 : Int32)
def wp_X6_minuteAt_7F (P : Int32 → (Nat → Int32) → (Nat → Int32) → Int32 → Prop) (Mst : Nat → Int32) (Mvf : Nat → Int32) (x1 : Int32) (x2 : Int32) (Msa : Nat → Int32) (Msm : Nat → Int32) (Mso : Int32) (r7 : Int32 → Prop) (v3 : Int32) : Prop :=
  vp_in v3 24 ∧
  (((Msa v3.toNatClampNeg) = x2) →
    vp_in v3 24 ∧
    P (Msm v3.toNatClampNeg) Msa Msm Mso) ∧
  ((¬ (Msa v3.toNatClampNeg) = x2) →
    r7 (v3 + 1))
def wp_X6_minuteAt_7 (P : Int32 → (Nat → Int32) → (Nat → Int32) → Int32 → Prop) (Mst : Nat → Int32) (Mvf : Nat → Int32) (x1 : Int32) (x2 : Int32) (Msa : Nat → Int32) (Msm : Nat → Int32) (Mso : Int32) : Nat → Int32 → Prop
  | 0 => fun _ => False
  | n + 1 => wp_X6_minuteAt_7F P Mst Mvf x1 x2 Msa Msm Mso (wp_X6_minuteAt_7 P Mst Mvf x1 x2 Msa Msm Mso n)
def wp_X6_minuteAt (P : Int32 → (Nat → Int32) → (Nat → Int32) → Int32 → Prop) (Mst : Nat → Int32) (Mvf : Nat → Int32) (Msa : Nat → Int32) (Msm : Nat → Int32) (Mso : Int32) (x1 : Int32) (x2 : Int32) : Prop :=
  wp_X6_layStops (fun Msa_1 Msm_2 Mso_3 =>
    ∃ n : Nat, wp_X6_minuteAt_7 P Mst Mvf x1 x2 Msa_1 Msm_2 Mso_3 n (0 : Int32)) Mst Mvf Msa Msm Mso x1
def wp_X6_isWith (P : Int32 → Prop) (Mst : Nat → Int32) (Mvf : Nat → Int32) (x1 : Int32) (x2 : Int32) (x3 : Int32) : Prop :=
  vp_in x1 24 ∧
  vp_in x2 24 ∧
  ((¬ (Mvf x1.toNatClampNeg) = (Mvf x2.toNatClampNeg)) →
    P (0 : Int32)) ∧
  (((Mvf x1.toNatClampNeg) = (Mvf x2.toNatClampNeg)) →
    ((x3 = 0) →
      P (1 : Int32)) ∧
    ((¬ x3 = 0) →
      wp_X6_keyOf (fun r_5 =>
        wp_X6_keyOf (fun r_6 =>
          ((¬ r_5 = r_6) →
            P (0 : Int32)) ∧
          ((r_5 = r_6) →
            P (1 : Int32))) Mst x2) Mst x1))
def wp_X6_part_105 (P : Int32 → Prop) (Mst : Nat → Int32) (Mvf : Nat → Int32) (x1 : Int32) (x2 : Int32) (x3 : Int32) (r60 : Int32 → Int32 → Int32 → Prop) (v4 : Int32) (v6 : Int32) (v7 : Int32) (v8 : Int32) (w0 : Int32) (w1 : Int32) : Prop :=
  ((v8 = 0) →
    r60 (w0 - w1) (v6 + (0 : Int32)) (v7 + 1)) ∧
  ((¬ v8 = 0) →
    ((x1 ≤ v7) →
      r60 (w0 - w1) (v6 + (0 : Int32)) (v7 + 1)) ∧
    ((¬ x1 ≤ v7) →
      r60 (w0 - w1) (v6 + (1 : Int32)) (v7 + 1)))
def wp_X6_part_60F (P : Int32 → Prop) (Mst : Nat → Int32) (Mvf : Nat → Int32) (x1 : Int32) (x2 : Int32) (x3 : Int32) (v4 : Int32) (r60 : Int32 → Int32 → Int32 → Prop) (v5 : Int32) (v6 : Int32) (v7 : Int32) : Prop :=
  (((Mst (33 : Int32).toNatClampNeg) ≤ v7) →
    wp_X6_of (fun r_8 =>
      ¬ v4 = 0 ∧
      ((v5 ≤ v6) →
        P (((x2 * r_8) / v4) + (0 : Int32))) ∧
      ((¬ v5 ≤ v6) →
        P (((x2 * r_8) / v4) + (1 : Int32)))) Mst x1 (3 : Int32)) ∧
  ((¬ (Mst (33 : Int32).toNatClampNeg) ≤ v7) →
    wp_X6_isWith (fun r_11 =>
      ((r_11 = 0) →
        wp_X6_part_105 P Mst Mvf x1 x2 x3 r60 v4 v6 v7 r_11 v5 (0 : Int32)) ∧
      ((¬ r_11 = 0) →
        wp_X6_of (fun r_13 =>
          ¬ v4 = 0 ∧
          wp_X6_part_105 P Mst Mvf x1 x2 x3 r60 v4 v6 v7 r_11 v5 ((x2 * r_13) / v4)) Mst v7 (3 : Int32))) Mst Mvf v7 x1 x3)
def wp_X6_part_60 (P : Int32 → Prop) (Mst : Nat → Int32) (Mvf : Nat → Int32) (x1 : Int32) (x2 : Int32) (x3 : Int32) (v4 : Int32) : Nat → Int32 → Int32 → Int32 → Prop
  | 0 => fun _ _ _ => False
  | n + 1 => wp_X6_part_60F P Mst Mvf x1 x2 x3 v4 (wp_X6_part_60 P Mst Mvf x1 x2 x3 v4 n)
def wp_X6_part_6F (P : Int32 → Prop) (Mst : Nat → Int32) (Mvf : Nat → Int32) (x1 : Int32) (x2 : Int32) (x3 : Int32) (r6 : Int32 → Int32 → Prop) (v4 : Int32) (v5 : Int32) : Prop :=
  (((Mst (33 : Int32).toNatClampNeg) ≤ v5) →
    ∃ n : Nat, wp_X6_part_60 P Mst Mvf x1 x2 x3 v4 n x2 (0 : Int32) (0 : Int32)) ∧
  ((¬ (Mst (33 : Int32).toNatClampNeg) ≤ v5) →
    wp_X6_isWith (fun r_3 =>
      ((r_3 = 0) →
        r6 (v4 + (0 : Int32)) (v5 + 1)) ∧
      ((¬ r_3 = 0) →
        wp_X6_of (fun r_5 =>
          r6 (v4 + r_5) (v5 + 1)) Mst v5 (3 : Int32))) Mst Mvf v5 x1 x3)
def wp_X6_part_6 (P : Int32 → Prop) (Mst : Nat → Int32) (Mvf : Nat → Int32) (x1 : Int32) (x2 : Int32) (x3 : Int32) : Nat → Int32 → Int32 → Prop
  | 0 => fun _ _ => False
  | n + 1 => wp_X6_part_6F P Mst Mvf x1 x2 x3 (wp_X6_part_6 P Mst Mvf x1 x2 x3 n)
def wp_X6_part (P : Int32 → Prop) (Mst : Nat → Int32) (Mvf : Nat → Int32) (x1 : Int32) (x2 : Int32) (x3 : Int32) : Prop :=
  ∃ n : Nat, wp_X6_part_6 P Mst Mvf x1 x2 x3 n (0 : Int32) (0 : Int32)
def wp_X6_fare (P : Int32 → Prop) (Mst : Nat → Int32) (Mvf : Nat → Int32) (x1 : Int32) : Prop :=
  vp_in x1 24 ∧
  ((¬ (Mvf x1.toNatClampNeg) = (-106 : Int32)) →
    wp_X6_part (fun r_4 =>
      wp_X6_part (fun r_6 =>
        P (r_4 + r_6)) Mst Mvf x1 (Mst (4 : Int32).toNatClampNeg) (1 : Int32)) Mst Mvf x1 (Mst (3 : Int32).toNatClampNeg) (0 : Int32)) ∧
  (((Mvf x1.toNatClampNeg) = (-106 : Int32)) →
    P (0 : Int32))
def wp_X6_strandedPeople_4F (P : Int32 → Prop) (Mst : Nat → Int32) (Mvf : Nat → Int32) (r4 : Int32 → Int32 → Prop) (v1 : Int32) (v2 : Int32) : Prop :=
  (((Mst (33 : Int32).toNatClampNeg) ≤ v2) →
    P v1) ∧
  ((¬ (Mst (33 : Int32).toNatClampNeg) ≤ v2) →
    vp_in v2 24 ∧
    ((¬ (Mvf v2.toNatClampNeg) = (-106 : Int32)) →
      r4 (v1 + (0 : Int32)) (v2 + 1)) ∧
    (((Mvf v2.toNatClampNeg) = (-106 : Int32)) →
      wp_X6_of (fun r_5 =>
        r4 (v1 + r_5) (v2 + 1)) Mst v2 (3 : Int32)))
def wp_X6_strandedPeople_4 (P : Int32 → Prop) (Mst : Nat → Int32) (Mvf : Nat → Int32) : Nat → Int32 → Int32 → Prop
  | 0 => fun _ _ => False
  | n + 1 => wp_X6_strandedPeople_4F P Mst Mvf (wp_X6_strandedPeople_4 P Mst Mvf n)
def wp_X6_strandedPeople (P : Int32 → Prop) (Mst : Nat → Int32) (Mvf : Nat → Int32) : Prop :=
  ∃ n : Nat, wp_X6_strandedPeople_4 P Mst Mvf n (0 : Int32) (0 : Int32)
def wp_X6_waiting_4F (P : Int32 → Prop) (Mst : Nat → Int32) (Mvf : Nat → Int32) (r4 : Int32 → Int32 → Prop) (v1 : Int32) (v2 : Int32) : Prop :=
  (((Mst (33 : Int32).toNatClampNeg) ≤ v2) →
    P v1) ∧
  ((¬ (Mst (33 : Int32).toNatClampNeg) ≤ v2) →
    vp_in v2 24 ∧
    ((¬ (Mvf v2.toNatClampNeg) = (-106 : Int32)) →
      wp_X6_of (fun r_5 =>
        vp_in v2 24 ∧
        vp_in ((17 : Int32) + (Mvf v2.toNatClampNeg)) 130 ∧
        wp_X6_ready (fun r_8 =>
          ∀ y_9 : Int32, y_9 = (v1 + (r_5 * ((Mst ((17 : Int32) + (Mvf v2.toNatClampNeg)).toNatClampNeg) - r_8))) →
          r4 y_9 (v2 + 1)) Mst v2) Mst v2 (3 : Int32)) ∧
    (((Mvf v2.toNatClampNeg) = (-106 : Int32)) →
      r4 (v1 + (0 : Int32)) (v2 + 1)))
def wp_X6_waiting_4 (P : Int32 → Prop) (Mst : Nat → Int32) (Mvf : Nat → Int32) : Nat → Int32 → Int32 → Prop
  | 0 => fun _ _ => False
  | n + 1 => wp_X6_waiting_4F P Mst Mvf (wp_X6_waiting_4 P Mst Mvf n)
def wp_X6_waiting (P : Int32 → Prop) (Mst : Nat → Int32) (Mvf : Nat → Int32) : Prop :=
  ∃ n : Nat, wp_X6_waiting_4 P Mst Mvf n (0 : Int32) (0 : Int32)
def wp_X6_lastMinute_49 (P : Int32 → (Nat → Int32) → (Nat → Int32) → Int32 → Prop) (Mst : Nat → Int32) (Mvf : Nat → Int32) (r5 : Int32 → Int32 → (Nat → Int32) → (Nat → Int32) → Int32 → Prop) (v1 : Int32) (v2 : Int32) (w0 : Int32) (Msa : Nat → Int32) (Msm : Nat → Int32) (Mso : Int32) : Prop :=
  ((w0 = 0) →
    r5 v1 (v2 + 1) Msa Msm Mso) ∧
  ((¬ w0 = 0) →
    vp_in (Mso - (1 : Int32)) 24 ∧
    r5 (Msm (Mso - (1 : Int32)).toNatClampNeg) (v2 + 1) Msa Msm Mso)
def wp_X6_lastMinute_5F (P : Int32 → (Nat → Int32) → (Nat → Int32) → Int32 → Prop) (Mst : Nat → Int32) (Mvf : Nat → Int32) (r5 : Int32 → Int32 → (Nat → Int32) → (Nat → Int32) → Int32 → Prop) (v1 : Int32) (v2 : Int32) (Msa : Nat → Int32) (Msm : Nat → Int32) (Mso : Int32) : Prop :=
  (((8 : Int32) ≤ v2) →
    P v1 Msa Msm Mso) ∧
  ((¬ (8 : Int32) ≤ v2) →
    wp_X6_layStops (fun Msa_2 Msm_3 Mso_4 =>
      ((Mso_4 ≤ 0) →
        wp_X6_lastMinute_49 P Mst Mvf r5 v1 v2 (0 : Int32) Msa_2 Msm_3 Mso_4) ∧
      ((¬ Mso_4 ≤ 0) →
        ((v1 = (-106 : Int32)) →
          wp_X6_lastMinute_49 P Mst Mvf r5 v1 v2 (1 : Int32) Msa_2 Msm_3 Mso_4) ∧
        ((¬ v1 = (-106 : Int32)) →
          vp_in (Mso_4 - (1 : Int32)) 24 ∧
          (((Msm_3 (Mso_4 - (1 : Int32)).toNatClampNeg) ≤ v1) →
            wp_X6_lastMinute_49 P Mst Mvf r5 v1 v2 (0 : Int32) Msa_2 Msm_3 Mso_4) ∧
          ((¬ (Msm_3 (Mso_4 - (1 : Int32)).toNatClampNeg) ≤ v1) →
            wp_X6_lastMinute_49 P Mst Mvf r5 v1 v2 (1 : Int32) Msa_2 Msm_3 Mso_4)))) Mst Mvf Msa Msm Mso v2)
def wp_X6_lastMinute_5 (P : Int32 → (Nat → Int32) → (Nat → Int32) → Int32 → Prop) (Mst : Nat → Int32) (Mvf : Nat → Int32) : Nat → Int32 → Int32 → (Nat → Int32) → (Nat → Int32) → Int32 → Prop
  | 0 => fun _ _ _ _ _ => False
  | n + 1 => wp_X6_lastMinute_5F P Mst Mvf (wp_X6_lastMinute_5 P Mst Mvf n)
def wp_X6_lastMinute (P : Int32 → (Nat → Int32) → (Nat → Int32) → Int32 → Prop) (Mst : Nat → Int32) (Mvf : Nat → Int32) (Msa : Nat → Int32) (Msm : Nat → Int32) (Mso : Int32) : Prop :=
  ∃ n : Nat, wp_X6_lastMinute_5 P Mst Mvf n (-106 : Int32) (0 : Int32) Msa Msm Mso
def wp_X6_leastOf (P : Int32 → Prop) (x0 : Int32) : Prop :=
  ((¬ x0 = (2 : Int32)) →
    P (0 : Int32)) ∧
  ((x0 = (2 : Int32)) →
    P (1 : Int32))
def wp_X6_mostOf (P : Int32 → Prop) (x0 : Int32) : Prop :=
  (x0 = 0 →
    P (90 : Int32)) ∧
  (x0 = 1 →
    P (240 : Int32)) ∧
  (x0 = 2 →
    P (6 : Int32)) ∧
  (x0 = 3 →
    P (300 : Int32)) ∧
  ((¬ x0 = 0 ∧ ¬ x0 = 1 ∧ ¬ x0 = 2 ∧ ¬ x0 = 3) →
    P (40 : Int32))
def wp_X6_set (P : Int32 → (Nat → Int32) → (Nat → Int32) → Int32 → Prop) (Mst : Nat → Int32) (Mhi : Nat → Int32) (Mhn : Int32) (x1 : Int32) (x2 : Int32) : Prop :=
  wp_X6_within (fun r_1 =>
    ((r_1 = 0) →
      P (-102 : Int32) Mst Mhi Mhn) ∧
    ((¬ r_1 = 0) →
      wp_X6_leastOf (fun r_3 =>
        wp_X6_mostOf (fun r_4 =>
          wp_X6_within (fun r_5 =>
            ((¬ r_5 = 0) →
              wp_X6_record (fun Mhi_7 Mhn_8 =>
                vp_in x1 130 ∧
                vp_in x1 130 ∧
                P (Mst x1.toNatClampNeg) (upd Mst x1.toNatClampNeg x2) Mhi_7 Mhn_8) Mst Mhi Mhn) ∧
            ((r_5 = 0) →
              P (-102 : Int32) Mst Mhi Mhn)) x2 r_3 r_4) x1) x1)) x1 (0 : Int32) (4 : Int32)
def wp_X6_land (P : Int32 → (Nat → Int32) → (Nat → Int32) → Int32 → Prop) (Mst : Nat → Int32) (Mhi : Nat → Int32) (Mhn : Int32) (x1 : Int32) (x2 : Int32) : Prop :=
  wp_X6_isFlight (fun r_1 =>
    ((¬ r_1 = 0) →
      wp_X6_within (fun r_3 =>
        ((¬ r_3 = 0) →
          wp_X6_record (fun Mhi_5 Mhn_6 =>
            vp_in ((5 : Int32) + x1) 130 ∧
            vp_in ((5 : Int32) + x1) 130 ∧
            P (Mst ((5 : Int32) + x1).toNatClampNeg) (upd Mst ((5 : Int32) + x1).toNatClampNeg x2) Mhi_5 Mhn_6) Mst Mhi Mhn) ∧
        ((r_3 = 0) →
          P (-102 : Int32) Mst Mhi Mhn)) x2 (0 : Int32) (1200 : Int32)) ∧
    ((r_1 = 0) →
      P (-101 : Int32) Mst Mhi Mhn)) x1
def wp_X6_delay (P : Int32 → (Nat → Int32) → (Nat → Int32) → Int32 → Prop) (Mst : Nat → Int32) (Mhi : Nat → Int32) (Mhn : Int32) (x1 : Int32) (x2 : Int32) : Prop :=
  wp_X6_isFlight (fun r_1 =>
    ((¬ r_1 = 0) →
      wp_X6_within (fun r_3 =>
        ((¬ r_3 = 0) →
          wp_X6_record (fun Mhi_5 Mhn_6 =>
            vp_in ((11 : Int32) + x1) 130 ∧
            wp_X6_readyOf (fun r_8 =>
              P r_8 (upd Mst ((11 : Int32) + x1).toNatClampNeg x2) Mhi_5 Mhn_6) (upd Mst ((11 : Int32) + x1).toNatClampNeg x2) x1) Mst Mhi Mhn) ∧
        ((r_3 = 0) →
          P (-102 : Int32) Mst Mhi Mhn)) x2 (-30 : Int32) (300 : Int32)) ∧
    ((r_1 = 0) →
      P (-101 : Int32) Mst Mhi Mhn)) x1
def wp_X6_van (P : Int32 → (Nat → Int32) → (Nat → Int32) → Int32 → (Nat → Int32) → (Nat → Int32) → (Nat → Int32) → (Nat → Int32) → Prop) (Mst : Nat → Int32) (Mhi : Nat → Int32) (Mhn : Int32) (Mvf : Nat → Int32) (Mdn : Nat → Int32) (Mlf : Nat → Int32) (Mar : Nat → Int32) (x1 : Int32) (x2 : Int32) (x3 : Int32) : Prop :=
  wp_X6_isVan (fun r_1 =>
    ((¬ r_1 = 0) →
      wp_X6_within (fun r_3 =>
        ((r_3 = 0) →
          P (-102 : Int32) Mst Mhi Mhn Mvf Mdn Mlf Mar) ∧
        ((¬ r_3 = 0) →
          wp_X6_within (fun r_5 =>
            ((¬ r_5 = 0) →
              wp_X6_record (fun Mhi_7 Mhn_8 =>
                vp_in ((17 : Int32) + x1) 130 ∧
                vp_in ((25 : Int32) + x1) 130 ∧
                wp_X6_lay (fun Mvf_11 Mdn_12 Mlf_13 Mar_14 =>
                  wp_X6_strandedPeople (fun r_15 =>
                    P r_15 (upd (upd Mst ((17 : Int32) + x1).toNatClampNeg x2) ((25 : Int32) + x1).toNatClampNeg x3) Mhi_7 Mhn_8 Mvf_11 Mdn_12 Mlf_13 Mar_14) (upd (upd Mst ((17 : Int32) + x1).toNatClampNeg x2) ((25 : Int32) + x1).toNatClampNeg x3) Mvf_11) (upd (upd Mst ((17 : Int32) + x1).toNatClampNeg x2) ((25 : Int32) + x1).toNatClampNeg x3) Mvf Mdn Mlf Mar) Mst Mhi Mhn) ∧
            ((r_5 = 0) →
              P (-102 : Int32) Mst Mhi Mhn Mvf Mdn Mlf Mar)) x3 (0 : Int32) (12 : Int32))) x2 (0 : Int32) (1500 : Int32)) ∧
    ((r_1 = 0) →
      P (-101 : Int32) Mst Mhi Mhn Mvf Mdn Mlf Mar)) x1
def wp_X6_add (P : (Nat → Int32) → Prop) (Mst : Nat → Int32) (x1 : Int32) (x2 : Int32) (x3 : Int32) (x4 : Int32) : Prop :=
  ∀ y_2 : Int32, y_2 = ((34 : Int32) + ((4 : Int32) * (Mst (33 : Int32).toNatClampNeg))) →
  vp_in (y_2 + (0 : Int32)) 130 ∧
  vp_in (y_2 + (1 : Int32)) 130 ∧
  vp_in (y_2 + (2 : Int32)) 130 ∧
  vp_in (y_2 + (3 : Int32)) 130 ∧
  P (upd (upd (upd (upd (upd Mst (y_2 + (0 : Int32)).toNatClampNeg x1) (y_2 + (1 : Int32)).toNatClampNeg x2) (y_2 + (2 : Int32)).toNatClampNeg x3) (y_2 + (3 : Int32)).toNatClampNeg x4) (33 : Int32).toNatClampNeg (((upd (upd (upd (upd Mst (y_2 + (0 : Int32)).toNatClampNeg x1) (y_2 + (1 : Int32)).toNatClampNeg x2) (y_2 + (2 : Int32)).toNatClampNeg x3) (y_2 + (3 : Int32)).toNatClampNeg x4) (33 : Int32).toNatClampNeg) + (1 : Int32)))
def wp_X6_ride (P : Int32 → (Nat → Int32) → (Nat → Int32) → Int32 → Prop) (Mst : Nat → Int32) (Mhi : Nat → Int32) (Mhn : Int32) (x1 : Int32) (x2 : Int32) (x3 : Int32) (x4 : Int32) : Prop :=
  wp_X6_isFlight (fun r_1 =>
    ((r_1 = 0) →
      P (-101 : Int32) Mst Mhi Mhn) ∧
    ((¬ r_1 = 0) →
      wp_X6_within (fun r_3 =>
        ((¬ r_3 = 0) →
          wp_X6_within (fun r_5 =>
            ((r_5 = 0) →
              P (-102 : Int32) Mst Mhi Mhn) ∧
            ((¬ r_5 = 0) →
              wp_X6_within (fun r_7 =>
                ((¬ r_7 = 0) →
                  ((¬ (Mst (33 : Int32).toNatClampNeg) = (24 : Int32)) →
                    wp_X6_record (fun Mhi_11 Mhn_12 =>
                      wp_X6_add (fun Mst_13 =>
                        P ((Mst_13 (33 : Int32).toNatClampNeg) - (1 : Int32)) Mst_13 Mhi_11 Mhn_12) Mst x1 x2 x3 x4) Mst Mhi Mhn) ∧
                  (((Mst (33 : Int32).toNatClampNeg) = (24 : Int32)) →
                    P (-104 : Int32) Mst Mhi Mhn)) ∧
                ((r_7 = 0) →
                  P (-102 : Int32) Mst Mhi Mhn)) x4 (1 : Int32) (4 : Int32))) x3 (0 : Int32) (99 : Int32)) ∧
        ((r_3 = 0) →
          P (-101 : Int32) Mst Mhi Mhn)) x2 (0 : Int32) (5 : Int32))) x1
def wp_X6_cancel_43F (P : Int32 → (Nat → Int32) → (Nat → Int32) → Int32 → (Nat → Int32) → (Nat → Int32) → (Nat → Int32) → (Nat → Int32) → Prop) (x1 : Int32) (v2 : Int32) (Mhi : Nat → Int32) (Mhn : Int32) (Mvf : Nat → Int32) (Mdn : Nat → Int32) (Mlf : Nat → Int32) (Mar : Nat → Int32) (r43 : Int32 → (Nat → Int32) → Prop) (v3 : Int32) (Mst : Nat → Int32) : Prop :=
  ((((34 : Int32) + ((4 : Int32) * (Mst (33 : Int32).toNatClampNeg))) ≤ v3) →
    P v2 Mst Mhi Mhn Mvf Mdn Mlf Mar) ∧
  ((¬ ((34 : Int32) + ((4 : Int32) * (Mst (33 : Int32).toNatClampNeg))) ≤ v3) →
    vp_in (v3 + (4 : Int32)) 130 ∧
    vp_in v3 130 ∧
    r43 (v3 + 1) (upd Mst v3.toNatClampNeg (Mst (v3 + (4 : Int32)).toNatClampNeg)))
def wp_X6_cancel_43 (P : Int32 → (Nat → Int32) → (Nat → Int32) → Int32 → (Nat → Int32) → (Nat → Int32) → (Nat → Int32) → (Nat → Int32) → Prop) (x1 : Int32) (v2 : Int32) (Mhi : Nat → Int32) (Mhn : Int32) (Mvf : Nat → Int32) (Mdn : Nat → Int32) (Mlf : Nat → Int32) (Mar : Nat → Int32) : Nat → Int32 → (Nat → Int32) → Prop
  | 0 => fun _ _ => False
  | n + 1 => wp_X6_cancel_43F P x1 v2 Mhi Mhn Mvf Mdn Mlf Mar (wp_X6_cancel_43 P x1 v2 Mhi Mhn Mvf Mdn Mlf Mar n)
def wp_X6_cancel (P : Int32 → (Nat → Int32) → (Nat → Int32) → Int32 → (Nat → Int32) → (Nat → Int32) → (Nat → Int32) → (Nat → Int32) → Prop) (Mst : Nat → Int32) (Mhi : Nat → Int32) (Mhn : Int32) (Mvf : Nat → Int32) (Mdn : Nat → Int32) (Mlf : Nat → Int32) (Mar : Nat → Int32) (x1 : Int32) : Prop :=
  wp_X6_isRider (fun r_1 =>
    ((¬ r_1 = 0) →
      wp_X6_lay (fun Mvf_3 Mdn_4 Mlf_5 Mar_6 =>
        wp_X6_fare (fun r_7 =>
          wp_X6_record (fun Mhi_8 Mhn_9 =>
            ∃ n : Nat, wp_X6_cancel_43 P x1 r_7 Mhi_8 Mhn_9 Mvf_3 Mdn_4 Mlf_5 Mar_6 n ((34 : Int32) + ((4 : Int32) * x1)) (upd Mst (33 : Int32).toNatClampNeg ((Mst (33 : Int32).toNatClampNeg) - (1 : Int32)))) Mst Mhi Mhn) Mst Mvf_3 x1) Mst Mvf Mdn Mlf Mar) ∧
    ((r_1 = 0) →
      P (-101 : Int32) Mst Mhi Mhn Mvf Mdn Mlf Mar)) Mst x1
def wp_X6_rebook (P : Int32 → (Nat → Int32) → (Nat → Int32) → Int32 → (Nat → Int32) → (Nat → Int32) → (Nat → Int32) → (Nat → Int32) → Prop) (Mst : Nat → Int32) (Mhi : Nat → Int32) (Mhn : Int32) (Mvf : Nat → Int32) (Mdn : Nat → Int32) (Mlf : Nat → Int32) (Mar : Nat → Int32) (x1 : Int32) (x2 : Int32) : Prop :=
  wp_X6_isRider (fun r_1 =>
    ((r_1 = 0) →
      P (-101 : Int32) Mst Mhi Mhn Mvf Mdn Mlf Mar) ∧
    ((¬ r_1 = 0) →
      wp_X6_isFlight (fun r_3 =>
        ((¬ r_3 = 0) →
          wp_X6_of (fun r_5 =>
            ((¬ r_5 = x2) →
              wp_X6_record (fun Mhi_7 Mhn_8 =>
                vp_in (((34 : Int32) + ((4 : Int32) * x1)) + (0 : Int32)) 130 ∧
                wp_X6_lay (fun Mvf_10 Mdn_11 Mlf_12 Mar_13 =>
                  vp_in x1 24 ∧
                  P (Mvf_10 x1.toNatClampNeg) (upd Mst (((34 : Int32) + ((4 : Int32) * x1)) + (0 : Int32)).toNatClampNeg x2) Mhi_7 Mhn_8 Mvf_10 Mdn_11 Mlf_12 Mar_13) (upd Mst (((34 : Int32) + ((4 : Int32) * x1)) + (0 : Int32)).toNatClampNeg x2) Mvf Mdn Mlf Mar) Mst Mhi Mhn) ∧
            ((r_5 = x2) →
              P (-105 : Int32) Mst Mhi Mhn Mvf Mdn Mlf Mar)) Mst x1 (0 : Int32)) ∧
        ((r_3 = 0) →
          P (-101 : Int32) Mst Mhi Mhn Mvf Mdn Mlf Mar)) x2)) Mst x1
def wp_X6_sharing_4F (P : Int32 → Prop) (Mst : Nat → Int32) (Mvf : Nat → Int32) (x1 : Int32) (r4 : Int32 → Int32 → Prop) (v2 : Int32) (v3 : Int32) : Prop :=
  (((Mst (33 : Int32).toNatClampNeg) ≤ v3) →
    P v2) ∧
  ((¬ (Mst (33 : Int32).toNatClampNeg) ≤ v3) →
    ((v3 = x1) →
      r4 (v2 + (0 : Int32)) (v3 + 1)) ∧
    ((¬ v3 = x1) →
      wp_X6_isWith (fun r_4 =>
        ((r_4 = 0) →
          r4 (v2 + (0 : Int32)) (v3 + 1)) ∧
        ((¬ r_4 = 0) →
          r4 (v2 + (1 : Int32)) (v3 + 1))) Mst Mvf v3 x1 (1 : Int32)))
def wp_X6_sharing_4 (P : Int32 → Prop) (Mst : Nat → Int32) (Mvf : Nat → Int32) (x1 : Int32) : Nat → Int32 → Int32 → Prop
  | 0 => fun _ _ => False
  | n + 1 => wp_X6_sharing_4F P Mst Mvf x1 (wp_X6_sharing_4 P Mst Mvf x1 n)
def wp_X6_sharing (P : Int32 → Prop) (Mst : Nat → Int32) (Mvf : Nat → Int32) (x1 : Int32) : Prop :=
  ∃ n : Nat, wp_X6_sharing_4 P Mst Mvf x1 n (0 : Int32) (0 : Int32)
def wp_X6_tellsDriven (P : Int32 → (Nat → Int32) → (Nat → Int32) → Int32 → Prop) (Mst : Nat → Int32) (Mvf : Nat → Int32) (Msa : Nat → Int32) (Msm : Nat → Int32) (Mso : Int32) (x1 : Int32) (x2 : Int32) : Prop :=
  vp_in x1 24 ∧
  ((¬ x2 = (6 : Int32)) →
    ((¬ x2 = (7 : Int32)) →
      wp_X6_sharing (fun r_4 =>
        P r_4 Msa Msm Mso) Mst Mvf x1) ∧
    ((x2 = (7 : Int32)) →
      wp_X6_keyOf (fun r_5 =>
        wp_X6_minuteAt (fun r_9 Msa_6 Msm_7 Mso_8 =>
          P r_9 Msa_6 Msm_7 Mso_8) Mst Mvf Msa Msm Mso (Mvf x1.toNatClampNeg) r_5) Mst x1)) ∧
  ((x2 = (6 : Int32)) →
    vp_in ((17 : Int32) + (Mvf x1.toNatClampNeg)) 130 ∧
    wp_X6_ready (fun r_11 =>
      P ((Mst ((17 : Int32) + (Mvf x1.toNatClampNeg)).toNatClampNeg) - r_11) Msa Msm Mso) Mst x1)
def wp_X6_rider_31 (P : Int32 → (Nat → Int32) → (Nat → Int32) → (Nat → Int32) → (Nat → Int32) → (Nat → Int32) → (Nat → Int32) → Int32 → Prop) (Mst : Nat → Int32) (x1 : Int32) (x2 : Int32) (w0 : Int32) (Mvf : Nat → Int32) (Mdn : Nat → Int32) (Mlf : Nat → Int32) (Mar : Nat → Int32) (Msa : Nat → Int32) (Msm : Nat → Int32) (Mso : Int32) : Prop :=
  (x2 = 0 →
    wp_X6_of (fun r_10 =>
      P r_10 Mvf Mdn Mlf Mar Msa Msm Mso) Mst x1 x2) ∧
  (x2 = 1 →
    wp_X6_of (fun r_11 =>
      P r_11 Mvf Mdn Mlf Mar Msa Msm Mso) Mst x1 x2) ∧
  (x2 = 2 →
    wp_X6_of (fun r_12 =>
      P r_12 Mvf Mdn Mlf Mar Msa Msm Mso) Mst x1 x2) ∧
  (x2 = 3 →
    wp_X6_of (fun r_13 =>
      P r_13 Mvf Mdn Mlf Mar Msa Msm Mso) Mst x1 x2) ∧
  (x2 = 4 →
    wp_X6_ready (fun r_14 =>
      P r_14 Mvf Mdn Mlf Mar Msa Msm Mso) Mst x1) ∧
  (x2 = 5 →
    vp_in x1 24 ∧
    P (Mvf x1.toNatClampNeg) Mvf Mdn Mlf Mar Msa Msm Mso) ∧
  (x2 = 6 →
    ((w0 = 0) →
      wp_X6_tellsDriven (fun r_20 Msa_17 Msm_18 Mso_19 =>
        P r_20 Mvf Mdn Mlf Mar Msa_17 Msm_18 Mso_19) Mst Mvf Msa Msm Mso x1 x2) ∧
    ((¬ w0 = 0) →
      P (-106 : Int32) Mvf Mdn Mlf Mar Msa Msm Mso)) ∧
  (x2 = 7 →
    ((w0 = 0) →
      wp_X6_tellsDriven (fun r_25 Msa_22 Msm_23 Mso_24 =>
        P r_25 Mvf Mdn Mlf Mar Msa_22 Msm_23 Mso_24) Mst Mvf Msa Msm Mso x1 x2) ∧
    ((¬ w0 = 0) →
      P (-106 : Int32) Mvf Mdn Mlf Mar Msa Msm Mso)) ∧
  (x2 = 8 →
    wp_X6_fare (fun r_26 =>
      P r_26 Mvf Mdn Mlf Mar Msa Msm Mso) Mst Mvf x1) ∧
  (x2 = 9 →
    ((w0 = 0) →
      wp_X6_tellsDriven (fun r_31 Msa_28 Msm_29 Mso_30 =>
        P r_31 Mvf Mdn Mlf Mar Msa_28 Msm_29 Mso_30) Mst Mvf Msa Msm Mso x1 x2) ∧
    ((¬ w0 = 0) →
      P (0 : Int32) Mvf Mdn Mlf Mar Msa Msm Mso)) ∧
  ((¬ x2 = 0 ∧ ¬ x2 = 1 ∧ ¬ x2 = 2 ∧ ¬ x2 = 3 ∧ ¬ x2 = 4 ∧ ¬ x2 = 5 ∧ ¬ x2 = 6 ∧ ¬ x2 = 7 ∧ ¬ x2 = 8 ∧ ¬ x2 = 9) →
    P (-102 : Int32) Mvf Mdn Mlf Mar Msa Msm Mso)
def wp_X6_rider (P : Int32 → (Nat → Int32) → (Nat → Int32) → (Nat → Int32) → (Nat → Int32) → (Nat → Int32) → (Nat → Int32) → Int32 → Prop) (Mst : Nat → Int32) (Mvf : Nat → Int32) (Mdn : Nat → Int32) (Mlf : Nat → Int32) (Mar : Nat → Int32) (Msa : Nat → Int32) (Msm : Nat → Int32) (Mso : Int32) (x1 : Int32) (x2 : Int32) : Prop :=
  wp_X6_isRider (fun r_1 =>
    ((¬ r_1 = 0) →
      wp_X6_lay (fun Mvf_3 Mdn_4 Mlf_5 Mar_6 =>
        vp_in x1 24 ∧
        ((¬ (Mvf_3 x1.toNatClampNeg) = (-106 : Int32)) →
          wp_X6_rider_31 P Mst x1 x2 (0 : Int32) Mvf_3 Mdn_4 Mlf_5 Mar_6 Msa Msm Mso) ∧
        (((Mvf_3 x1.toNatClampNeg) = (-106 : Int32)) →
          wp_X6_rider_31 P Mst x1 x2 (1 : Int32) Mvf_3 Mdn_4 Mlf_5 Mar_6 Msa Msm Mso)) Mst Mvf Mdn Mlf Mar) ∧
    ((r_1 = 0) →
      P (-101 : Int32) Mvf Mdn Mlf Mar Msa Msm Mso)) Mst x1
def wp_X6_peopleIn (P : Int32 → Prop) (Mst : Nat → Int32) (Mlf : Nat → Int32) (x1 : Int32) : Prop :=
  vp_in ((25 : Int32) + x1) 130 ∧
  vp_in x1 8 ∧
  P ((Mst ((25 : Int32) + x1).toNatClampNeg) - (Mlf x1.toNatClampNeg))
def wp_X6_ridersIn_4F (P : Int32 → Prop) (Mst : Nat → Int32) (Mvf : Nat → Int32) (x1 : Int32) (r4 : Int32 → Int32 → Prop) (v2 : Int32) (v3 : Int32) : Prop :=
  (((Mst (33 : Int32).toNatClampNeg) ≤ v3) →
    P v2) ∧
  ((¬ (Mst (33 : Int32).toNatClampNeg) ≤ v3) →
    vp_in v3 24 ∧
    ((¬ (Mvf v3.toNatClampNeg) = x1) →
      r4 (v2 ||| (0 : Int32)) (v3 + 1)) ∧
    (((Mvf v3.toNatClampNeg) = x1) →
      r4 (v2 ||| ((1 : Int32) <<< (v3 &&& 31))) (v3 + 1)))
def wp_X6_ridersIn_4 (P : Int32 → Prop) (Mst : Nat → Int32) (Mvf : Nat → Int32) (x1 : Int32) : Nat → Int32 → Int32 → Prop
  | 0 => fun _ _ => False
  | n + 1 => wp_X6_ridersIn_4F P Mst Mvf x1 (wp_X6_ridersIn_4 P Mst Mvf x1 n)
def wp_X6_ridersIn (P : Int32 → Prop) (Mst : Nat → Int32) (Mvf : Nat → Int32) (x1 : Int32) : Prop :=
  ∃ n : Nat, wp_X6_ridersIn_4 P Mst Mvf x1 n (0 : Int32) (0 : Int32)
def wp_X6_faresIn_4F (P : Int32 → Prop) (Mst : Nat → Int32) (Mvf : Nat → Int32) (x1 : Int32) (r4 : Int32 → Int32 → Prop) (v2 : Int32) (v3 : Int32) : Prop :=
  (((Mst (33 : Int32).toNatClampNeg) ≤ v3) →
    P v2) ∧
  ((¬ (Mst (33 : Int32).toNatClampNeg) ≤ v3) →
    vp_in v3 24 ∧
    ((¬ (Mvf v3.toNatClampNeg) = x1) →
      r4 (v2 + (0 : Int32)) (v3 + 1)) ∧
    (((Mvf v3.toNatClampNeg) = x1) →
      wp_X6_fare (fun r_5 =>
        r4 (v2 + r_5) (v3 + 1)) Mst Mvf v3))
def wp_X6_faresIn_4 (P : Int32 → Prop) (Mst : Nat → Int32) (Mvf : Nat → Int32) (x1 : Int32) : Nat → Int32 → Int32 → Prop
  | 0 => fun _ _ => False
  | n + 1 => wp_X6_faresIn_4F P Mst Mvf x1 (wp_X6_faresIn_4 P Mst Mvf x1 n)
def wp_X6_faresIn (P : Int32 → Prop) (Mst : Nat → Int32) (Mvf : Nat → Int32) (x1 : Int32) : Prop :=
  ∃ n : Nat, wp_X6_faresIn_4 P Mst Mvf x1 n (0 : Int32) (0 : Int32)
def wp_X6_vanOf (P : Int32 → (Nat → Int32) → (Nat → Int32) → (Nat → Int32) → (Nat → Int32) → (Nat → Int32) → (Nat → Int32) → Int32 → Prop) (Mst : Nat → Int32) (Mvf : Nat → Int32) (Mdn : Nat → Int32) (Mlf : Nat → Int32) (Mar : Nat → Int32) (Msa : Nat → Int32) (Msm : Nat → Int32) (Mso : Int32) (x1 : Int32) (x2 : Int32) : Prop :=
  wp_X6_isVan (fun r_1 =>
    ((¬ r_1 = 0) →
      wp_X6_lay (fun Mvf_3 Mdn_4 Mlf_5 Mar_6 =>
        wp_X6_layStops (fun Msa_7 Msm_8 Mso_9 =>
          (x2 = 0 →
            vp_in ((17 : Int32) + x1) 130 ∧
            P (Mst ((17 : Int32) + x1).toNatClampNeg) Mvf_3 Mdn_4 Mlf_5 Mar_6 Msa_7 Msm_8 Mso_9) ∧
          (x2 = 1 →
            vp_in ((25 : Int32) + x1) 130 ∧
            P (Mst ((25 : Int32) + x1).toNatClampNeg) Mvf_3 Mdn_4 Mlf_5 Mar_6 Msa_7 Msm_8 Mso_9) ∧
          (x2 = 2 →
            wp_X6_peopleIn (fun r_13 =>
              P r_13 Mvf_3 Mdn_4 Mlf_5 Mar_6 Msa_7 Msm_8 Mso_9) Mst Mlf_5 x1) ∧
          (x2 = 3 →
            wp_X6_ridersIn (fun r_14 =>
              P r_14 Mvf_3 Mdn_4 Mlf_5 Mar_6 Msa_7 Msm_8 Mso_9) Mst Mvf_3 x1) ∧
          (x2 = 4 →
            vp_in x1 8 ∧
            P (Mar_6 x1.toNatClampNeg) Mvf_3 Mdn_4 Mlf_5 Mar_6 Msa_7 Msm_8 Mso_9) ∧
          (x2 = 5 →
            P Mso_9 Mvf_3 Mdn_4 Mlf_5 Mar_6 Msa_7 Msm_8 Mso_9) ∧
          (x2 = 6 →
            ((¬ Mso_9 = 0) →
              vp_in (Mso_9 - (1 : Int32)) 24 ∧
              P (Msm_8 (Mso_9 - (1 : Int32)).toNatClampNeg) Mvf_3 Mdn_4 Mlf_5 Mar_6 Msa_7 Msm_8 Mso_9) ∧
            ((Mso_9 = 0) →
              P (-106 : Int32) Mvf_3 Mdn_4 Mlf_5 Mar_6 Msa_7 Msm_8 Mso_9)) ∧
          (x2 = 7 →
            wp_X6_faresIn (fun r_18 =>
              P r_18 Mvf_3 Mdn_4 Mlf_5 Mar_6 Msa_7 Msm_8 Mso_9) Mst Mvf_3 x1) ∧
          ((¬ x2 = 0 ∧ ¬ x2 = 1 ∧ ¬ x2 = 2 ∧ ¬ x2 = 3 ∧ ¬ x2 = 4 ∧ ¬ x2 = 5 ∧ ¬ x2 = 6 ∧ ¬ x2 = 7) →
            P (-102 : Int32) Mvf_3 Mdn_4 Mlf_5 Mar_6 Msa_7 Msm_8 Mso_9)) Mst Mvf_3 Msa Msm Mso x1) Mst Mvf Mdn Mlf Mar) ∧
    ((r_1 = 0) →
      P (-101 : Int32) Mvf Mdn Mlf Mar Msa Msm Mso)) x1
def wp_X6_peopleOf_49 (P : Int32 → Prop) (Mst : Nat → Int32) (Mvf : Nat → Int32) (x1 : Int32) (x2 : Int32) (r5 : Int32 → Int32 → Prop) (v3 : Int32) (v4 : Int32) (w0 : Int32) : Prop :=
  ((w0 = 0) →
    r5 (v3 + (0 : Int32)) (v4 + 1)) ∧
  ((¬ w0 = 0) →
    wp_X6_of (fun r_9 =>
      r5 (v3 + r_9) (v4 + 1)) Mst v4 (3 : Int32))
def wp_X6_peopleOf_5F (P : Int32 → Prop) (Mst : Nat → Int32) (Mvf : Nat → Int32) (x1 : Int32) (x2 : Int32) (r5 : Int32 → Int32 → Prop) (v3 : Int32) (v4 : Int32) : Prop :=
  (((Mst (33 : Int32).toNatClampNeg) ≤ v4) →
    P v3) ∧
  ((¬ (Mst (33 : Int32).toNatClampNeg) ≤ v4) →
    wp_X6_of (fun r_3 =>
      ((¬ r_3 = x1) →
        wp_X6_peopleOf_49 P Mst Mvf x1 x2 r5 v3 v4 (0 : Int32)) ∧
      ((r_3 = x1) →
        ((x2 = 0) →
          wp_X6_peopleOf_49 P Mst Mvf x1 x2 r5 v3 v4 (1 : Int32)) ∧
        ((¬ x2 = 0) →
          vp_in v4 24 ∧
          ((¬ (Mvf v4.toNatClampNeg) = (-106 : Int32)) →
            wp_X6_peopleOf_49 P Mst Mvf x1 x2 r5 v3 v4 (0 : Int32)) ∧
          (((Mvf v4.toNatClampNeg) = (-106 : Int32)) →
            wp_X6_peopleOf_49 P Mst Mvf x1 x2 r5 v3 v4 (1 : Int32))))) Mst v4 (0 : Int32))
def wp_X6_peopleOf_5 (P : Int32 → Prop) (Mst : Nat → Int32) (Mvf : Nat → Int32) (x1 : Int32) (x2 : Int32) : Nat → Int32 → Int32 → Prop
  | 0 => fun _ _ => False
  | n + 1 => wp_X6_peopleOf_5F P Mst Mvf x1 x2 (wp_X6_peopleOf_5 P Mst Mvf x1 x2 n)
def wp_X6_peopleOf (P : Int32 → Prop) (Mst : Nat → Int32) (Mvf : Nat → Int32) (x1 : Int32) (x2 : Int32) : Prop :=
  ∃ n : Nat, wp_X6_peopleOf_5 P Mst Mvf x1 x2 n (0 : Int32) (0 : Int32)
def wp_X6_flight (P : Int32 → (Nat → Int32) → (Nat → Int32) → (Nat → Int32) → (Nat → Int32) → Prop) (Mst : Nat → Int32) (Mvf : Nat → Int32) (Mdn : Nat → Int32) (Mlf : Nat → Int32) (Mar : Nat → Int32) (x1 : Int32) (x2 : Int32) : Prop :=
  wp_X6_isFlight (fun r_1 =>
    ((¬ r_1 = 0) →
      wp_X6_lay (fun Mvf_3 Mdn_4 Mlf_5 Mar_6 =>
        (x2 = 0 →
          vp_in ((5 : Int32) + x1) 130 ∧
          P (Mst ((5 : Int32) + x1).toNatClampNeg) Mvf_3 Mdn_4 Mlf_5 Mar_6) ∧
        (x2 = 1 →
          vp_in ((11 : Int32) + x1) 130 ∧
          P (Mst ((11 : Int32) + x1).toNatClampNeg) Mvf_3 Mdn_4 Mlf_5 Mar_6) ∧
        (x2 = 2 →
          wp_X6_readyOf (fun r_10 =>
            P r_10 Mvf_3 Mdn_4 Mlf_5 Mar_6) Mst x1) ∧
        (x2 = 3 →
          wp_X6_peopleOf (fun r_11 =>
            P r_11 Mvf_3 Mdn_4 Mlf_5 Mar_6) Mst Mvf_3 x1 (0 : Int32)) ∧
        (x2 = 4 →
          wp_X6_peopleOf (fun r_12 =>
            P r_12 Mvf_3 Mdn_4 Mlf_5 Mar_6) Mst Mvf_3 x1 (1 : Int32)) ∧
        ((¬ x2 = 0 ∧ ¬ x2 = 1 ∧ ¬ x2 = 2 ∧ ¬ x2 = 3 ∧ ¬ x2 = 4) →
          P (-102 : Int32) Mvf_3 Mdn_4 Mlf_5 Mar_6)) Mst Mvf Mdn Mlf Mar) ∧
    ((r_1 = 0) →
      P (-101 : Int32) Mvf Mdn Mlf Mar)) x1
def wp_X6_gettingOut_5F (P : Int32 → Prop) (Mst : Nat → Int32) (Mvf : Nat → Int32) (x1 : Int32) (x2 : Int32) (r5 : Int32 → Int32 → Prop) (v3 : Int32) (v4 : Int32) : Prop :=
  (((Mst (33 : Int32).toNatClampNeg) ≤ v4) →
    P v3) ∧
  ((¬ (Mst (33 : Int32).toNatClampNeg) ≤ v4) →
    vp_in v4 24 ∧
    ((¬ (Mvf v4.toNatClampNeg) = x1) →
      r5 (v3 + (0 : Int32)) (v4 + 1)) ∧
    (((Mvf v4.toNatClampNeg) = x1) →
      wp_X6_keyOf (fun r_5 =>
        ((¬ r_5 = x2) →
          r5 (v3 + (0 : Int32)) (v4 + 1)) ∧
        ((r_5 = x2) →
          wp_X6_of (fun r_7 =>
            r5 (v3 + r_7) (v4 + 1)) Mst v4 (3 : Int32))) Mst v4))
def wp_X6_gettingOut_5 (P : Int32 → Prop) (Mst : Nat → Int32) (Mvf : Nat → Int32) (x1 : Int32) (x2 : Int32) : Nat → Int32 → Int32 → Prop
  | 0 => fun _ _ => False
  | n + 1 => wp_X6_gettingOut_5F P Mst Mvf x1 x2 (wp_X6_gettingOut_5 P Mst Mvf x1 x2 n)
def wp_X6_gettingOut (P : Int32 → Prop) (Mst : Nat → Int32) (Mvf : Nat → Int32) (x1 : Int32) (x2 : Int32) : Prop :=
  ∃ n : Nat, wp_X6_gettingOut_5 P Mst Mvf x1 x2 n (0 : Int32) (0 : Int32)
def wp_X6_stop (P : Int32 → (Nat → Int32) → (Nat → Int32) → (Nat → Int32) → (Nat → Int32) → (Nat → Int32) → (Nat → Int32) → Int32 → Prop) (Mst : Nat → Int32) (Mvf : Nat → Int32) (Mdn : Nat → Int32) (Mlf : Nat → Int32) (Mar : Nat → Int32) (Msa : Nat → Int32) (Msm : Nat → Int32) (Mso : Int32) (x1 : Int32) (x2 : Int32) (x3 : Int32) : Prop :=
  wp_X6_isVan (fun r_1 =>
    ((¬ r_1 = 0) →
      wp_X6_lay (fun Mvf_3 Mdn_4 Mlf_5 Mar_6 =>
        wp_X6_layStops (fun Msa_7 Msm_8 Mso_9 =>
          wp_X6_within (fun r_10 =>
            ((¬ r_10 = 0) →
              (x3 = 0 →
                vp_in x2 24 ∧
                P ((Msa_7 x2.toNatClampNeg) / (100 : Int32)) Mvf_3 Mdn_4 Mlf_5 Mar_6 Msa_7 Msm_8 Mso_9) ∧
              (x3 = 1 →
                vp_in x2 24 ∧
                P ((Msa_7 x2.toNatClampNeg) - (Msa_7 x2.toNatClampNeg) / (100 : Int32) * (100 : Int32)) Mvf_3 Mdn_4 Mlf_5 Mar_6 Msa_7 Msm_8 Mso_9) ∧
              (x3 = 2 →
                vp_in x2 24 ∧
                P (Msm_8 x2.toNatClampNeg) Mvf_3 Mdn_4 Mlf_5 Mar_6 Msa_7 Msm_8 Mso_9) ∧
              (x3 = 3 →
                vp_in x2 24 ∧
                wp_X6_gettingOut (fun r_17 =>
                  P r_17 Mvf_3 Mdn_4 Mlf_5 Mar_6 Msa_7 Msm_8 Mso_9) Mst Mvf_3 x1 (Msa_7 x2.toNatClampNeg)) ∧
              ((¬ x3 = 0 ∧ ¬ x3 = 1 ∧ ¬ x3 = 2 ∧ ¬ x3 = 3) →
                P (-102 : Int32) Mvf_3 Mdn_4 Mlf_5 Mar_6 Msa_7 Msm_8 Mso_9)) ∧
            ((r_10 = 0) →
              P (-101 : Int32) Mvf_3 Mdn_4 Mlf_5 Mar_6 Msa_7 Msm_8 Mso_9)) x2 (0 : Int32) (Mso_9 - (1 : Int32))) Mst Mvf_3 Msa Msm Mso x1) Mst Mvf Mdn Mlf Mar) ∧
    ((r_1 = 0) →
      P (-101 : Int32) Mvf Mdn Mlf Mar Msa Msm Mso)) x1
def wp_X6_allPeople_4F (P : Int32 → Prop) (Mst : Nat → Int32) (Mvf : Nat → Int32) (r4 : Int32 → Int32 → Prop) (v1 : Int32) (v2 : Int32) : Prop :=
  (((6 : Int32) ≤ v2) →
    P v1) ∧
  ((¬ (6 : Int32) ≤ v2) →
    wp_X6_peopleOf (fun r_2 =>
      r4 (v1 + r_2) (v2 + 1)) Mst Mvf v2 (0 : Int32))
def wp_X6_allPeople_4 (P : Int32 → Prop) (Mst : Nat → Int32) (Mvf : Nat → Int32) : Nat → Int32 → Int32 → Prop
  | 0 => fun _ _ => False
  | n + 1 => wp_X6_allPeople_4F P Mst Mvf (wp_X6_allPeople_4 P Mst Mvf n)
def wp_X6_allPeople (P : Int32 → Prop) (Mst : Nat → Int32) (Mvf : Nat → Int32) : Prop :=
  ∃ n : Nat, wp_X6_allPeople_4 P Mst Mvf n (0 : Int32) (0 : Int32)
def wp_X6_strandedRiders_4F (P : Int32 → Prop) (Mst : Nat → Int32) (Mvf : Nat → Int32) (r4 : Int32 → Int32 → Prop) (v1 : Int32) (v2 : Int32) : Prop :=
  (((Mst (33 : Int32).toNatClampNeg) ≤ v2) →
    P v1) ∧
  ((¬ (Mst (33 : Int32).toNatClampNeg) ≤ v2) →
    vp_in v2 24 ∧
    ((¬ (Mvf v2.toNatClampNeg) = (-106 : Int32)) →
      r4 (v1 + (0 : Int32)) (v2 + 1)) ∧
    (((Mvf v2.toNatClampNeg) = (-106 : Int32)) →
      r4 (v1 + (1 : Int32)) (v2 + 1)))
def wp_X6_strandedRiders_4 (P : Int32 → Prop) (Mst : Nat → Int32) (Mvf : Nat → Int32) : Nat → Int32 → Int32 → Prop
  | 0 => fun _ _ => False
  | n + 1 => wp_X6_strandedRiders_4F P Mst Mvf (wp_X6_strandedRiders_4 P Mst Mvf n)
def wp_X6_strandedRiders (P : Int32 → Prop) (Mst : Nat → Int32) (Mvf : Nat → Int32) : Prop :=
  ∃ n : Nat, wp_X6_strandedRiders_4 P Mst Mvf n (0 : Int32) (0 : Int32)
def wp_X6_allFares_4F (P : Int32 → Prop) (Mst : Nat → Int32) (Mvf : Nat → Int32) (r4 : Int32 → Int32 → Prop) (v1 : Int32) (v2 : Int32) : Prop :=
  (((Mst (33 : Int32).toNatClampNeg) ≤ v2) →
    P v1) ∧
  ((¬ (Mst (33 : Int32).toNatClampNeg) ≤ v2) →
    wp_X6_fare (fun r_3 =>
      r4 (v1 + r_3) (v2 + 1)) Mst Mvf v2)
def wp_X6_allFares_4 (P : Int32 → Prop) (Mst : Nat → Int32) (Mvf : Nat → Int32) : Nat → Int32 → Int32 → Prop
  | 0 => fun _ _ => False
  | n + 1 => wp_X6_allFares_4F P Mst Mvf (wp_X6_allFares_4 P Mst Mvf n)
def wp_X6_allFares (P : Int32 → Prop) (Mst : Nat → Int32) (Mvf : Nat → Int32) : Prop :=
  ∃ n : Nat, wp_X6_allFares_4 P Mst Mvf n (0 : Int32) (0 : Int32)
def wp_X6_usedVans_4F (P : Int32 → Prop) (Mar : Nat → Int32) (r4 : Int32 → Int32 → Prop) (v1 : Int32) (v2 : Int32) : Prop :=
  (((8 : Int32) ≤ v2) →
    P v1) ∧
  ((¬ (8 : Int32) ≤ v2) →
    vp_in v2 8 ∧
    (((Mar v2.toNatClampNeg) = 0) →
      r4 (v1 + (0 : Int32)) (v2 + 1)) ∧
    ((¬ (Mar v2.toNatClampNeg) = 0) →
      r4 (v1 + (1 : Int32)) (v2 + 1)))
def wp_X6_usedVans_4 (P : Int32 → Prop) (Mar : Nat → Int32) : Nat → Int32 → Int32 → Prop
  | 0 => fun _ _ => False
  | n + 1 => wp_X6_usedVans_4F P Mar (wp_X6_usedVans_4 P Mar n)
def wp_X6_usedVans (P : Int32 → Prop) (Mar : Nat → Int32) : Prop :=
  ∃ n : Nat, wp_X6_usedVans_4 P Mar n (0 : Int32) (0 : Int32)
def wp_X6_allStops_4F (P : Int32 → (Nat → Int32) → (Nat → Int32) → Int32 → Prop) (Mst : Nat → Int32) (Mvf : Nat → Int32) (r4 : Int32 → Int32 → (Nat → Int32) → (Nat → Int32) → Int32 → Prop) (v1 : Int32) (v2 : Int32) (Msa : Nat → Int32) (Msm : Nat → Int32) (Mso : Int32) : Prop :=
  (((8 : Int32) ≤ v2) →
    P v1 Msa Msm Mso) ∧
  ((¬ (8 : Int32) ≤ v2) →
    wp_X6_layStops (fun Msa_2 Msm_3 Mso_4 =>
      r4 (v1 + Mso_4) (v2 + 1) Msa_2 Msm_3 Mso_4) Mst Mvf Msa Msm Mso v2)
def wp_X6_allStops_4 (P : Int32 → (Nat → Int32) → (Nat → Int32) → Int32 → Prop) (Mst : Nat → Int32) (Mvf : Nat → Int32) : Nat → Int32 → Int32 → (Nat → Int32) → (Nat → Int32) → Int32 → Prop
  | 0 => fun _ _ _ _ _ => False
  | n + 1 => wp_X6_allStops_4F P Mst Mvf (wp_X6_allStops_4 P Mst Mvf n)
def wp_X6_allStops (P : Int32 → (Nat → Int32) → (Nat → Int32) → Int32 → Prop) (Mst : Nat → Int32) (Mvf : Nat → Int32) (Msa : Nat → Int32) (Msm : Nat → Int32) (Mso : Int32) : Prop :=
  ∃ n : Nat, wp_X6_allStops_4 P Mst Mvf n (0 : Int32) (0 : Int32) Msa Msm Mso
def wp_X6_count (P : Int32 → (Nat → Int32) → (Nat → Int32) → (Nat → Int32) → (Nat → Int32) → (Nat → Int32) → (Nat → Int32) → Int32 → Prop) (Mst : Nat → Int32) (Mhn : Int32) (Mln : Int32) (Mvf : Nat → Int32) (Mdn : Nat → Int32) (Mlf : Nat → Int32) (Mar : Nat → Int32) (Msa : Nat → Int32) (Msm : Nat → Int32) (Mso : Int32) (x1 : Int32) : Prop :=
  wp_X6_within (fun r_1 =>
    ((r_1 = 0) →
      wp_X6_lay (fun Mvf_3 Mdn_4 Mlf_5 Mar_6 =>
        (x1 = 5 →
          P (Mst (33 : Int32).toNatClampNeg) Mvf_3 Mdn_4 Mlf_5 Mar_6 Msa Msm Mso) ∧
        (x1 = 6 →
          wp_X6_allPeople (fun r_9 =>
            P r_9 Mvf_3 Mdn_4 Mlf_5 Mar_6 Msa Msm Mso) Mst Mvf_3) ∧
        (x1 = 7 →
          wp_X6_strandedRiders (fun r_10 =>
            P r_10 Mvf_3 Mdn_4 Mlf_5 Mar_6 Msa Msm Mso) Mst Mvf_3) ∧
        (x1 = 8 →
          wp_X6_strandedPeople (fun r_11 =>
            P r_11 Mvf_3 Mdn_4 Mlf_5 Mar_6 Msa Msm Mso) Mst Mvf_3) ∧
        (x1 = 9 →
          wp_X6_waiting (fun r_12 =>
            P r_12 Mvf_3 Mdn_4 Mlf_5 Mar_6 Msa Msm Mso) Mst Mvf_3) ∧
        (x1 = 10 →
          wp_X6_allFares (fun r_13 =>
            P r_13 Mvf_3 Mdn_4 Mlf_5 Mar_6 Msa Msm Mso) Mst Mvf_3) ∧
        (x1 = 11 →
          wp_X6_usedVans (fun r_14 =>
            P r_14 Mvf_3 Mdn_4 Mlf_5 Mar_6 Msa Msm Mso) Mar_6) ∧
        (x1 = 12 →
          wp_X6_allStops (fun r_18 Msa_15 Msm_16 Mso_17 =>
            P r_18 Mvf_3 Mdn_4 Mlf_5 Mar_6 Msa_15 Msm_16 Mso_17) Mst Mvf_3 Msa Msm Mso) ∧
        (x1 = 13 →
          wp_X6_lastMinute (fun r_22 Msa_19 Msm_20 Mso_21 =>
            P r_22 Mvf_3 Mdn_4 Mlf_5 Mar_6 Msa_19 Msm_20 Mso_21) Mst Mvf_3 Msa Msm Mso) ∧
        (x1 = 14 →
          P Mln Mvf_3 Mdn_4 Mlf_5 Mar_6 Msa Msm Mso) ∧
        (x1 = 15 →
          P Mhn Mvf_3 Mdn_4 Mlf_5 Mar_6 Msa Msm Mso) ∧
        ((¬ x1 = 5 ∧ ¬ x1 = 6 ∧ ¬ x1 = 7 ∧ ¬ x1 = 8 ∧ ¬ x1 = 9 ∧ ¬ x1 = 10 ∧ ¬ x1 = 11 ∧ ¬ x1 = 12 ∧ ¬ x1 = 13 ∧ ¬ x1 = 14 ∧ ¬ x1 = 15) →
          P (-102 : Int32) Mvf_3 Mdn_4 Mlf_5 Mar_6 Msa Msm Mso)) Mst Mvf Mdn Mlf Mar) ∧
    ((¬ r_1 = 0) →
      vp_in x1 130 ∧
      P (Mst x1.toNatClampNeg) Mvf Mdn Mlf Mar Msa Msm Mso)) x1 (0 : Int32) (4 : Int32)
def wp_X6_kerb_95 (P : Int32 → (Nat → Int32) → (Nat → Int32) → (Nat → Int32) → (Nat → Int32) → Prop) (Mst : Nat → Int32) (x1 : Int32) (r22 : Int32 → Int32 → Prop) (v2 : Int32) (v3 : Int32) (w0 : Int32) (Mvf : Nat → Int32) (Mdn : Nat → Int32) (Mlf : Nat → Int32) (Mar : Nat → Int32) : Prop :=
  ((w0 = 0) →
    r22 (v2 + (0 : Int32)) (v3 + 1)) ∧
  ((¬ w0 = 0) →
    wp_X6_of (fun r_18 =>
      r22 (v2 + r_18) (v3 + 1)) Mst v3 (3 : Int32))
def wp_X6_kerb_22F (P : Int32 → (Nat → Int32) → (Nat → Int32) → (Nat → Int32) → (Nat → Int32) → Prop) (Mst : Nat → Int32) (x1 : Int32) (Mvf : Nat → Int32) (Mdn : Nat → Int32) (Mlf : Nat → Int32) (Mar : Nat → Int32) (r22 : Int32 → Int32 → Prop) (v2 : Int32) (v3 : Int32) : Prop :=
  (((Mst (33 : Int32).toNatClampNeg) ≤ v3) →
    P v2 Mvf Mdn Mlf Mar) ∧
  ((¬ (Mst (33 : Int32).toNatClampNeg) ≤ v3) →
    wp_X6_ready (fun r_9 =>
      vp_in v3 24 ∧
      (((x1 - r_9) < 0) →
        wp_X6_kerb_95 P Mst x1 r22 v2 v3 (0 : Int32) Mvf Mdn Mlf Mar) ∧
      ((¬ (x1 - r_9) < 0) →
        ((¬ (Mvf v3.toNatClampNeg) = (-106 : Int32)) →
          vp_in ((17 : Int32) + (Mvf v3.toNatClampNeg)) 130 ∧
          (((Mst ((17 : Int32) + (Mvf v3.toNatClampNeg)).toNatClampNeg) ≤ x1) →
            wp_X6_kerb_95 P Mst x1 r22 v2 v3 (0 : Int32) Mvf Mdn Mlf Mar) ∧
          ((¬ (Mst ((17 : Int32) + (Mvf v3.toNatClampNeg)).toNatClampNeg) ≤ x1) →
            wp_X6_kerb_95 P Mst x1 r22 v2 v3 (1 : Int32) Mvf Mdn Mlf Mar)) ∧
        (((Mvf v3.toNatClampNeg) = (-106 : Int32)) →
          (((Mst (1 : Int32).toNatClampNeg) < (x1 - r_9)) →
            wp_X6_kerb_95 P Mst x1 r22 v2 v3 (0 : Int32) Mvf Mdn Mlf Mar) ∧
          ((¬ (Mst (1 : Int32).toNatClampNeg) < (x1 - r_9)) →
            wp_X6_kerb_95 P Mst x1 r22 v2 v3 (1 : Int32) Mvf Mdn Mlf Mar)))) Mst v3)
def wp_X6_kerb_22 (P : Int32 → (Nat → Int32) → (Nat → Int32) → (Nat → Int32) → (Nat → Int32) → Prop) (Mst : Nat → Int32) (x1 : Int32) (Mvf : Nat → Int32) (Mdn : Nat → Int32) (Mlf : Nat → Int32) (Mar : Nat → Int32) : Nat → Int32 → Int32 → Prop
  | 0 => fun _ _ => False
  | n + 1 => wp_X6_kerb_22F P Mst x1 Mvf Mdn Mlf Mar (wp_X6_kerb_22 P Mst x1 Mvf Mdn Mlf Mar n)
def wp_X6_kerb (P : Int32 → (Nat → Int32) → (Nat → Int32) → (Nat → Int32) → (Nat → Int32) → Prop) (Mst : Nat → Int32) (Mvf : Nat → Int32) (Mdn : Nat → Int32) (Mlf : Nat → Int32) (Mar : Nat → Int32) (x1 : Int32) : Prop :=
  wp_X6_within (fun r_1 =>
    ((¬ r_1 = 0) →
      wp_X6_lay (fun Mvf_3 Mdn_4 Mlf_5 Mar_6 =>
        ∃ n : Nat, wp_X6_kerb_22 P Mst x1 Mvf_3 Mdn_4 Mlf_5 Mar_6 n (0 : Int32) (0 : Int32)) Mst Mvf Mdn Mlf Mar) ∧
    ((r_1 = 0) →
      P (-102 : Int32) Mvf Mdn Mlf Mar)) x1 (0 : Int32) (3000 : Int32)
def wp_X6_ifDelayed_86 (P : Int32 → (Nat → Int32) → (Nat → Int32) → (Nat → Int32) → (Nat → Int32) → (Nat → Int32) → (Nat → Int32) → (Nat → Int32) → Int32 → Prop) (x1 : Int32) (x2 : Int32) (x3 : Int32) (v4 : Int32) (w0 : Int32) (Mst : Nat → Int32) (Mvf : Nat → Int32) (Mdn : Nat → Int32) (Mlf : Nat → Int32) (Mar : Nat → Int32) (Msa : Nat → Int32) (Msm : Nat → Int32) (Mso : Int32) : Prop :=
  vp_in ((11 : Int32) + x1) 130 ∧
  P w0 (upd Mst ((11 : Int32) + x1).toNatClampNeg v4) Mvf Mdn Mlf Mar Msa Msm Mso
def wp_X6_ifDelayed (P : Int32 → (Nat → Int32) → (Nat → Int32) → (Nat → Int32) → (Nat → Int32) → (Nat → Int32) → (Nat → Int32) → (Nat → Int32) → Int32 → Prop) (Mst : Nat → Int32) (Mvf : Nat → Int32) (Mdn : Nat → Int32) (Mlf : Nat → Int32) (Mar : Nat → Int32) (Msa : Nat → Int32) (Msm : Nat → Int32) (Mso : Int32) (x1 : Int32) (x2 : Int32) (x3 : Int32) : Prop :=
  wp_X6_isFlight (fun r_1 =>
    ((¬ r_1 = 0) →
      wp_X6_within (fun r_3 =>
        ((r_3 = 0) →
          P (-102 : Int32) Mst Mvf Mdn Mlf Mar Msa Msm Mso) ∧
        ((¬ r_3 = 0) →
          wp_X6_within (fun r_5 =>
            ((¬ r_5 = 0) →
              vp_in ((11 : Int32) + x1) 130 ∧
              vp_in ((11 : Int32) + x1) 130 ∧
              wp_X6_lay (fun Mvf_9 Mdn_10 Mlf_11 Mar_12 =>
                ((¬ x3 = 0) →
                  ((¬ x3 = (1 : Int32)) →
                    wp_X6_lastMinute (fun r_18 Msa_15 Msm_16 Mso_17 =>
                      wp_X6_ifDelayed_86 P x1 x2 x3 (Mst ((11 : Int32) + x1).toNatClampNeg) r_18 (upd Mst ((11 : Int32) + x1).toNatClampNeg x2) Mvf_9 Mdn_10 Mlf_11 Mar_12 Msa_15 Msm_16 Mso_17) (upd Mst ((11 : Int32) + x1).toNatClampNeg x2) Mvf_9 Msa Msm Mso) ∧
                  ((x3 = (1 : Int32)) →
                    wp_X6_waiting (fun r_19 =>
                      wp_X6_ifDelayed_86 P x1 x2 x3 (Mst ((11 : Int32) + x1).toNatClampNeg) r_19 (upd Mst ((11 : Int32) + x1).toNatClampNeg x2) Mvf_9 Mdn_10 Mlf_11 Mar_12 Msa Msm Mso) (upd Mst ((11 : Int32) + x1).toNatClampNeg x2) Mvf_9)) ∧
                ((x3 = 0) →
                  wp_X6_strandedPeople (fun r_20 =>
                    wp_X6_ifDelayed_86 P x1 x2 x3 (Mst ((11 : Int32) + x1).toNatClampNeg) r_20 (upd Mst ((11 : Int32) + x1).toNatClampNeg x2) Mvf_9 Mdn_10 Mlf_11 Mar_12 Msa Msm Mso) (upd Mst ((11 : Int32) + x1).toNatClampNeg x2) Mvf_9)) (upd Mst ((11 : Int32) + x1).toNatClampNeg x2) Mvf Mdn Mlf Mar) ∧
            ((r_5 = 0) →
              P (-102 : Int32) Mst Mvf Mdn Mlf Mar Msa Msm Mso)) x3 (0 : Int32) (2 : Int32))) x2 (-30 : Int32) (300 : Int32)) ∧
    ((r_1 = 0) →
      P (-101 : Int32) Mst Mvf Mdn Mlf Mar Msa Msm Mso)) x1
def wp_X6_mostDelay_36F (P : Int32 → (Nat → Int32) → (Nat → Int32) → (Nat → Int32) → (Nat → Int32) → (Nat → Int32) → Prop) (x1 : Int32) (v2 : Int32) (v3 : Int32) (r36 : Int32 → Int32 → (Nat → Int32) → (Nat → Int32) → (Nat → Int32) → (Nat → Int32) → (Nat → Int32) → Prop) (v4 : Int32) (v5 : Int32) (Mst : Nat → Int32) (Mvf : Nat → Int32) (Mdn : Nat → Int32) (Mlf : Nat → Int32) (Mar : Nat → Int32) : Prop :=
  (((300 : Int32) < v5) →
    vp_in ((11 : Int32) + x1) 130 ∧
    P v4 (upd Mst ((11 : Int32) + x1).toNatClampNeg v3) Mvf Mdn Mlf Mar) ∧
  ((¬ (300 : Int32) < v5) →
    vp_in ((11 : Int32) + x1) 130 ∧
    wp_X6_lay (fun Mvf_12 Mdn_13 Mlf_14 Mar_15 =>
      ((v5 ≤ v4) →
        r36 v4 (v5 + 1) (upd Mst ((11 : Int32) + x1).toNatClampNeg v5) Mvf_12 Mdn_13 Mlf_14 Mar_15) ∧
      ((¬ v5 ≤ v4) →
        wp_X6_strandedPeople (fun r_17 =>
          ((v2 < r_17) →
            r36 v4 (v5 + 1) (upd Mst ((11 : Int32) + x1).toNatClampNeg v5) Mvf_12 Mdn_13 Mlf_14 Mar_15) ∧
          ((¬ v2 < r_17) →
            r36 v5 (v5 + 1) (upd Mst ((11 : Int32) + x1).toNatClampNeg v5) Mvf_12 Mdn_13 Mlf_14 Mar_15)) (upd Mst ((11 : Int32) + x1).toNatClampNeg v5) Mvf_12)) (upd Mst ((11 : Int32) + x1).toNatClampNeg v5) Mvf Mdn Mlf Mar)
def wp_X6_mostDelay_36 (P : Int32 → (Nat → Int32) → (Nat → Int32) → (Nat → Int32) → (Nat → Int32) → (Nat → Int32) → Prop) (x1 : Int32) (v2 : Int32) (v3 : Int32) : Nat → Int32 → Int32 → (Nat → Int32) → (Nat → Int32) → (Nat → Int32) → (Nat → Int32) → (Nat → Int32) → Prop
  | 0 => fun _ _ _ _ _ _ _ => False
  | n + 1 => wp_X6_mostDelay_36F P x1 v2 v3 (wp_X6_mostDelay_36 P x1 v2 v3 n)
def wp_X6_mostDelay (P : Int32 → (Nat → Int32) → (Nat → Int32) → (Nat → Int32) → (Nat → Int32) → (Nat → Int32) → Prop) (Mst : Nat → Int32) (Mvf : Nat → Int32) (Mdn : Nat → Int32) (Mlf : Nat → Int32) (Mar : Nat → Int32) (x1 : Int32) : Prop :=
  wp_X6_isFlight (fun r_1 =>
    ((¬ r_1 = 0) →
      wp_X6_lay (fun Mvf_3 Mdn_4 Mlf_5 Mar_6 =>
        wp_X6_strandedPeople (fun r_7 =>
          vp_in ((11 : Int32) + x1) 130 ∧
          ∃ n : Nat, wp_X6_mostDelay_36 P x1 r_7 (Mst ((11 : Int32) + x1).toNatClampNeg) n (Mst ((11 : Int32) + x1).toNatClampNeg) (-30 : Int32) Mst Mvf_3 Mdn_4 Mlf_5 Mar_6) Mst Mvf_3) Mst Mvf Mdn Mlf Mar) ∧
    ((r_1 = 0) →
      P (-101 : Int32) Mst Mvf Mdn Mlf Mar)) x1
def wp_X6_bestMinute_31F (P : Int32 → (Nat → Int32) → (Nat → Int32) → (Nat → Int32) → (Nat → Int32) → (Nat → Int32) → Prop) (x1 : Int32) (v2 : Int32) (r31 : Int32 → Int32 → Int32 → Int32 → (Nat → Int32) → (Nat → Int32) → (Nat → Int32) → (Nat → Int32) → (Nat → Int32) → Prop) (v3 : Int32) (v4 : Int32) (v5 : Int32) (v6 : Int32) (Mst : Nat → Int32) (Mvf : Nat → Int32) (Mdn : Nat → Int32) (Mlf : Nat → Int32) (Mar : Nat → Int32) : Prop :=
  (((1500 : Int32) < v6) →
    vp_in ((17 : Int32) + x1) 130 ∧
    P v3 (upd Mst ((17 : Int32) + x1).toNatClampNeg v2) Mvf Mdn Mlf Mar) ∧
  ((¬ (1500 : Int32) < v6) →
    vp_in ((17 : Int32) + x1) 130 ∧
    wp_X6_lay (fun Mvf_7 Mdn_8 Mlf_9 Mar_10 =>
      wp_X6_strandedPeople (fun r_11 =>
        wp_X6_waiting (fun r_12 =>
          ((v6 = 0) →
            r31 v6 r_11 r_12 (v6 + 5) (upd Mst ((17 : Int32) + x1).toNatClampNeg v6) Mvf_7 Mdn_8 Mlf_9 Mar_10) ∧
          ((¬ v6 = 0) →
            ((r_11 < v4) →
              r31 v6 r_11 r_12 (v6 + 5) (upd Mst ((17 : Int32) + x1).toNatClampNeg v6) Mvf_7 Mdn_8 Mlf_9 Mar_10) ∧
            ((¬ r_11 < v4) →
              ((¬ r_11 = v4) →
                r31 v3 v4 v5 (v6 + 5) (upd Mst ((17 : Int32) + x1).toNatClampNeg v6) Mvf_7 Mdn_8 Mlf_9 Mar_10) ∧
              ((r_11 = v4) →
                ((v5 ≤ r_12) →
                  r31 v3 v4 v5 (v6 + 5) (upd Mst ((17 : Int32) + x1).toNatClampNeg v6) Mvf_7 Mdn_8 Mlf_9 Mar_10) ∧
                ((¬ v5 ≤ r_12) →
                  r31 v6 r_11 r_12 (v6 + 5) (upd Mst ((17 : Int32) + x1).toNatClampNeg v6) Mvf_7 Mdn_8 Mlf_9 Mar_10))))) (upd Mst ((17 : Int32) + x1).toNatClampNeg v6) Mvf_7) (upd Mst ((17 : Int32) + x1).toNatClampNeg v6) Mvf_7) (upd Mst ((17 : Int32) + x1).toNatClampNeg v6) Mvf Mdn Mlf Mar)
def wp_X6_bestMinute_31 (P : Int32 → (Nat → Int32) → (Nat → Int32) → (Nat → Int32) → (Nat → Int32) → (Nat → Int32) → Prop) (x1 : Int32) (v2 : Int32) : Nat → Int32 → Int32 → Int32 → Int32 → (Nat → Int32) → (Nat → Int32) → (Nat → Int32) → (Nat → Int32) → (Nat → Int32) → Prop
  | 0 => fun _ _ _ _ _ _ _ _ _ => False
  | n + 1 => wp_X6_bestMinute_31F P x1 v2 (wp_X6_bestMinute_31 P x1 v2 n)
def wp_X6_bestMinute (P : Int32 → (Nat → Int32) → (Nat → Int32) → (Nat → Int32) → (Nat → Int32) → (Nat → Int32) → Prop) (Mst : Nat → Int32) (Mvf : Nat → Int32) (Mdn : Nat → Int32) (Mlf : Nat → Int32) (Mar : Nat → Int32) (x1 : Int32) : Prop :=
  wp_X6_isVan (fun r_1 =>
    ((¬ r_1 = 0) →
      vp_in ((17 : Int32) + x1) 130 ∧
      ∃ n : Nat, wp_X6_bestMinute_31 P x1 (Mst ((17 : Int32) + x1).toNatClampNeg) n (0 : Int32) (0 : Int32) (0 : Int32) (0 : Int32) Mst Mvf Mdn Mlf Mar) ∧
    ((r_1 = 0) →
      P (-101 : Int32) Mst Mvf Mdn Mlf Mar)) x1
def wp_X6_fullest_47 (P : Int32 → (Nat → Int32) → (Nat → Int32) → (Nat → Int32) → (Nat → Int32) → Prop) (Mst : Nat → Int32) (r9 : Int32 → Int32 → Prop) (v1 : Int32) (v2 : Int32) (w0 : Int32) (Mvf : Nat → Int32) (Mdn : Nat → Int32) (Mlf : Nat → Int32) (Mar : Nat → Int32) : Prop :=
  ((w0 = 0) →
    r9 v1 (v2 + 1)) ∧
  ((¬ w0 = 0) →
    r9 v2 (v2 + 1))
def wp_X6_fullest_9F (P : Int32 → (Nat → Int32) → (Nat → Int32) → (Nat → Int32) → (Nat → Int32) → Prop) (Mst : Nat → Int32) (Mvf : Nat → Int32) (Mdn : Nat → Int32) (Mlf : Nat → Int32) (Mar : Nat → Int32) (r9 : Int32 → Int32 → Prop) (v1 : Int32) (v2 : Int32) : Prop :=
  (((8 : Int32) ≤ v2) →
    P v1 Mvf Mdn Mlf Mar) ∧
  ((¬ (8 : Int32) ≤ v2) →
    wp_X6_peopleIn (fun r_6 =>
      ((r_6 ≤ 0) →
        wp_X6_fullest_47 P Mst r9 v1 v2 (0 : Int32) Mvf Mdn Mlf Mar) ∧
      ((¬ r_6 ≤ 0) →
        ((v1 = (-106 : Int32)) →
          wp_X6_fullest_47 P Mst r9 v1 v2 (1 : Int32) Mvf Mdn Mlf Mar) ∧
        ((¬ v1 = (-106 : Int32)) →
          wp_X6_peopleIn (fun r_9 =>
            wp_X6_peopleIn (fun r_10 =>
              ((r_9 ≤ r_10) →
                wp_X6_fullest_47 P Mst r9 v1 v2 (0 : Int32) Mvf Mdn Mlf Mar) ∧
              ((¬ r_9 ≤ r_10) →
                wp_X6_fullest_47 P Mst r9 v1 v2 (1 : Int32) Mvf Mdn Mlf Mar)) Mst Mlf v1) Mst Mlf v2))) Mst Mlf v2)
def wp_X6_fullest_9 (P : Int32 → (Nat → Int32) → (Nat → Int32) → (Nat → Int32) → (Nat → Int32) → Prop) (Mst : Nat → Int32) (Mvf : Nat → Int32) (Mdn : Nat → Int32) (Mlf : Nat → Int32) (Mar : Nat → Int32) : Nat → Int32 → Int32 → Prop
  | 0 => fun _ _ => False
  | n + 1 => wp_X6_fullest_9F P Mst Mvf Mdn Mlf Mar (wp_X6_fullest_9 P Mst Mvf Mdn Mlf Mar n)
def wp_X6_fullest (P : Int32 → (Nat → Int32) → (Nat → Int32) → (Nat → Int32) → (Nat → Int32) → Prop) (Mst : Nat → Int32) (Mvf : Nat → Int32) (Mdn : Nat → Int32) (Mlf : Nat → Int32) (Mar : Nat → Int32) : Prop :=
  wp_X6_lay (fun Mvf_1 Mdn_2 Mlf_3 Mar_4 =>
    ∃ n : Nat, wp_X6_fullest_9 P Mst Mvf_1 Mdn_2 Mlf_3 Mar_4 n (-106 : Int32) (0 : Int32)) Mst Mvf Mdn Mlf Mar
def wp_X6_codeAt (P : Int32 → Prop) (x0 : Int64) (x2 : Int32) : Prop :=
  P (((((x0).toUInt64 >>> ((((8 : Int32) * x2)).toInt64.toUInt64 &&& Int64.toUInt64 63)).toInt64 &&& (255 : Int64))).toInt32)
def wp_X6_charactersIn_48F (P : Int32 → Prop) (x0 : Int64) (v2 : Int32) (r48 : Int32 → Int32 → Prop) (v3 : Int32) (v4 : Int32) : Prop :=
  ((v2 ≤ v4) →
    ((v3 = 0) →
      P (0 : Int32)) ∧
    ((¬ v3 = 0) →
      P v2)) ∧
  ((¬ v2 ≤ v4) →
    ((v3 = 0) →
      r48 (0 : Int32) (v4 + 1)) ∧
    ((¬ v3 = 0) →
      wp_X6_codeAt (fun r_9 =>
        wp_X6_within (fun r_10 =>
          ((r_10 = 0) →
            r48 (0 : Int32) (v4 + 1)) ∧
          ((¬ r_10 = 0) →
            r48 (1 : Int32) (v4 + 1))) r_9 (33 : Int32) (126 : Int32)) x0 v4))
def wp_X6_charactersIn_48 (P : Int32 → Prop) (x0 : Int64) (v2 : Int32) : Nat → Int32 → Int32 → Prop
  | 0 => fun _ _ => False
  | n + 1 => wp_X6_charactersIn_48F P x0 v2 (wp_X6_charactersIn_48 P x0 v2 n)
def wp_X6_charactersIn_22 (P : Int32 → Prop) (x0 : Int64) (v2 : Int32) : Prop :=
  ((v2 = (8 : Int32)) →
    ∃ n : Nat, wp_X6_charactersIn_48 P x0 v2 n (1 : Int32) (0 : Int32)) ∧
  ((¬ v2 = (8 : Int32)) →
    ((¬ (lg_cmp (((x0).toUInt64 >>> ((((8 : Int32) * v2)).toInt64.toUInt64 &&& Int64.toUInt64 63)).toInt64) (0 : Int64)) = 0) →
      ∃ n : Nat, wp_X6_charactersIn_48 P x0 v2 n (0 : Int32) (0 : Int32)) ∧
    (((lg_cmp (((x0).toUInt64 >>> ((((8 : Int32) * v2)).toInt64.toUInt64 &&& Int64.toUInt64 63)).toInt64) (0 : Int64)) = 0) →
      ∃ n : Nat, wp_X6_charactersIn_48 P x0 v2 n (1 : Int32) (0 : Int32)))
def wp_X6_charactersIn_2F (P : Int32 → Prop) (x0 : Int64) (r2 : Int32 → Prop) (v2 : Int32) : Prop :=
  (((8 : Int32) ≤ v2) →
    wp_X6_charactersIn_22 P x0 v2) ∧
  ((¬ (8 : Int32) ≤ v2) →
    wp_X6_codeAt (fun r_2 =>
      ((r_2 = 0) →
        wp_X6_charactersIn_22 P x0 v2) ∧
      ((¬ r_2 = 0) →
        r2 (v2 + 1))) x0 v2)
def wp_X6_charactersIn_2 (P : Int32 → Prop) (x0 : Int64) : Nat → Int32 → Prop
  | 0 => fun _ => False
  | n + 1 => wp_X6_charactersIn_2F P x0 (wp_X6_charactersIn_2 P x0 n)
def wp_X6_charactersIn (P : Int32 → Prop) (x0 : Int64) : Prop :=
  ∃ n : Nat, wp_X6_charactersIn_2 P x0 n (0 : Int32)
def wp_X6_put_31F (P : Int32 → (Nat → Int32) → Int32 → Prop) (x1 : Int64) (r31 : Int32 → (Nat → Int32) → Int32 → Prop) (v4 : Int32) (Mpd : Nat → Int32) (Mln : Int32) : Prop :=
  ((v4 < 0) →
    P Mln Mpd Mln) ∧
  ((¬ v4 < 0) →
    wp_X6_codeAt (fun r_5 =>
      vp_in Mln 60 ∧
      r31 (v4 + (-1)) (upd Mpd Mln.toNatClampNeg r_5) (Mln + (1 : Int32))) x1 v4)
def wp_X6_put_31 (P : Int32 → (Nat → Int32) → Int32 → Prop) (x1 : Int64) : Nat → Int32 → (Nat → Int32) → Int32 → Prop
  | 0 => fun _ _ _ => False
  | n + 1 => wp_X6_put_31F P x1 (wp_X6_put_31 P x1 n)
def wp_X6_put (P : Int32 → (Nat → Int32) → Int32 → Prop) (Mpd : Nat → Int32) (Mln : Int32) (x1 : Int64) : Prop :=
  wp_X6_charactersIn (fun r_1 =>
    ((¬ r_1 = 0) →
      (((Mln + r_1) ≤ (60 : Int32)) →
        ∃ n : Nat, wp_X6_put_31 P x1 n (r_1 - (1 : Int32)) Mpd Mln) ∧
      ((¬ (Mln + r_1) ≤ (60 : Int32)) →
        P (-104 : Int32) Mpd Mln)) ∧
    ((r_1 = 0) →
      P (-102 : Int32) Mpd Mln)) x1
def wp_X6_wipe (P : Int32 → Int32 → Prop) (Mln : Int32) : Prop :=
  P Mln (0 : Int32)
def wp_X6_next (P : Int32 → Prop) (Mpd : Nat → Int32) (Mln : Int32) (Mat : Int32) : Prop :=
  ((Mln ≤ Mat) →
    P (0 : Int32)) ∧
  ((¬ Mln ≤ Mat) →
    vp_in Mat 60 ∧
    P (Mpd Mat.toNatClampNeg))
def wp_X6_readsSign_36 (P : Int32 → Int32 → (Nat → Int32) → Prop) (Mpd : Nat → Int32) (Mln : Int32) (x1 : Int32) (x2 : Int32) (x3 : Int32) (v4 : Int32) (w0 : Int32) (w1 : Int32) (Mat : Int32) (Mit : Nat → Int32) : Prop :=
  vp_in w0 4 ∧
  ((v4 = 0) →
    g_b v4 ∧ P v4 (Mat + (0 : Int32)) (upd Mit w0.toNatClampNeg w1)) ∧
  ((¬ v4 = 0) →
    g_b v4 ∧ P v4 (Mat + (1 : Int32)) (upd Mit w0.toNatClampNeg w1))
def wp_X6_readsSign (P : Int32 → Int32 → (Nat → Int32) → Prop) (Mpd : Nat → Int32) (Mln : Int32) (Mat : Int32) (Mit : Nat → Int32) (x1 : Int32) (x2 : Int32) (x3 : Int32) : Prop :=
  wp_X6_next (fun r_1 =>
    wp_X6_within (fun r_2 =>
      ((r_2 = 0) →
        vp_in x1 4 ∧
        wp_X6_readsSign_36 P Mpd Mln x1 x2 x3 r_2 x1 (Mit x1.toNatClampNeg) Mat Mit) ∧
      ((¬ r_2 = 0) →
        wp_X6_next (fun r_5 =>
          wp_X6_readsSign_36 P Mpd Mln x1 x2 x3 r_2 x1 (r_5 - x2) Mat Mit) Mpd Mln Mat)) r_1 x2 x3) Mpd Mln Mat
def wp_X6_readsRider_94 (P : Int32 → Int32 → (Nat → Int32) → Prop) (Mpd : Nat → Int32) (Mln : Int32) (Mat : Int32) (Mit : Nat → Int32) : Prop :=
  wp_X6_next (fun r_22 =>
    ((r_22 = (120 : Int32)) →
      wp_X6_readsSign (fun r_26 Mat_24 Mit_25 =>
        g_b r_26 ∧ P r_26 Mat_24 (upd Mit_25 (3 : Int32).toNatClampNeg ((Mit_25 (3 : Int32).toNatClampNeg) + (1 : Int32)))) Mpd Mln (Mat + (1 : Int32)) (upd Mit (3 : Int32).toNatClampNeg (1 : Int32)) (3 : Int32) (49 : Int32) (52 : Int32)) ∧
    ((¬ r_22 = (120 : Int32)) →
      P (1 : Int32) Mat (upd Mit (3 : Int32).toNatClampNeg (1 : Int32)))) Mpd Mln Mat
def wp_X6_readsRider (P : Int32 → Int32 → (Nat → Int32) → Prop) (Mpd : Nat → Int32) (Mln : Int32) (Mat : Int32) (Mit : Nat → Int32) : Prop :=
  wp_X6_readsSign (fun r_3 Mat_1 Mit_2 =>
    ((r_3 = 0) →
      P (0 : Int32) Mat_1 Mit_2) ∧
    ((¬ r_3 = 0) →
      wp_X6_readsSign (fun r_7 Mat_5 Mit_6 =>
        ((r_7 = 0) →
          P (0 : Int32) Mat_5 Mit_6) ∧
        ((¬ r_7 = 0) →
          wp_X6_readsSign (fun r_11 Mat_9 Mit_10 =>
            ((¬ r_11 = 0) →
              (((Mit_10 (2 : Int32).toNatClampNeg) ≤ 0) →
                wp_X6_readsRider_94 P Mpd Mln Mat_9 Mit_10) ∧
              ((¬ (Mit_10 (2 : Int32).toNatClampNeg) ≤ 0) →
                wp_X6_next (fun r_15 =>
                  wp_X6_within (fun r_16 =>
                    ((r_16 = 0) →
                      wp_X6_readsRider_94 P Mpd Mln Mat_9 Mit_10) ∧
                    ((¬ r_16 = 0) →
                      wp_X6_next (fun r_19 =>
                        wp_X6_readsRider_94 P Mpd Mln (Mat_9 + (1 : Int32)) (upd Mit_10 (2 : Int32).toNatClampNeg ((((10 : Int32) * (Mit_10 (2 : Int32).toNatClampNeg)) + r_19) - (48 : Int32)))) Mpd Mln Mat_9)) r_15 (48 : Int32) (57 : Int32)) Mpd Mln Mat_9)) ∧
            ((r_11 = 0) →
              P (0 : Int32) Mat_9 Mit_10)) Mpd Mln Mat_5 Mit_6 (2 : Int32) (48 : Int32) (57 : Int32))) Mpd Mln Mat_1 Mit_2 (1 : Int32) (97 : Int32) (102 : Int32))) Mpd Mln Mat Mit (0 : Int32) (48 : Int32) (53 : Int32)
def wp_X6_findFault_5F (P : Int32 → Int32 → (Nat → Int32) → Prop) (Mpd : Nat → Int32) (Mln : Int32) (r5 : Int32 → (Nat → Int32) → Prop) (Mat : Int32) (Mit : Nat → Int32) : Prop :=
  wp_X6_readsRider (fun r_3 Mat_1 Mit_2 =>
    ((r_3 = 0) →
      P Mat_1 Mat_1 Mit_2) ∧
    ((¬ r_3 = 0) →
      ((¬ Mat_1 = Mln) →
        wp_X6_next (fun r_6 =>
          ((r_6 = (44 : Int32)) →
            r5 (Mat_1 + (1 : Int32)) Mit_2) ∧
          ((¬ r_6 = (44 : Int32)) →
            P Mat_1 Mat_1 Mit_2)) Mpd Mln Mat_1) ∧
      ((Mat_1 = Mln) →
        P (-106 : Int32) Mat_1 Mit_2))) Mpd Mln Mat Mit
def wp_X6_findFault_5 (P : Int32 → Int32 → (Nat → Int32) → Prop) (Mpd : Nat → Int32) (Mln : Int32) : Nat → Int32 → (Nat → Int32) → Prop
  | 0 => fun _ _ => False
  | n + 1 => wp_X6_findFault_5F P Mpd Mln (wp_X6_findFault_5 P Mpd Mln n)
def wp_X6_findFault (P : Int32 → Int32 → (Nat → Int32) → Prop) (Mpd : Nat → Int32) (Mln : Int32) (Mat : Int32) (Mit : Nat → Int32) : Prop :=
  ∃ n : Nat, wp_X6_findFault_5 P Mpd Mln n (0 : Int32) Mit
def wp_X6_ridersOfPad_4F (P : Int32 → Prop) (Mpd : Nat → Int32) (Mln : Int32) (r4 : Int32 → Int32 → Prop) (v1 : Int32) (v2 : Int32) : Prop :=
  ((Mln ≤ v2) →
    P v1) ∧
  ((¬ Mln ≤ v2) →
    vp_in v2 60 ∧
    ((¬ (Mpd v2.toNatClampNeg) = (44 : Int32)) →
      r4 (v1 + (0 : Int32)) (v2 + 1)) ∧
    (((Mpd v2.toNatClampNeg) = (44 : Int32)) →
      r4 (v1 + (1 : Int32)) (v2 + 1)))
def wp_X6_ridersOfPad_4 (P : Int32 → Prop) (Mpd : Nat → Int32) (Mln : Int32) : Nat → Int32 → Int32 → Prop
  | 0 => fun _ _ => False
  | n + 1 => wp_X6_ridersOfPad_4F P Mpd Mln (wp_X6_ridersOfPad_4 P Mpd Mln n)
def wp_X6_ridersOfPad (P : Int32 → Prop) (Mpd : Nat → Int32) (Mln : Int32) : Prop :=
  ∃ n : Nat, wp_X6_ridersOfPad_4 P Mpd Mln n (1 : Int32) (0 : Int32)
def wp_X6_read_100 (P : Int32 → (Nat → Int32) → (Nat → Int32) → Int32 → Int32 → Int32 → (Nat → Int32) → Prop) (Mpd : Nat → Int32) (Mst : Nat → Int32) (Mhi : Nat → Int32) (Mhn : Int32) (Mln : Int32) (Mat : Int32) (Mit : Nat → Int32) : Prop :=
  P (Mst (33 : Int32).toNatClampNeg) Mst Mhi Mhn (0 : Int32) Mat Mit
def wp_X6_read_41F (P : Int32 → (Nat → Int32) → (Nat → Int32) → Int32 → Int32 → Int32 → (Nat → Int32) → Prop) (Mpd : Nat → Int32) (Mhi : Nat → Int32) (Mhn : Int32) (Mln : Int32) (r41 : (Nat → Int32) → Int32 → (Nat → Int32) → Prop) (Mst : Nat → Int32) (Mat : Int32) (Mit : Nat → Int32) : Prop :=
  ((Mln ≤ Mat) →
    wp_X6_read_100 P Mpd Mst Mhi Mhn Mln Mat Mit) ∧
  ((¬ Mln ≤ Mat) →
    wp_X6_readsRider (fun r_13 Mat_11 Mit_12 =>
      ((r_13 = 0) →
        wp_X6_read_100 P Mpd Mst Mhi Mhn Mln Mat_11 Mit_12) ∧
      ((¬ r_13 = 0) →
        wp_X6_add (fun Mst_19 =>
          r41 Mst_19 (Mat_11 + (1 : Int32)) Mit_12) Mst (Mit_12 (0 : Int32).toNatClampNeg) (Mit_12 (1 : Int32).toNatClampNeg) (Mit_12 (2 : Int32).toNatClampNeg) (Mit_12 (3 : Int32).toNatClampNeg))) Mpd Mln Mat Mit)
def wp_X6_read_41 (P : Int32 → (Nat → Int32) → (Nat → Int32) → Int32 → Int32 → Int32 → (Nat → Int32) → Prop) (Mpd : Nat → Int32) (Mhi : Nat → Int32) (Mhn : Int32) (Mln : Int32) : Nat → (Nat → Int32) → Int32 → (Nat → Int32) → Prop
  | 0 => fun _ _ _ => False
  | n + 1 => wp_X6_read_41F P Mpd Mhi Mhn Mln (wp_X6_read_41 P Mpd Mhi Mhn Mln n)
def wp_X6_read (P : Int32 → (Nat → Int32) → (Nat → Int32) → Int32 → Int32 → Int32 → (Nat → Int32) → Prop) (Mst : Nat → Int32) (Mhi : Nat → Int32) (Mhn : Int32) (Mpd : Nat → Int32) (Mln : Int32) (Mat : Int32) (Mit : Nat → Int32) : Prop :=
  wp_X6_findFault (fun r_3 Mat_1 Mit_2 =>
    ((r_3 = (-106 : Int32)) →
      wp_X6_ridersOfPad (fun r_6 =>
        ((((Mst (33 : Int32).toNatClampNeg) + r_6) ≤ (24 : Int32)) →
          wp_X6_record (fun Mhi_8 Mhn_9 =>
            ∃ n : Nat, wp_X6_read_41 P Mpd Mhi_8 Mhn_9 Mln n Mst (0 : Int32) Mit_2) Mst Mhi Mhn) ∧
        ((¬ ((Mst (33 : Int32).toNatClampNeg) + r_6) ≤ (24 : Int32)) →
          P (-104 : Int32) Mst Mhi Mhn Mln Mat_1 Mit_2)) Mpd Mln) ∧
    ((¬ r_3 = (-106 : Int32)) →
      P (-103 : Int32) Mst Mhi Mhn Mln Mat_1 Mit_2)) Mpd Mln Mat Mit
def wp_X6_fault (P : Int32 → Int32 → (Nat → Int32) → Prop) (Mpd : Nat → Int32) (Mln : Int32) (Mat : Int32) (Mit : Nat → Int32) : Prop :=
  wp_X6_findFault (fun r_3 Mat_1 Mit_2 =>
    P r_3 Mat_1 Mit_2) Mpd Mln Mat Mit
end
section
theorem hy_X5_isIn : g_hy yX5_isIn 3 := by decide +kernel
set_option maxHeartbeats 4000000 in
set_option maxRecDepth 100000 in
theorem c_X5_isIn {l : Launch} {D : va_G} {cI cR : ClassId}  {P : Int32 → Prop} (x0 : Int32) (x1 : Int32) (x2 : Int32) (h : wp_X5_isIn P x0 x1 x2) : CT l D cI cR yX5_isIn cX5_isIn 3 (some .boolean) ({ frames := 0, cells := 0, slots := 0, locals := 0 } : Room) [.int x0, .int x1, .int x2] (fl ([] : List va_W)) (fun _ : Unit => (fl ([] : List va_W))) (pI (fun (r : Int32) (_ : Unit) => P r)) 0 0 := by
  refine ct_of RX5 rfl (by decide +kernel) (Nat.le_of_ble_eq_true rfl) (fun zp ze zs zm zb zt zc A hin κ => ?_)
  unfold wp_X5_isIn at h
  refine gw_nf (lv' := [(0, .int x0), (1, .int x1), (2, .int x2)]) (pc' := 0) (st' := []) (ce' := 0) (sl' := 0) rfl rfl rfl rfl rfl rfl ?_
  refine gw_iload_n (pc' := 1) κ dX5_isIn_0 rfl 0 rfl rfl ?_
  refine gw_iload_n (pc' := 2) κ dX5_isIn_1 rfl 1 rfl rfl ?_
  refine gw_icmp_lt (pc' := 5) (tgt := 14) κ dX5_isIn_2 rfl (by decide) (fun hc_1 => ?_) (fun hc_1 => ?_)
  · have h := h.1 hc_1
    refine gw_iconst (pc' := 15) (v := 0) κ dX5_isIn_14 rfl (by decide) ?_
    exact gw_zret κ dX5_isIn_15 () rfl rfl ⟨_, rfl, h⟩
  · have h := h.2 hc_1
    refine gw_iload_n (pc' := 6) κ dX5_isIn_5 rfl 0 rfl rfl ?_
    refine gw_iload_n (pc' := 7) κ dX5_isIn_6 rfl 2 rfl rfl ?_
    refine gw_icmp_gt (pc' := 10) (tgt := 14) κ dX5_isIn_7 rfl (by decide) (fun hc_2 => ?_) (fun hc_2 => ?_)
    · have h := h.1 hc_2
      refine gw_iconst (pc' := 15) (v := 0) κ dX5_isIn_14 rfl (by decide) ?_
      exact gw_zret κ dX5_isIn_15 () rfl rfl ⟨_, rfl, h⟩
    · have h := h.2 hc_2
      refine gw_iconst (pc' := 11) (v := 1) κ dX5_isIn_10 rfl (by decide) ?_
      refine gw_goto (tgt := 15) κ dX5_isIn_11 (by decide) ?_
      exact gw_zret κ dX5_isIn_15 () rfl rfl ⟨_, rfl, h⟩
end
section
theorem hy_X3_flightReady : g_hy yX3_flightReady 1 := by decide +kernel
set_option maxHeartbeats 4000000 in
set_option maxRecDepth 100000 in
theorem c_X3_flightReady {l : Launch} {D : va_G} {cI cR : ClassId}  (qa : Nat → Nat) {P : Int32 → Prop} (o0 : StT) (x1 : Int32) (h : wp_X3_flightReady P o0 x1) : CT l D cI cR yX3_flightReady cX3_flightReady 2 (some .int) ({ frames := 0, cells := 0, slots := 0, locals := 0 } : Room) [.ref (qa 0), .int x1] (fl [cSt qa cI o0.se o0.la o0.de o0.le o0.sa o0.fl o0.ar o0.dr o0.pe o0.ri]) (fun _ : Unit => (fl [cSt qa cI o0.se o0.la o0.de o0.le o0.sa o0.fl o0.ar o0.dr o0.pe o0.ri])) (pI (fun (r : Int32) (_ : Unit) => P r)) 0 0 := by
  refine ct_of RX3 rfl (by decide +kernel) (Nat.le_of_ble_eq_true rfl) (fun zp ze zs zm zb zt zc A hin κ => ?_)
  unfold wp_X3_flightReady at h
  refine gw_nf (lv' := [(0, .ref (qa 0)), (1, .int x1)]) (pc' := 0) (st' := []) (ce' := 0) (sl' := 0) rfl rfl rfl rfl rfl rfl ?_
  refine gw_aload_n (pc' := 1) κ dX3_flightReady_0 rfl 0 rfl rfl ?_
  refine gb_get (pc' := 4) (C := RX3) (T := TX3) (N := 10) κ dX3_flightReady_1 rfl inX3 0 rfl rfl rfl 1 (by decide) tw_fl_X3_15 rfl ?_
  refine gw_iload_n (pc' := 5) κ dX3_flightReady_4 rfl 1 rfl rfl ?_
  obtain ⟨hb_1, h⟩ := h
  refine gb_iald (pc' := 6) κ dX3_flightReady_5 rfl 0 2 rfl rfl hb_1 ?_
  refine gw_aload_n (pc' := 7) κ dX3_flightReady_6 rfl 0 rfl rfl ?_
  refine gb_get (pc' := 10) (C := RX3) (T := TX3) (N := 10) κ dX3_flightReady_7 rfl inX3 0 rfl rfl rfl 2 (by decide) tw_fl_X3_18 rfl ?_
  refine gw_iload_n (pc' := 11) κ dX3_flightReady_10 rfl 1 rfl rfl ?_
  obtain ⟨hb_2, h⟩ := h
  refine gb_iald (pc' := 12) κ dX3_flightReady_11 rfl 0 3 rfl rfl hb_2 ?_
  refine gw_iadd (pc' := 13) κ dX3_flightReady_12 rfl  ?_
  refine gw_aload_n (pc' := 14) κ dX3_flightReady_13 rfl 0 rfl rfl ?_
  refine gb_get (pc' := 17) (C := RX3) (T := TX3) (N := 10) κ dX3_flightReady_14 rfl inX3 0 rfl rfl rfl 0 (by decide) tw_fl_X3_9 rfl ?_
  refine gw_iconst (pc' := 18) (v := 0) κ dX3_flightReady_17 rfl (by decide) ?_
  refine gb_iald (pc' := 19) κ dX3_flightReady_18 rfl 0 1 rfl rfl (by unfold vp_in; decide) ?_
  refine gw_iadd (pc' := 20) κ dX3_flightReady_19 rfl  ?_
  exact gw_iret κ dX3_flightReady_20 () rfl ⟨_, rfl, h⟩
end
section
theorem hy_X3_riderReady : g_hy yX3_riderReady 1 := by decide +kernel
set_option maxHeartbeats 4000000 in
set_option maxRecDepth 100000 in
theorem c_X3_riderReady {l : Launch} {D : va_G} {cI cR : ClassId}  (qa : Nat → Nat) {P : Int32 → Prop} (o0 : StT) (x1 : Int32) (h : wp_X3_riderReady P o0 x1) : CT l D cI cR yX3_riderReady cX3_riderReady 2 (some .int) ({ frames := 1, cells := 0, slots := 0, locals := 21 } : Room) [.ref (qa 0), .int x1] (fl [cSt qa cI o0.se o0.la o0.de o0.le o0.sa o0.fl o0.ar o0.dr o0.pe o0.ri]) (fun _ : Unit => (fl [cSt qa cI o0.se o0.la o0.de o0.le o0.sa o0.fl o0.ar o0.dr o0.pe o0.ri])) (pI (fun (r : Int32) (_ : Unit) => P r)) 0 0 := by
  refine ct_of RX3 rfl (by decide +kernel) (Nat.le_of_ble_eq_true rfl) (fun zp ze zs zm zb zt zc A hin κ => ?_)
  unfold wp_X3_riderReady at h
  refine gw_nf (lv' := [(0, .ref (qa 0)), (1, .int x1)]) (pc' := 0) (st' := []) (ce' := 0) (sl' := 0) rfl rfl rfl rfl rfl rfl ?_
  refine gw_aload_n (pc' := 1) κ dX3_riderReady_0 rfl 0 rfl rfl ?_
  refine gw_aload_n (pc' := 2) κ dX3_riderReady_1 rfl 0 rfl rfl ?_
  refine gb_get (pc' := 5) (C := RX3) (T := TX3) (N := 10) κ dX3_riderReady_2 rfl inX3 0 rfl rfl rfl 5 (by decide) tw_fl_X3_27 rfl ?_
  refine gw_iload_n (pc' := 6) κ dX3_riderReady_5 rfl 1 rfl rfl ?_
  obtain ⟨hb_1, h⟩ := h
  refine gb_iald (pc' := 7) κ dX3_riderReady_6 rfl 0 6 rfl rfl hb_1 ?_
  refine gb_callV (ci := 3) (qb := 0) (rest := []) κ (c_X3_flightReady qa o0 (o0.fl x1.toNatClampNeg) h) ⟨rfl, rfl, Nat.le_of_ble_eq_true rfl, Nat.le_of_ble_eq_true rfl⟩ tw_ml_X3_52 tw_im_X3_flightReady tw_se_X3_flightReady tw_co_X3_flightReady tw_in_X3 hy_X3_flightReady rfl rfl rfl rfl rfl (Nat.le_of_ble_eq_true rfl) rfl dX3_riderReady_7 [0] rfl (by decide) (fun _ => Nat.le_of_ble_eq_true rfl) ⟨Nat.le_of_ble_eq_true rfl, Nat.le_of_ble_eq_true rfl⟩ (fun v u hv => ?_)
  obtain ⟨r_2, rfl, h⟩ := hv
  refine gw_nf (ws' := (fl [cSt qa cI o0.se o0.la o0.de o0.le o0.sa o0.fl o0.ar o0.dr o0.pe o0.ri])) (lv' := [(0, .ref (qa 0)), (1, .int x1)]) (st' := [.int r_2]) (pc' := 10) (ce' := 0) (sl' := 0) rfl rfl rfl rfl rfl rfl ?_
  exact gw_iret κ dX3_riderReady_10 () rfl ⟨_, rfl, h⟩
end
section
theorem hy_X2_lineUp : g_hy yX2_lineUp 1 := by decide +kernel
set_option maxHeartbeats 4000000 in
set_option maxRecDepth 100000 in
theorem k_X2_lineUp_69 {zp : Program} {l : Launch} {ze : Env} {zs : State} {zm : MethodId} {za : Array Value} {zb : List Frame} {zt : Method} {zc : Code} {D : va_G} {cI cR : ClassId} {A : Nat → Prop} (κ : KC zp zs zm za zt zc cX2_lineUp 4 RX2 D cI cR A none) (qa : Nat → Nat) (qb : Nat → Nat) (P : (Nat → Int32) → (Nat → Int32) → Prop) (o0 : PlT) (o1 : StT) (r2 : Int32 → (Nat → Int32) → (Nat → Int32) → Prop) (v2 : Int32) (v3 : Int32) (od : Nat → Int32) (rd : Nat → Int32) (hr2 : ∀ (v2 : Int32) (od : Nat → Int32) (rd : Nat → Int32), r2 v2 od rd → GM zp l ze ({ frames := 2, cells := 0, slots := 0, locals := 42 } : Room) zs zm za zb zt zc D A 4 (pV (fun (u : (Nat → Int32) × (Nat → Int32)) => P u.1 u.2)) (fun u : (Nat → Int32) × (Nat → Int32) => (fl [cPl qa cI u.1 u.2 o0.vn o0.pn o0.ao o0.sr o0.sp o0.wt, cSt qb cI o1.se o1.la o1.de o1.le o1.sa o1.fl o1.ar o1.dr o1.pe o1.ri])) 0 0 0 0 (fl [cPl qa cI od rd o0.vn o0.pn o0.ao o0.sr o0.sp o0.wt, cSt qb cI o1.se o1.la o1.de o1.le o1.sa o1.fl o1.ar o1.dr o1.pe o1.ri]) [(0, .ref (qa 0)), (1, .ref (qb 0)), (2, .int v2)] 2 []) (h : wp_X2_lineUp_69 P o0 o1 r2 v2 v3 od rd) : GM zp l ze ({ frames := 2, cells := 0, slots := 0, locals := 42 } : Room) zs zm za zb zt zc D A 4 (pV (fun (u : (Nat → Int32) × (Nat → Int32)) => P u.1 u.2)) (fun u : (Nat → Int32) × (Nat → Int32) => (fl [cPl qa cI u.1 u.2 o0.vn o0.pn o0.ao o0.sr o0.sp o0.wt, cSt qb cI o1.se o1.la o1.de o1.le o1.sa o1.fl o1.ar o1.dr o1.pe o1.ri])) 0 0 0 0 (fl [cPl qa cI od rd o0.vn o0.pn o0.ao o0.sr o0.sp o0.wt, cSt qb cI o1.se o1.la o1.de o1.le o1.sa o1.fl o1.ar o1.dr o1.pe o1.ri]) [(0, .ref (qa 0)), (1, .ref (qb 0)), (2, .int v2), (3, .int v3)] 69 [] := by
  unfold wp_X2_lineUp_69 at h
  refine gw_aload_n (pc' := 70) κ dX2_lineUp_69 rfl 0 rfl rfl ?_
  refine gb_get (pc' := 73) (C := RX2) (T := TX2) (N := 8) κ dX2_lineUp_70 rfl inX2 0 rfl rfl rfl 0 (by decide) tw_fl_X2_9 rfl ?_
  refine gw_iload_n (pc' := 74) κ dX2_lineUp_73 rfl 3 rfl rfl ?_
  refine gw_iload_n (pc' := 75) κ dX2_lineUp_74 rfl 2 rfl rfl ?_
  obtain ⟨hb_11, h⟩ := h
  refine gb_iast (pc' := 76) (bs' := [cPl qa cI (upd od v3.toNatClampNeg v2) rd o0.vn o0.pn o0.ao o0.sr o0.sp o0.wt, cSt qb cI o1.se o1.la o1.de o1.le o1.sa o1.fl o1.ar o1.dr o1.pe o1.ri]) κ dX2_lineUp_75 rfl 0 1 rfl rfl hb_11 rfl ?_
  refine gw_iinc (pc' := 79) κ dX2_lineUp_76 rfl 2 rfl (v := (v2 + 1)) rfl (by decide) (lv' := [(2, .int (v2 + 1)), (0, .ref (qa 0)), (1, .ref (qb 0)), (3, .int v3)]) rfl ?_
  refine gw_goto (tgt := 2) κ dX2_lineUp_79 (by decide) ?_
  refine gw_lv (lv' := [(0, .ref (qa 0)), (1, .ref (qb 0)), (2, .int (v2 + 1))]) [1, 2, 0] rfl ?_
  exact hr2 (v2 + 1) (upd od v3.toNatClampNeg v2) rd h
set_option maxHeartbeats 4000000 in
set_option maxRecDepth 100000 in
theorem k_X2_lineUp_23 {zp : Program} {l : Launch} {ze : Env} {zs : State} {zm : MethodId} {za : Array Value} {zb : List Frame} {zt : Method} {zc : Code} {D : va_G} {cI cR : ClassId} {A : Nat → Prop} (κ : KC zp zs zm za zt zc cX2_lineUp 4 RX2 D cI cR A none) (qa : Nat → Nat) (qb : Nat → Nat) (P : (Nat → Int32) → (Nat → Int32) → Prop) (o0 : PlT) (o1 : StT) (r2 : Int32 → (Nat → Int32) → (Nat → Int32) → Prop) (v2 : Int32) (rd : Nat → Int32) (hr2 : ∀ (v2 : Int32) (od : Nat → Int32) (rd : Nat → Int32), r2 v2 od rd → GM zp l ze ({ frames := 2, cells := 0, slots := 0, locals := 42 } : Room) zs zm za zb zt zc D A 4 (pV (fun (u : (Nat → Int32) × (Nat → Int32)) => P u.1 u.2)) (fun u : (Nat → Int32) × (Nat → Int32) => (fl [cPl qa cI u.1 u.2 o0.vn o0.pn o0.ao o0.sr o0.sp o0.wt, cSt qb cI o1.se o1.la o1.de o1.le o1.sa o1.fl o1.ar o1.dr o1.pe o1.ri])) 0 0 0 0 (fl [cPl qa cI od rd o0.vn o0.pn o0.ao o0.sr o0.sp o0.wt, cSt qb cI o1.se o1.la o1.de o1.le o1.sa o1.fl o1.ar o1.dr o1.pe o1.ri]) [(0, .ref (qa 0)), (1, .ref (qb 0)), (2, .int v2)] 2 []) : ∀ (n : Nat) (v3 : Int32) (od : Nat → Int32), wp_X2_lineUp_23 P o0 o1 r2 v2 rd n v3 od → GM zp l ze ({ frames := 2, cells := 0, slots := 0, locals := 42 } : Room) zs zm za zb zt zc D A 4 (pV (fun (u : (Nat → Int32) × (Nat → Int32)) => P u.1 u.2)) (fun u : (Nat → Int32) × (Nat → Int32) => (fl [cPl qa cI u.1 u.2 o0.vn o0.pn o0.ao o0.sr o0.sp o0.wt, cSt qb cI o1.se o1.la o1.de o1.le o1.sa o1.fl o1.ar o1.dr o1.pe o1.ri])) 0 0 0 0 (fl [cPl qa cI od rd o0.vn o0.pn o0.ao o0.sr o0.sp o0.wt, cSt qb cI o1.se o1.la o1.de o1.le o1.sa o1.fl o1.ar o1.dr o1.pe o1.ri]) [(0, .ref (qa 0)), (1, .ref (qb 0)), (2, .int v2), (3, .int v3)] 23 [] := by
  intro n23
  induction n23 with
  | zero => intro v3 od h; exact (show False from h).elim
  | succ n23 ih23 =>
    intro v3 od h
    have h : wp_X2_lineUp_23F P o0 o1 r2 v2 rd (wp_X2_lineUp_23 P o0 o1 r2 v2 rd n23) v3 od := h
    unfold wp_X2_lineUp_23F at h
    refine gw_iload_n (pc' := 24) κ dX2_lineUp_23 rfl 3 rfl rfl ?_
    refine gw_if_le (pc' := 27) (tgt := 69) κ dX2_lineUp_24 rfl (by decide) (fun hc_4 => ?_) (fun hc_4 => ?_)
    · have h := h.1 hc_4
      refine gw_lv (lv' := [(0, .ref (qa 0)), (1, .ref (qb 0)), (2, .int v2), (3, .int v3)]) [0, 1, 2, 3] rfl ?_
      exact k_X2_lineUp_69 κ qa qb P o0 o1 r2 v2 v3 od rd hr2 h
    · have h := h.2 hc_4
      refine gw_aload_n (pc' := 28) κ dX2_lineUp_27 rfl 0 rfl rfl ?_
      refine gb_get (pc' := 31) (C := RX2) (T := TX2) (N := 8) κ dX2_lineUp_28 rfl inX2 0 rfl rfl rfl 1 (by decide) tw_fl_X2_15 rfl ?_
      refine gw_aload_n (pc' := 32) κ dX2_lineUp_31 rfl 0 rfl rfl ?_
      refine gb_get (pc' := 35) (C := RX2) (T := TX2) (N := 8) κ dX2_lineUp_32 rfl inX2 0 rfl rfl rfl 0 (by decide) tw_fl_X2_9 rfl ?_
      refine gw_iload_n (pc' := 36) κ dX2_lineUp_35 rfl 3 rfl rfl ?_
      refine gw_iconst (pc' := 37) (v := 1) κ dX2_lineUp_36 rfl (by decide) ?_
      refine gw_isub (pc' := 38) κ dX2_lineUp_37 rfl  ?_
      obtain ⟨hb_5, h⟩ := h
      refine gb_iald (pc' := 39) κ dX2_lineUp_38 rfl 0 1 rfl rfl hb_5 ?_
      obtain ⟨hb_6, h⟩ := h
      refine gb_iald (pc' := 40) κ dX2_lineUp_39 rfl 0 2 rfl rfl hb_6 ?_
      refine gw_aload_n (pc' := 41) κ dX2_lineUp_40 rfl 0 rfl rfl ?_
      refine gb_get (pc' := 44) (C := RX2) (T := TX2) (N := 8) κ dX2_lineUp_41 rfl inX2 0 rfl rfl rfl 1 (by decide) tw_fl_X2_15 rfl ?_
      refine gw_iload_n (pc' := 45) κ dX2_lineUp_44 rfl 2 rfl rfl ?_
      obtain ⟨hb_7, h⟩ := h
      refine gb_iald (pc' := 46) κ dX2_lineUp_45 rfl 0 2 rfl rfl hb_7 ?_
      refine gw_icmp_le (pc' := 49) (tgt := 69) κ dX2_lineUp_46 rfl (by decide) (fun hc_8 => ?_) (fun hc_8 => ?_)
      · have h := h.1 hc_8
        refine gw_lv (lv' := [(0, .ref (qa 0)), (1, .ref (qb 0)), (2, .int v2), (3, .int v3)]) [0, 1, 2, 3] rfl ?_
        exact k_X2_lineUp_69 κ qa qb P o0 o1 r2 v2 v3 od rd hr2 h
      · have h := h.2 hc_8
        refine gw_aload_n (pc' := 50) κ dX2_lineUp_49 rfl 0 rfl rfl ?_
        refine gb_get (pc' := 53) (C := RX2) (T := TX2) (N := 8) κ dX2_lineUp_50 rfl inX2 0 rfl rfl rfl 0 (by decide) tw_fl_X2_9 rfl ?_
        refine gw_iload_n (pc' := 54) κ dX2_lineUp_53 rfl 3 rfl rfl ?_
        refine gw_aload_n (pc' := 55) κ dX2_lineUp_54 rfl 0 rfl rfl ?_
        refine gb_get (pc' := 58) (C := RX2) (T := TX2) (N := 8) κ dX2_lineUp_55 rfl inX2 0 rfl rfl rfl 0 (by decide) tw_fl_X2_9 rfl ?_
        refine gw_iload_n (pc' := 59) κ dX2_lineUp_58 rfl 3 rfl rfl ?_
        refine gw_iconst (pc' := 60) (v := 1) κ dX2_lineUp_59 rfl (by decide) ?_
        refine gw_isub (pc' := 61) κ dX2_lineUp_60 rfl  ?_
        obtain ⟨hb_9, h⟩ := h
        refine gb_iald (pc' := 62) κ dX2_lineUp_61 rfl 0 1 rfl rfl hb_9 ?_
        obtain ⟨hb_10, h⟩ := h
        refine gb_iast (pc' := 63) (bs' := [cPl qa cI (upd od v3.toNatClampNeg (od (v3 - (1 : Int32)).toNatClampNeg)) rd o0.vn o0.pn o0.ao o0.sr o0.sp o0.wt, cSt qb cI o1.se o1.la o1.de o1.le o1.sa o1.fl o1.ar o1.dr o1.pe o1.ri]) κ dX2_lineUp_62 rfl 0 1 rfl rfl hb_10 rfl ?_
        refine gw_iinc (pc' := 66) κ dX2_lineUp_63 rfl 3 rfl (v := (v3 + (-1))) rfl (by decide) (lv' := [(3, .int (v3 + (-1))), (0, .ref (qa 0)), (1, .ref (qb 0)), (2, .int v2)]) rfl ?_
        refine gw_goto (tgt := 23) κ dX2_lineUp_66 (by decide) ?_
        refine gw_lv (lv' := [(0, .ref (qa 0)), (1, .ref (qb 0)), (2, .int v2), (3, .int (v3 + (-1)))]) [1, 2, 3, 0] rfl ?_
        exact ih23 (v3 + (-1)) (upd od v3.toNatClampNeg (od (v3 - (1 : Int32)).toNatClampNeg)) h
set_option maxHeartbeats 4000000 in
set_option maxRecDepth 100000 in
theorem k_X2_lineUp_2 {zp : Program} {l : Launch} {ze : Env} {zs : State} {zm : MethodId} {za : Array Value} {zb : List Frame} {zt : Method} {zc : Code} {D : va_G} {cI cR : ClassId} {A : Nat → Prop} (κ : KC zp zs zm za zt zc cX2_lineUp 4 RX2 D cI cR A none) (qa : Nat → Nat) (qb : Nat → Nat) (P : (Nat → Int32) → (Nat → Int32) → Prop) (o0 : PlT) (o1 : StT) : ∀ (n : Nat) (v2 : Int32) (od : Nat → Int32) (rd : Nat → Int32), wp_X2_lineUp_2 P o0 o1 n v2 od rd → GM zp l ze ({ frames := 2, cells := 0, slots := 0, locals := 42 } : Room) zs zm za zb zt zc D A 4 (pV (fun (u : (Nat → Int32) × (Nat → Int32)) => P u.1 u.2)) (fun u : (Nat → Int32) × (Nat → Int32) => (fl [cPl qa cI u.1 u.2 o0.vn o0.pn o0.ao o0.sr o0.sp o0.wt, cSt qb cI o1.se o1.la o1.de o1.le o1.sa o1.fl o1.ar o1.dr o1.pe o1.ri])) 0 0 0 0 (fl [cPl qa cI od rd o0.vn o0.pn o0.ao o0.sr o0.sp o0.wt, cSt qb cI o1.se o1.la o1.de o1.le o1.sa o1.fl o1.ar o1.dr o1.pe o1.ri]) [(0, .ref (qa 0)), (1, .ref (qb 0)), (2, .int v2)] 2 [] := by
  intro n2
  induction n2 with
  | zero => intro v2 od rd h; exact (show False from h).elim
  | succ n2 ih2 =>
    intro v2 od rd h
    have h : wp_X2_lineUp_2F P o0 o1 (wp_X2_lineUp_2 P o0 o1 n2) v2 od rd := h
    unfold wp_X2_lineUp_2F at h
    refine gw_iload_n (pc' := 3) κ dX2_lineUp_2 rfl 2 rfl rfl ?_
    refine gw_aload_n (pc' := 4) κ dX2_lineUp_3 rfl 1 rfl rfl ?_
    refine gb_get (pc' := 7) (C := RX3) (T := TX3) (N := 10) κ dX2_lineUp_4 rfl inX3 1 rfl rfl rfl 9 (by decide) tw_fl_X2_34 rfl ?_
    refine gw_icmp_ge (pc' := 10) (tgt := 82) κ dX2_lineUp_7 rfl (by decide) (fun hc_1 => ?_) (fun hc_1 => ?_)
    · have h := h.1 hc_1
      exact gw_vret κ dX2_lineUp_82 (od, rd) rfl ⟨rfl, h⟩
    · have h := h.2 hc_1
      refine gw_aload_n (pc' := 11) κ dX2_lineUp_10 rfl 0 rfl rfl ?_
      refine gb_get (pc' := 14) (C := RX2) (T := TX2) (N := 8) κ dX2_lineUp_11 rfl inX2 0 rfl rfl rfl 1 (by decide) tw_fl_X2_15 rfl ?_
      refine gw_iload_n (pc' := 15) κ dX2_lineUp_14 rfl 2 rfl rfl ?_
      refine gw_aload_n (pc' := 16) κ dX2_lineUp_15 rfl 1 rfl rfl ?_
      refine gw_iload_n (pc' := 17) κ dX2_lineUp_16 rfl 2 rfl rfl ?_
      refine gb_callV (ci := 3) (qb := 1) (rest := [.int v2, .ref (qa 2)]) κ (c_X3_riderReady qb o1 v2 h) ⟨rfl, rfl, Nat.le_of_ble_eq_true rfl, Nat.le_of_ble_eq_true rfl⟩ tw_ml_X2_40 tw_im_X3_riderReady tw_se_X3_riderReady tw_co_X3_riderReady tw_in_X3 hy_X3_riderReady rfl rfl rfl rfl rfl (Nat.le_of_ble_eq_true rfl) rfl dX2_lineUp_17 [1] rfl (by decide) (fun _ => Nat.le_of_ble_eq_true rfl) ⟨Nat.le_of_ble_eq_true rfl, Nat.le_of_ble_eq_true rfl⟩ (fun v u hv => ?_)
      obtain ⟨r_2, rfl, h⟩ := hv
      refine gw_nf (ws' := (fl [cPl qa cI od rd o0.vn o0.pn o0.ao o0.sr o0.sp o0.wt, cSt qb cI o1.se o1.la o1.de o1.le o1.sa o1.fl o1.ar o1.dr o1.pe o1.ri])) (lv' := [(0, .ref (qa 0)), (1, .ref (qb 0)), (2, .int v2)]) (st' := [.int r_2, .int v2, .ref (qa 2)]) (pc' := 20) (ce' := 0) (sl' := 0) rfl rfl rfl rfl rfl rfl ?_
      obtain ⟨hb_3, h⟩ := h
      refine gb_iast (pc' := 21) (bs' := [cPl qa cI od (upd rd v2.toNatClampNeg r_2) o0.vn o0.pn o0.ao o0.sr o0.sp o0.wt, cSt qb cI o1.se o1.la o1.de o1.le o1.sa o1.fl o1.ar o1.dr o1.pe o1.ri]) κ dX2_lineUp_20 rfl 0 2 rfl rfl hb_3 rfl ?_
      refine gw_iload_n (pc' := 22) κ dX2_lineUp_21 rfl 2 rfl rfl ?_
      refine gw_istore_n (pc' := 23) κ dX2_lineUp_22 rfl rfl (by decide) (lv' := [(3, .int v2), (0, .ref (qa 0)), (1, .ref (qb 0)), (2, .int v2)]) rfl ?_
      obtain ⟨m23, h⟩ := h
      refine gw_lv (lv' := [(0, .ref (qa 0)), (1, .ref (qb 0)), (2, .int v2), (3, .int v2)]) [1, 2, 3, 0] rfl ?_
      exact k_X2_lineUp_23 κ qa qb P o0 o1 (wp_X2_lineUp_2 P o0 o1 n2) v2 (upd rd v2.toNatClampNeg r_2) ih2 m23 v2 od h
set_option maxHeartbeats 4000000 in
set_option maxRecDepth 100000 in
theorem c_X2_lineUp {l : Launch} {D : va_G} {cI cR : ClassId}  (qa : Nat → Nat) (qb : Nat → Nat) {P : (Nat → Int32) → (Nat → Int32) → Prop} (o0 : PlT) (o1 : StT) (h : wp_X2_lineUp P o0 o1) : CT l D cI cR yX2_lineUp cX2_lineUp 4 none ({ frames := 2, cells := 0, slots := 0, locals := 42 } : Room) [.ref (qa 0), .ref (qb 0)] (fl [cPl qa cI o0.od o0.rd o0.vn o0.pn o0.ao o0.sr o0.sp o0.wt, cSt qb cI o1.se o1.la o1.de o1.le o1.sa o1.fl o1.ar o1.dr o1.pe o1.ri]) (fun u : (Nat → Int32) × (Nat → Int32) => (fl [cPl qa cI u.1 u.2 o0.vn o0.pn o0.ao o0.sr o0.sp o0.wt, cSt qb cI o1.se o1.la o1.de o1.le o1.sa o1.fl o1.ar o1.dr o1.pe o1.ri])) (pV (fun (u : (Nat → Int32) × (Nat → Int32)) => P u.1 u.2)) 0 0 := by
  refine ct_of RX2 rfl (by decide +kernel) (Nat.le_of_ble_eq_true rfl) (fun zp ze zs zm zb zt zc A hin κ => ?_)
  unfold wp_X2_lineUp at h
  refine gw_nf (lv' := [(0, .ref (qa 0)), (1, .ref (qb 0))]) (pc' := 0) (st' := []) (ce' := 0) (sl' := 0) rfl rfl rfl rfl rfl rfl ?_
  refine gw_iconst (pc' := 1) (v := 0) κ dX2_lineUp_0 rfl (by decide) ?_
  refine gw_istore_n (pc' := 2) κ dX2_lineUp_1 rfl rfl (by decide) (lv' := [(2, .int (0 : Int32)), (0, .ref (qa 0)), (1, .ref (qb 0))]) rfl ?_
  obtain ⟨m2, h⟩ := h
  refine gw_lv (lv' := [(0, .ref (qa 0)), (1, .ref (qb 0)), (2, .int (0 : Int32))]) [1, 2, 0] rfl ?_
  exact k_X2_lineUp_2 κ qa qb P o0 o1 m2 (0 : Int32) o0.od o0.rd h
end
section
theorem hy_J6_bitCount_0f7a4 : g_hy yJ6_bitCount_0f7a4 1 := by decide +kernel
set_option maxHeartbeats 4000000 in
set_option maxRecDepth 100000 in
theorem c_J6_bitCount_0f7a4 {l : Launch} {D : va_G} {cI cR : ClassId}  {P : Int32 → Prop} (x0 : Int32) (h : wp_J6_bitCount_0f7a4 P x0) : CT l D cI cR yJ6_bitCount_0f7a4 cJ6_bitCount_0f7a4 1 (some .int) ({ frames := 0, cells := 0, slots := 0, locals := 0 } : Room) [.int x0] (fl ([] : List va_W)) (fun _ : Unit => (fl ([] : List va_W))) (pI (fun (r : Int32) (_ : Unit) => P r)) 0 0 := by
  refine ct_of RJ6 rfl (by decide +kernel) (Nat.le_of_ble_eq_true rfl) (fun zp ze zs zm zb zt zc A hin κ => ?_)
  unfold wp_J6_bitCount_0f7a4 at h
  refine gw_nf (lv' := [(0, .int x0)]) (pc' := 0) (st' := []) (ce' := 0) (sl' := 0) rfl rfl rfl rfl rfl rfl ?_
  refine gw_iload_n (pc' := 1) κ dJ6_bitCount_0f7a4_0 rfl 0 rfl rfl ?_
  refine gw_iload_n (pc' := 2) κ dJ6_bitCount_0f7a4_1 rfl 0 rfl rfl ?_
  refine gw_iconst (pc' := 3) (v := 1) κ dJ6_bitCount_0f7a4_2 rfl (by decide) ?_
  refine gw_iushr (pc' := 4) κ dJ6_bitCount_0f7a4_3 rfl  ?_
  refine gw_ldcw (pc' := 7) κ dJ6_bitCount_0f7a4_4 rfl tw_ct_J6_265 ?_
  refine gw_iand (pc' := 8) κ dJ6_bitCount_0f7a4_7 rfl  ?_
  refine gw_isub (pc' := 9) κ dJ6_bitCount_0f7a4_8 rfl  ?_
  refine gw_top (fun y_1 hy_1 => ?_)
  have h := h y_1 hy_1
  refine gw_istore_n (pc' := 10) κ dJ6_bitCount_0f7a4_9 rfl rfl (by decide) (lv' := [(0, .int y_1)]) rfl ?_
  refine gw_iload_n (pc' := 11) κ dJ6_bitCount_0f7a4_10 rfl 0 rfl rfl ?_
  refine gw_ldcw (pc' := 14) κ dJ6_bitCount_0f7a4_11 rfl tw_ct_J6_266 ?_
  refine gw_iand (pc' := 15) κ dJ6_bitCount_0f7a4_14 rfl  ?_
  refine gw_iload_n (pc' := 16) κ dJ6_bitCount_0f7a4_15 rfl 0 rfl rfl ?_
  refine gw_iconst (pc' := 17) (v := 2) κ dJ6_bitCount_0f7a4_16 rfl (by decide) ?_
  refine gw_iushr (pc' := 18) κ dJ6_bitCount_0f7a4_17 rfl  ?_
  refine gw_ldcw (pc' := 21) κ dJ6_bitCount_0f7a4_18 rfl tw_ct_J6_266 ?_
  refine gw_iand (pc' := 22) κ dJ6_bitCount_0f7a4_21 rfl  ?_
  refine gw_iadd (pc' := 23) κ dJ6_bitCount_0f7a4_22 rfl  ?_
  refine gw_top (fun y_2 hy_2 => ?_)
  have h := h y_2 hy_2
  refine gw_istore_n (pc' := 24) κ dJ6_bitCount_0f7a4_23 rfl rfl (by decide) (lv' := [(0, .int y_2)]) rfl ?_
  refine gw_iload_n (pc' := 25) κ dJ6_bitCount_0f7a4_24 rfl 0 rfl rfl ?_
  refine gw_iload_n (pc' := 26) κ dJ6_bitCount_0f7a4_25 rfl 0 rfl rfl ?_
  refine gw_iconst (pc' := 27) (v := 4) κ dJ6_bitCount_0f7a4_26 rfl (by decide) ?_
  refine gw_iushr (pc' := 28) κ dJ6_bitCount_0f7a4_27 rfl  ?_
  refine gw_iadd (pc' := 29) κ dJ6_bitCount_0f7a4_28 rfl  ?_
  refine gw_ldcw (pc' := 32) κ dJ6_bitCount_0f7a4_29 rfl tw_ct_J6_267 ?_
  refine gw_iand (pc' := 33) κ dJ6_bitCount_0f7a4_32 rfl  ?_
  refine gw_top (fun y_3 hy_3 => ?_)
  have h := h y_3 hy_3
  refine gw_istore_n (pc' := 34) κ dJ6_bitCount_0f7a4_33 rfl rfl (by decide) (lv' := [(0, .int y_3)]) rfl ?_
  refine gw_iload_n (pc' := 35) κ dJ6_bitCount_0f7a4_34 rfl 0 rfl rfl ?_
  refine gw_iload_n (pc' := 36) κ dJ6_bitCount_0f7a4_35 rfl 0 rfl rfl ?_
  refine gw_bipush (pc' := 38) (v := 8) κ dJ6_bitCount_0f7a4_36 rfl (by decide) ?_
  refine gw_iushr (pc' := 39) κ dJ6_bitCount_0f7a4_38 rfl  ?_
  refine gw_iadd (pc' := 40) κ dJ6_bitCount_0f7a4_39 rfl  ?_
  refine gw_top (fun y_4 hy_4 => ?_)
  have h := h y_4 hy_4
  refine gw_istore_n (pc' := 41) κ dJ6_bitCount_0f7a4_40 rfl rfl (by decide) (lv' := [(0, .int y_4)]) rfl ?_
  refine gw_iload_n (pc' := 42) κ dJ6_bitCount_0f7a4_41 rfl 0 rfl rfl ?_
  refine gw_iload_n (pc' := 43) κ dJ6_bitCount_0f7a4_42 rfl 0 rfl rfl ?_
  refine gw_bipush (pc' := 45) (v := 16) κ dJ6_bitCount_0f7a4_43 rfl (by decide) ?_
  refine gw_iushr (pc' := 46) κ dJ6_bitCount_0f7a4_45 rfl  ?_
  refine gw_iadd (pc' := 47) κ dJ6_bitCount_0f7a4_46 rfl  ?_
  refine gw_top (fun y_5 hy_5 => ?_)
  have h := h y_5 hy_5
  refine gw_istore_n (pc' := 48) κ dJ6_bitCount_0f7a4_47 rfl rfl (by decide) (lv' := [(0, .int y_5)]) rfl ?_
  refine gw_iload_n (pc' := 49) κ dJ6_bitCount_0f7a4_48 rfl 0 rfl rfl ?_
  refine gw_bipush (pc' := 51) (v := 63) κ dJ6_bitCount_0f7a4_49 rfl (by decide) ?_
  refine gw_iand (pc' := 52) κ dJ6_bitCount_0f7a4_51 rfl  ?_
  exact gw_iret κ dJ6_bitCount_0f7a4_52 () rfl ⟨_, rfl, h⟩
end
section
theorem hy_X2_takes : g_hy yX2_takes 3 := by decide +kernel
set_option maxHeartbeats 4000000 in
set_option maxRecDepth 100000 in
theorem c_X2_takes {l : Launch} {D : va_G} {cI cR : ClassId}  (qa : Nat → Nat) (qb : Nat → Nat) {P : Int32 → Prop} (o0 : PlT) (o1 : StT) (x2 : Int32) (x3 : Int32) (h : wp_X2_takes P o0 o1 x2 x3) : CT l D cI cR yX2_takes cX2_takes 6 (some .boolean) ({ frames := 1, cells := 0, slots := 0, locals := 22 } : Room) [.ref (qa 0), .ref (qb 0), .int x2, .int x3] (fl [cPl qa cI o0.od o0.rd o0.vn o0.pn o0.ao o0.sr o0.sp o0.wt, cSt qb cI o1.se o1.la o1.de o1.le o1.sa o1.fl o1.ar o1.dr o1.pe o1.ri]) (fun _ : Unit => (fl [cPl qa cI o0.od o0.rd o0.vn o0.pn o0.ao o0.sr o0.sp o0.wt, cSt qb cI o1.se o1.la o1.de o1.le o1.sa o1.fl o1.ar o1.dr o1.pe o1.ri])) (pI (fun (r : Int32) (_ : Unit) => P r)) 0 0 := by
  refine ct_of RX2 rfl (by decide +kernel) (Nat.le_of_ble_eq_true rfl) (fun zp ze zs zm zb zt zc A hin κ => ?_)
  unfold wp_X2_takes at h
  refine gw_nf (lv' := [(0, .ref (qa 0)), (1, .ref (qb 0)), (2, .int x2), (3, .int x3)]) (pc' := 0) (st' := []) (ce' := 0) (sl' := 0) rfl rfl rfl rfl rfl rfl ?_
  refine gw_aload_n (pc' := 1) κ dX2_takes_0 rfl 1 rfl rfl ?_
  refine gb_get (pc' := 4) (C := RX3) (T := TX3) (N := 10) κ dX2_takes_1 rfl inX3 1 rfl rfl rfl 3 (by decide) tw_fl_X2_71 rfl ?_
  refine gw_iload_n (pc' := 5) κ dX2_takes_4 rfl 2 rfl rfl ?_
  obtain ⟨hb_1, h⟩ := h
  refine gb_iald (pc' := 6) κ dX2_takes_5 rfl 1 4 rfl rfl hb_1 ?_
  refine gw_aload_n (pc' := 7) κ dX2_takes_6 rfl 0 rfl rfl ?_
  refine gb_get (pc' := 10) (C := RX2) (T := TX2) (N := 8) κ dX2_takes_7 rfl inX2 0 rfl rfl rfl 1 (by decide) tw_fl_X2_15 rfl ?_
  refine gw_iload_n (pc' := 11) κ dX2_takes_10 rfl 3 rfl rfl ?_
  obtain ⟨hb_2, h⟩ := h
  refine gb_iald (pc' := 12) κ dX2_takes_11 rfl 0 2 rfl rfl hb_2 ?_
  refine gw_isub (pc' := 13) κ dX2_takes_12 rfl  ?_
  refine gw_top (fun y_3 hy_3 => ?_)
  have h := h y_3 hy_3
  refine gw_istore (pc' := 15) κ dX2_takes_13 rfl (by decide) (lv' := [(4, .int y_3), (0, .ref (qa 0)), (1, .ref (qb 0)), (2, .int x2), (3, .int x3)]) rfl ?_
  refine gw_iload (pc' := 17) κ dX2_takes_15 rfl 0 rfl ?_
  refine gw_iconst (pc' := 18) (v := 0) κ dX2_takes_17 rfl (by decide) ?_
  refine gw_aload_n (pc' := 19) κ dX2_takes_18 rfl 2 rfl rfl ?_
  refine gb_get (pc' := 22) (C := RX3) (T := TX3) (N := 10) κ dX2_takes_19 rfl inX3 1 rfl rfl rfl 0 (by decide) tw_fl_X2_78 rfl ?_
  refine gw_iconst (pc' := 23) (v := 1) κ dX2_takes_22 rfl (by decide) ?_
  refine gb_iald (pc' := 24) κ dX2_takes_23 rfl 1 1 rfl rfl (by unfold vp_in; decide) ?_
  refine gb_callSN (rest := []) κ (c_X5_isIn  y_3 (0 : Int32) (o1.se (1 : Int32).toNatClampNeg) h) ⟨rfl, rfl, Nat.le_of_ble_eq_true rfl, Nat.le_of_ble_eq_true rfl⟩ κ.2.2.2.1.2.2.2.2.2.2.2.1 tw_st_X5_isIn tw_co_X5_isIn tw_in_X5 hy_X5_isIn rfl (Nat.le_of_ble_eq_true rfl) rfl dX2_takes_24 [] rfl (by decide) (fun _ => Nat.le_of_ble_eq_true rfl) ⟨Nat.le_of_ble_eq_true rfl, Nat.le_of_ble_eq_true rfl⟩ (fun v u hv => ?_)
  obtain ⟨r_5, rfl, h⟩ := hv
  refine gw_nf (ws' := (fl [cPl qa cI o0.od o0.rd o0.vn o0.pn o0.ao o0.sr o0.sp o0.wt, cSt qb cI o1.se o1.la o1.de o1.le o1.sa o1.fl o1.ar o1.dr o1.pe o1.ri])) (lv' := [(4, .int y_3), (0, .ref (qa 0)), (1, .ref (qb 0)), (2, .int x2), (3, .int x3)]) (st' := [.int r_5]) (pc' := 27) (ce' := 0) (sl' := 0) rfl rfl rfl rfl rfl rfl ?_
  refine gw_if_ne (pc' := 30) (tgt := 32) κ dX2_takes_27 rfl (by decide) (fun hc_6 => ?_) (fun hc_6 => ?_)
  · have h := h.1 hc_6
    refine gw_aload_n (pc' := 33) κ dX2_takes_32 rfl 1 rfl rfl ?_
    refine gb_get (pc' := 36) (C := RX2) (T := TX2) (N := 8) κ dX2_takes_33 rfl inX2 0 rfl rfl rfl 3 (by decide) tw_fl_X2_21 rfl ?_
    refine gw_iload_n (pc' := 37) κ dX2_takes_36 rfl 3 rfl rfl ?_
    obtain ⟨hb_7, h⟩ := h
    refine gb_iald (pc' := 38) κ dX2_takes_37 rfl 0 4 rfl rfl hb_7 ?_
    refine gw_aload_n (pc' := 39) κ dX2_takes_38 rfl 2 rfl rfl ?_
    refine gb_get (pc' := 42) (C := RX3) (T := TX3) (N := 10) κ dX2_takes_39 rfl inX3 1 rfl rfl rfl 8 (by decide) tw_fl_X2_57 rfl ?_
    refine gw_iload_n (pc' := 43) κ dX2_takes_42 rfl 4 rfl rfl ?_
    obtain ⟨hb_8, h⟩ := h
    refine gb_iald (pc' := 44) κ dX2_takes_43 rfl 1 9 rfl rfl hb_8 ?_
    refine gw_iadd (pc' := 45) κ dX2_takes_44 rfl  ?_
    refine gw_aload_n (pc' := 46) κ dX2_takes_45 rfl 2 rfl rfl ?_
    refine gb_get (pc' := 49) (C := RX3) (T := TX3) (N := 10) κ dX2_takes_46 rfl inX3 1 rfl rfl rfl 4 (by decide) tw_fl_X2_85 rfl ?_
    refine gw_iload_n (pc' := 50) κ dX2_takes_49 rfl 3 rfl rfl ?_
    obtain ⟨hb_9, h⟩ := h
    refine gb_iald (pc' := 51) κ dX2_takes_50 rfl 1 5 rfl rfl hb_9 ?_
    refine gw_icmp_le (pc' := 54) (tgt := 56) κ dX2_takes_51 rfl (by decide) (fun hc_10 => ?_) (fun hc_10 => ?_)
    · have h := h.1 hc_10
      refine gw_aload_n (pc' := 57) κ dX2_takes_56 rfl 1 rfl rfl ?_
      refine gb_get (pc' := 60) (C := RX2) (T := TX2) (N := 8) κ dX2_takes_57 rfl inX2 0 rfl rfl rfl 4 (by decide) tw_fl_X2_24 rfl ?_
      refine gw_iload_n (pc' := 61) κ dX2_takes_60 rfl 3 rfl rfl ?_
      obtain ⟨hb_11, h⟩ := h
      refine gb_iald (pc' := 62) κ dX2_takes_61 rfl 0 5 rfl rfl hb_11 ?_
      refine gw_iconst (pc' := 63) (v := 1) κ dX2_takes_62 rfl (by decide) ?_
      refine gw_aload_n (pc' := 64) κ dX2_takes_63 rfl 2 rfl rfl ?_
      refine gb_get (pc' := 67) (C := RX3) (T := TX3) (N := 10) κ dX2_takes_64 rfl inX3 1 rfl rfl rfl 6 (by decide) tw_fl_X2_68 rfl ?_
      refine gw_iload_n (pc' := 68) κ dX2_takes_67 rfl 4 rfl rfl ?_
      obtain ⟨hb_12, h⟩ := h
      refine gb_iald (pc' := 69) κ dX2_takes_68 rfl 1 7 rfl rfl hb_12 ?_
      refine gw_ishl (pc' := 70) κ dX2_takes_69 rfl  ?_
      refine gw_ior (pc' := 71) κ dX2_takes_70 rfl  ?_
      refine gw_top (fun y_13 hy_13 => ?_)
      have h := h y_13 hy_13
      refine gw_istore (pc' := 73) κ dX2_takes_71 rfl (by decide) (lv' := [(5, .int y_13), (4, .int y_3), (0, .ref (qa 0)), (1, .ref (qb 0)), (2, .int x2), (3, .int x3)]) rfl ?_
      refine gw_iload (pc' := 75) κ dX2_takes_73 rfl 0 rfl ?_
      refine gb_callS (rest := []) κ (c_J6_bitCount_0f7a4  y_13 h) ⟨rfl, rfl, Nat.le_of_ble_eq_true rfl, Nat.le_of_ble_eq_true rfl⟩ tw_ml_X2_88 tw_st_J6_bitCount_0f7a4 tw_co_J6_bitCount_0f7a4 tw_in_J6 hy_J6_bitCount_0f7a4 rfl (Nat.le_of_ble_eq_true rfl) rfl dX2_takes_75 [] rfl (by decide) (fun _ => Nat.le_of_ble_eq_true rfl) ⟨Nat.le_of_ble_eq_true rfl, Nat.le_of_ble_eq_true rfl⟩ (fun v u hv => ?_)
      obtain ⟨r_14, rfl, h⟩ := hv
      refine gw_nf (ws' := (fl [cPl qa cI o0.od o0.rd o0.vn o0.pn o0.ao o0.sr o0.sp o0.wt, cSt qb cI o1.se o1.la o1.de o1.le o1.sa o1.fl o1.ar o1.dr o1.pe o1.ri])) (lv' := [(5, .int y_13), (4, .int y_3), (0, .ref (qa 0)), (1, .ref (qb 0)), (2, .int x2), (3, .int x3)]) (st' := [.int r_14]) (pc' := 78) (ce' := 0) (sl' := 0) rfl rfl rfl rfl rfl rfl ?_
      refine gw_aload_n (pc' := 79) κ dX2_takes_78 rfl 3 rfl rfl ?_
      refine gb_get (pc' := 82) (C := RX3) (T := TX3) (N := 10) κ dX2_takes_79 rfl inX3 1 rfl rfl rfl 0 (by decide) tw_fl_X2_78 rfl ?_
      refine gw_iconst (pc' := 83) (v := 2) κ dX2_takes_82 rfl (by decide) ?_
      refine gb_iald (pc' := 84) κ dX2_takes_83 rfl 1 1 rfl rfl (by unfold vp_in; decide) ?_
      refine gw_icmp_gt (pc' := 87) (tgt := 91) κ dX2_takes_84 rfl (by decide) (fun hc_16 => ?_) (fun hc_16 => ?_)
      · have h := h.1 hc_16
        refine gw_iconst (pc' := 92) (v := 0) κ dX2_takes_91 rfl (by decide) ?_
        exact gw_zret κ dX2_takes_92 () rfl rfl ⟨_, rfl, h⟩
      · have h := h.2 hc_16
        refine gw_iconst (pc' := 88) (v := 1) κ dX2_takes_87 rfl (by decide) ?_
        refine gw_goto (tgt := 92) κ dX2_takes_88 (by decide) ?_
        exact gw_zret κ dX2_takes_92 () rfl rfl ⟨_, rfl, h⟩
    · have h := h.2 hc_10
      refine gw_iconst (pc' := 55) (v := 0) κ dX2_takes_54 rfl (by decide) ?_
      exact gw_zret κ dX2_takes_55 () rfl rfl ⟨_, rfl, h⟩
  · have h := h.2 hc_6
    refine gw_iconst (pc' := 31) (v := 0) κ dX2_takes_30 rfl (by decide) ?_
    exact gw_zret κ dX2_takes_31 () rfl rfl ⟨_, rfl, h⟩
end
section
theorem hy_X2_firstVanFor : g_hy yX2_firstVanFor 2 := by decide +kernel
set_option maxHeartbeats 4000000 in
set_option maxRecDepth 100000 in
theorem k_X2_firstVanFor_39 {zp : Program} {l : Launch} {ze : Env} {zs : State} {zm : MethodId} {za : Array Value} {zb : List Frame} {zt : Method} {zc : Code} {D : va_G} {cI cR : ClassId} {A : Nat → Prop} (κ : KC zp zs zm za zt zc cX2_firstVanFor 7 RX2 D cI cR A (some .int)) (qa : Nat → Nat) (qb : Nat → Nat) (P : Int32 → Prop) (o0 : PlT) (o1 : StT) (x2 : Int32) (r9 : Int32 → Int32 → Int32 → Prop) (v3 : Int32) (v4 : Int32) (v5 : Int32) (w0 : Int32) (hr9 : ∀ (v3 : Int32) (v4 : Int32) (v5 : Int32), r9 v3 v4 v5 → GM zp l ze ({ frames := 2, cells := 0, slots := 0, locals := 47 } : Room) zs zm za zb zt zc D A 7 (pI (fun (r : Int32) (_ : Unit) => P r)) (fun _ : Unit => (fl [cPl qa cI o0.od o0.rd o0.vn o0.pn o0.ao o0.sr o0.sp o0.wt, cSt qb cI o1.se o1.la o1.de o1.le o1.sa o1.fl o1.ar o1.dr o1.pe o1.ri])) 0 0 0 0 (fl [cPl qa cI o0.od o0.rd o0.vn o0.pn o0.ao o0.sr o0.sp o0.wt, cSt qb cI o1.se o1.la o1.de o1.le o1.sa o1.fl o1.ar o1.dr o1.pe o1.ri]) [(0, .ref (qa 0)), (1, .ref (qb 0)), (2, .int x2), (3, .int v3), (4, .int v4), (5, .int v5)] 9 []) (h : wp_X2_firstVanFor_39 P o0 o1 x2 r9 v3 v4 v5 w0) : GM zp l ze ({ frames := 2, cells := 0, slots := 0, locals := 47 } : Room) zs zm za zb zt zc D A 7 (pI (fun (r : Int32) (_ : Unit) => P r)) (fun _ : Unit => (fl [cPl qa cI o0.od o0.rd o0.vn o0.pn o0.ao o0.sr o0.sp o0.wt, cSt qb cI o1.se o1.la o1.de o1.le o1.sa o1.fl o1.ar o1.dr o1.pe o1.ri])) 0 0 0 0 (fl [cPl qa cI o0.od o0.rd o0.vn o0.pn o0.ao o0.sr o0.sp o0.wt, cSt qb cI o1.se o1.la o1.de o1.le o1.sa o1.fl o1.ar o1.dr o1.pe o1.ri]) [(0, .ref (qa 0)), (1, .ref (qb 0)), (2, .int x2), (3, .int v3), (4, .int v4), (5, .int v5)] 39 [.int w0] := by
  unfold wp_X2_firstVanFor_39 at h
  refine gw_istore (pc' := 41) κ dX2_firstVanFor_39 rfl (by decide) (lv' := [(6, .int w0), (0, .ref (qa 0)), (1, .ref (qb 0)), (2, .int x2), (3, .int v3), (4, .int v4), (5, .int v5)]) rfl ?_
  refine gw_iload (pc' := 43) κ dX2_firstVanFor_41 rfl 0 rfl ?_
  refine gw_if_eq (pc' := 46) (tgt := 69) κ dX2_firstVanFor_43 rfl (by decide) (fun hc_5 => ?_) (fun hc_5 => ?_)
  · have h := h.1 hc_5
    refine gw_iinc (pc' := 72) κ dX2_firstVanFor_69 rfl 6 rfl (v := (v5 + 1)) rfl (by decide) (lv' := [(5, .int (v5 + 1)), (6, .int w0), (0, .ref (qa 0)), (1, .ref (qb 0)), (2, .int x2), (3, .int v3), (4, .int v4)]) rfl ?_
    refine gw_goto (tgt := 9) κ dX2_firstVanFor_72 (by decide) ?_
    refine gw_lv (lv' := [(0, .ref (qa 0)), (1, .ref (qb 0)), (2, .int x2), (3, .int v3), (4, .int v4), (5, .int (v5 + 1))]) [2, 3, 4, 5, 6, 0] rfl ?_
    exact hr9 v3 v4 (v5 + 1) h
  · have h := h.2 hc_5
    refine gw_aload_n (pc' := 47) κ dX2_firstVanFor_46 rfl 1 rfl rfl ?_
    refine gw_aload_n (pc' := 48) κ dX2_firstVanFor_47 rfl 2 rfl rfl ?_
    refine gw_iload (pc' := 50) κ dX2_firstVanFor_48 rfl 6 rfl ?_
    refine gw_iload_n (pc' := 51) κ dX2_firstVanFor_50 rfl 3 rfl rfl ?_
    refine gb_callV (ci := 2) (qb := 0) (rest := []) κ (c_X2_takes qa qb o0 o1 v5 x2 h) ⟨rfl, rfl, Nat.le_of_ble_eq_true rfl, Nat.le_of_ble_eq_true rfl⟩ tw_ml_X2_74 tw_im_X2_takes tw_se_X2_takes tw_co_X2_takes tw_in_X2 hy_X2_takes rfl rfl rfl rfl rfl (Nat.le_of_ble_eq_true rfl) rfl dX2_firstVanFor_51 [0, 1] rfl (by decide) (fun _ => Nat.le_of_ble_eq_true rfl) ⟨Nat.le_of_ble_eq_true rfl, Nat.le_of_ble_eq_true rfl⟩ (fun v u hv => ?_)
    obtain ⟨r_6, rfl, h⟩ := hv
    refine gw_nf (ws' := (fl [cPl qa cI o0.od o0.rd o0.vn o0.pn o0.ao o0.sr o0.sp o0.wt, cSt qb cI o1.se o1.la o1.de o1.le o1.sa o1.fl o1.ar o1.dr o1.pe o1.ri])) (lv' := [(6, .int w0), (0, .ref (qa 0)), (1, .ref (qb 0)), (2, .int x2), (3, .int v3), (4, .int v4), (5, .int v5)]) (st' := [.int r_6]) (pc' := 54) (ce' := 0) (sl' := 0) rfl rfl rfl rfl rfl rfl ?_
    refine gw_if_eq (pc' := 57) (tgt := 69) κ dX2_firstVanFor_54 rfl (by decide) (fun hc_7 => ?_) (fun hc_7 => ?_)
    · have h := h.1 hc_7
      refine gw_iinc (pc' := 72) κ dX2_firstVanFor_69 rfl 6 rfl (v := (v5 + 1)) rfl (by decide) (lv' := [(5, .int (v5 + 1)), (6, .int w0), (0, .ref (qa 0)), (1, .ref (qb 0)), (2, .int x2), (3, .int v3), (4, .int v4)]) rfl ?_
      refine gw_goto (tgt := 9) κ dX2_firstVanFor_72 (by decide) ?_
      refine gw_lv (lv' := [(0, .ref (qa 0)), (1, .ref (qb 0)), (2, .int x2), (3, .int v3), (4, .int v4), (5, .int (v5 + 1))]) [2, 3, 4, 5, 6, 0] rfl ?_
      exact hr9 v3 v4 (v5 + 1) h
    · have h := h.2 hc_7
      refine gw_iload (pc' := 59) κ dX2_firstVanFor_57 rfl 6 rfl ?_
      refine gw_istore_n (pc' := 60) κ dX2_firstVanFor_59 rfl rfl (by decide) (lv' := [(3, .int v5), (6, .int w0), (0, .ref (qa 0)), (1, .ref (qb 0)), (2, .int x2), (4, .int v4), (5, .int v5)]) rfl ?_
      refine gw_aload_n (pc' := 61) κ dX2_firstVanFor_60 rfl 3 rfl rfl ?_
      refine gb_get (pc' := 64) (C := RX3) (T := TX3) (N := 10) κ dX2_firstVanFor_61 rfl inX3 1 rfl rfl rfl 3 (by decide) tw_fl_X2_71 rfl ?_
      refine gw_iload (pc' := 66) κ dX2_firstVanFor_64 rfl 6 rfl ?_
      obtain ⟨hb_8, h⟩ := h
      refine gb_iald (pc' := 67) κ dX2_firstVanFor_66 rfl 1 4 rfl rfl hb_8 ?_
      refine gw_istore (pc' := 69) κ dX2_firstVanFor_67 rfl (by decide) (lv' := [(4, .int (o1.le v5.toNatClampNeg)), (3, .int v5), (6, .int w0), (0, .ref (qa 0)), (1, .ref (qb 0)), (2, .int x2), (5, .int v5)]) rfl ?_
      refine gw_iinc (pc' := 72) κ dX2_firstVanFor_69 rfl 6 rfl (v := (v5 + 1)) rfl (by decide) (lv' := [(5, .int (v5 + 1)), (4, .int (o1.le v5.toNatClampNeg)), (3, .int v5), (6, .int w0), (0, .ref (qa 0)), (1, .ref (qb 0)), (2, .int x2)]) rfl ?_
      refine gw_goto (tgt := 9) κ dX2_firstVanFor_72 (by decide) ?_
      refine gw_lv (lv' := [(0, .ref (qa 0)), (1, .ref (qb 0)), (2, .int x2), (3, .int v5), (4, .int (o1.le v5.toNatClampNeg)), (5, .int (v5 + 1))]) [4, 5, 6, 2, 1, 0] rfl ?_
      exact hr9 v5 (o1.le v5.toNatClampNeg) (v5 + 1) h
set_option maxHeartbeats 4000000 in
set_option maxRecDepth 100000 in
theorem k_X2_firstVanFor_9 {zp : Program} {l : Launch} {ze : Env} {zs : State} {zm : MethodId} {za : Array Value} {zb : List Frame} {zt : Method} {zc : Code} {D : va_G} {cI cR : ClassId} {A : Nat → Prop} (κ : KC zp zs zm za zt zc cX2_firstVanFor 7 RX2 D cI cR A (some .int)) (qa : Nat → Nat) (qb : Nat → Nat) (P : Int32 → Prop) (o0 : PlT) (o1 : StT) (x2 : Int32) : ∀ (n : Nat) (v3 : Int32) (v4 : Int32) (v5 : Int32), wp_X2_firstVanFor_9 P o0 o1 x2 n v3 v4 v5 → GM zp l ze ({ frames := 2, cells := 0, slots := 0, locals := 47 } : Room) zs zm za zb zt zc D A 7 (pI (fun (r : Int32) (_ : Unit) => P r)) (fun _ : Unit => (fl [cPl qa cI o0.od o0.rd o0.vn o0.pn o0.ao o0.sr o0.sp o0.wt, cSt qb cI o1.se o1.la o1.de o1.le o1.sa o1.fl o1.ar o1.dr o1.pe o1.ri])) 0 0 0 0 (fl [cPl qa cI o0.od o0.rd o0.vn o0.pn o0.ao o0.sr o0.sp o0.wt, cSt qb cI o1.se o1.la o1.de o1.le o1.sa o1.fl o1.ar o1.dr o1.pe o1.ri]) [(0, .ref (qa 0)), (1, .ref (qb 0)), (2, .int x2), (3, .int v3), (4, .int v4), (5, .int v5)] 9 [] := by
  intro n9
  induction n9 with
  | zero => intro v3 v4 v5 h; exact (show False from h).elim
  | succ n9 ih9 =>
    intro v3 v4 v5 h
    have h : wp_X2_firstVanFor_9F P o0 o1 x2 (wp_X2_firstVanFor_9 P o0 o1 x2 n9) v3 v4 v5 := h
    unfold wp_X2_firstVanFor_9F at h
    refine gw_iload (pc' := 11) κ dX2_firstVanFor_9 rfl 5 rfl ?_
    refine gw_bipush (pc' := 13) (v := 8) κ dX2_firstVanFor_11 rfl (by decide) ?_
    refine gw_icmp_ge (pc' := 16) (tgt := 75) κ dX2_firstVanFor_13 rfl (by decide) (fun hc_1 => ?_) (fun hc_1 => ?_)
    · have h := h.1 hc_1
      refine gw_iload_n (pc' := 76) κ dX2_firstVanFor_75 rfl 3 rfl rfl ?_
      exact gw_iret κ dX2_firstVanFor_76 () rfl ⟨_, rfl, h⟩
    · have h := h.2 hc_1
      refine gw_iload_n (pc' := 17) κ dX2_firstVanFor_16 rfl 3 rfl rfl ?_
      refine gw_bipush (pc' := 19) (v := -106) κ dX2_firstVanFor_17 rfl (by decide) ?_
      refine gw_icmp_eq (pc' := 22) (tgt := 34) κ dX2_firstVanFor_19 rfl (by decide) (fun hc_2 => ?_) (fun hc_2 => ?_)
      · have h := h.1 hc_2
        refine gw_iconst (pc' := 35) (v := 1) κ dX2_firstVanFor_34 rfl (by decide) ?_
        refine gw_goto (tgt := 39) κ dX2_firstVanFor_35 (by decide) ?_
        refine gw_lv (lv' := [(0, .ref (qa 0)), (1, .ref (qb 0)), (2, .int x2), (3, .int v3), (4, .int v4), (5, .int v5)]) [0, 1, 2, 3, 4, 5] rfl ?_
        exact k_X2_firstVanFor_39 κ qa qb P o0 o1 x2 (wp_X2_firstVanFor_9 P o0 o1 x2 n9) v3 v4 v5 (1 : Int32) ih9 h
      · have h := h.2 hc_2
        refine gw_aload_n (pc' := 23) κ dX2_firstVanFor_22 rfl 1 rfl rfl ?_
        refine gb_get (pc' := 26) (C := RX3) (T := TX3) (N := 10) κ dX2_firstVanFor_23 rfl inX3 1 rfl rfl rfl 3 (by decide) tw_fl_X2_71 rfl ?_
        refine gw_iload (pc' := 28) κ dX2_firstVanFor_26 rfl 5 rfl ?_
        obtain ⟨hb_3, h⟩ := h
        refine gb_iald (pc' := 29) κ dX2_firstVanFor_28 rfl 1 4 rfl rfl hb_3 ?_
        refine gw_iload (pc' := 31) κ dX2_firstVanFor_29 rfl 4 rfl ?_
        refine gw_icmp_ge (pc' := 34) (tgt := 38) κ dX2_firstVanFor_31 rfl (by decide) (fun hc_4 => ?_) (fun hc_4 => ?_)
        · have h := h.1 hc_4
          refine gw_iconst (pc' := 39) (v := 0) κ dX2_firstVanFor_38 rfl (by decide) ?_
          refine gw_lv (lv' := [(0, .ref (qa 0)), (1, .ref (qb 0)), (2, .int x2), (3, .int v3), (4, .int v4), (5, .int v5)]) [0, 1, 2, 3, 4, 5] rfl ?_
          exact k_X2_firstVanFor_39 κ qa qb P o0 o1 x2 (wp_X2_firstVanFor_9 P o0 o1 x2 n9) v3 v4 v5 (0 : Int32) ih9 h
        · have h := h.2 hc_4
          refine gw_iconst (pc' := 35) (v := 1) κ dX2_firstVanFor_34 rfl (by decide) ?_
          refine gw_goto (tgt := 39) κ dX2_firstVanFor_35 (by decide) ?_
          refine gw_lv (lv' := [(0, .ref (qa 0)), (1, .ref (qb 0)), (2, .int x2), (3, .int v3), (4, .int v4), (5, .int v5)]) [0, 1, 2, 3, 4, 5] rfl ?_
          exact k_X2_firstVanFor_39 κ qa qb P o0 o1 x2 (wp_X2_firstVanFor_9 P o0 o1 x2 n9) v3 v4 v5 (1 : Int32) ih9 h
set_option maxHeartbeats 4000000 in
set_option maxRecDepth 100000 in
theorem c_X2_firstVanFor {l : Launch} {D : va_G} {cI cR : ClassId}  (qa : Nat → Nat) (qb : Nat → Nat) {P : Int32 → Prop} (o0 : PlT) (o1 : StT) (x2 : Int32) (h : wp_X2_firstVanFor P o0 o1 x2) : CT l D cI cR yX2_firstVanFor cX2_firstVanFor 7 (some .int) ({ frames := 2, cells := 0, slots := 0, locals := 47 } : Room) [.ref (qa 0), .ref (qb 0), .int x2] (fl [cPl qa cI o0.od o0.rd o0.vn o0.pn o0.ao o0.sr o0.sp o0.wt, cSt qb cI o1.se o1.la o1.de o1.le o1.sa o1.fl o1.ar o1.dr o1.pe o1.ri]) (fun _ : Unit => (fl [cPl qa cI o0.od o0.rd o0.vn o0.pn o0.ao o0.sr o0.sp o0.wt, cSt qb cI o1.se o1.la o1.de o1.le o1.sa o1.fl o1.ar o1.dr o1.pe o1.ri])) (pI (fun (r : Int32) (_ : Unit) => P r)) 0 0 := by
  refine ct_of RX2 rfl (by decide +kernel) (Nat.le_of_ble_eq_true rfl) (fun zp ze zs zm zb zt zc A hin κ => ?_)
  unfold wp_X2_firstVanFor at h
  refine gw_nf (lv' := [(0, .ref (qa 0)), (1, .ref (qb 0)), (2, .int x2)]) (pc' := 0) (st' := []) (ce' := 0) (sl' := 0) rfl rfl rfl rfl rfl rfl ?_
  refine gw_bipush (pc' := 2) (v := -106) κ dX2_firstVanFor_0 rfl (by decide) ?_
  refine gw_istore_n (pc' := 3) κ dX2_firstVanFor_2 rfl rfl (by decide) (lv' := [(3, .int (-106 : Int32)), (0, .ref (qa 0)), (1, .ref (qb 0)), (2, .int x2)]) rfl ?_
  refine gw_iconst (pc' := 4) (v := 0) κ dX2_firstVanFor_3 rfl (by decide) ?_
  refine gw_istore (pc' := 6) κ dX2_firstVanFor_4 rfl (by decide) (lv' := [(4, .int (0 : Int32)), (3, .int (-106 : Int32)), (0, .ref (qa 0)), (1, .ref (qb 0)), (2, .int x2)]) rfl ?_
  refine gw_iconst (pc' := 7) (v := 0) κ dX2_firstVanFor_6 rfl (by decide) ?_
  refine gw_istore (pc' := 9) κ dX2_firstVanFor_7 rfl (by decide) (lv' := [(5, .int (0 : Int32)), (4, .int (0 : Int32)), (3, .int (-106 : Int32)), (0, .ref (qa 0)), (1, .ref (qb 0)), (2, .int x2)]) rfl ?_
  obtain ⟨m9, h⟩ := h
  refine gw_lv (lv' := [(0, .ref (qa 0)), (1, .ref (qb 0)), (2, .int x2), (3, .int (-106 : Int32)), (4, .int (0 : Int32)), (5, .int (0 : Int32))]) [3, 4, 5, 2, 1, 0] rfl ?_
  exact k_X2_firstVanFor_9 κ qa qb P o0 o1 x2 m9 (-106 : Int32) (0 : Int32) (0 : Int32) h
end
section
theorem zz_end : True := trivial
end
