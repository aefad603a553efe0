-- ===== PART A: goes FIRST, ahead of the names: the tables' words, and 'selects' of the private methods out of them =====
/-- a private method of a class that the tables say can be made, by its rows of tables_1 -/
def lw_okq (q : MethodName × Nat) : Prop := (q.1.cls ≠ "java/lang/invoke/MethodHandle" ∧ q.1.cls ≠ "java/lang/invoke/VarHandle") ∧ Cond.instantiable q.1.cls q.2 ∈ tables_1 ∧ Cond.privateMethod q.1 ∈ tables_1 ∧ Cond.instanceMethod q.1 ∈ tables_1
theorem lw_p0 : lw_okq (⟨"BirthdayRooms$Text", "readItem", "(LBirthdayRooms$Plan;)Z"⟩, 4) := ⟨⟨by decide +kernel, by decide +kernel⟩, List.mem_of_getElem? (i := 24) (by decide +kernel), List.mem_of_getElem? (i := 234) (by decide +kernel), List.mem_of_getElem? (i := 235) (by decide +kernel)⟩
theorem lw_p1 : lw_okq (⟨"BirthdayRooms$Text", "letterHere", "()C"⟩, 4) := ⟨⟨by decide +kernel, by decide +kernel⟩, List.mem_of_getElem? (i := 24) (by decide +kernel), List.mem_of_getElem? (i := 238) (by decide +kernel), List.mem_of_getElem? (i := 239) (by decide +kernel)⟩
theorem lw_p2 : lw_okq (⟨"BirthdayRooms$Text", "readNumbers", "(I)Z"⟩, 4) := ⟨⟨by decide +kernel, by decide +kernel⟩, List.mem_of_getElem? (i := 24) (by decide +kernel), List.mem_of_getElem? (i := 242) (by decide +kernel), List.mem_of_getElem? (i := 243) (by decide +kernel)⟩
theorem lw_p3 : lw_okq (⟨"BirthdayRooms$Text", "readNumber", "()I"⟩, 4) := ⟨⟨by decide +kernel, by decide +kernel⟩, List.mem_of_getElem? (i := 24) (by decide +kernel), List.mem_of_getElem? (i := 246) (by decide +kernel), List.mem_of_getElem? (i := 247) (by decide +kernel)⟩
theorem lw_p4 : lw_okq (⟨"BirthdayRooms", "moveIn", "()V"⟩, 10) := ⟨⟨by decide +kernel, by decide +kernel⟩, List.mem_of_getElem? (i := 16) (by decide +kernel), List.mem_of_getElem? (i := 272) (by decide +kernel), List.mem_of_getElem? (i := 273) (by decide +kernel)⟩
theorem lw_p5 : lw_okq (⟨"BirthdayRooms", "isCousin", "(I)Z"⟩, 10) := ⟨⟨by decide +kernel, by decide +kernel⟩, List.mem_of_getElem? (i := 16) (by decide +kernel), List.mem_of_getElem? (i := 379) (by decide +kernel), List.mem_of_getElem? (i := 380) (by decide +kernel)⟩
theorem lw_p6 : lw_okq (⟨"BirthdayRooms$Walk", "makeList", "()V"⟩, 5) := ⟨⟨by decide +kernel, by decide +kernel⟩, List.mem_of_getElem? (i := 127) (by decide +kernel), List.mem_of_getElem? (i := 405) (by decide +kernel), List.mem_of_getElem? (i := 406) (by decide +kernel)⟩
theorem lw_p7 : lw_okq (⟨"BirthdayRooms$Walk", "clearCounts", "()V"⟩, 5) := ⟨⟨by decide +kernel, by decide +kernel⟩, List.mem_of_getElem? (i := 127) (by decide +kernel), List.mem_of_getElem? (i := 413) (by decide +kernel), List.mem_of_getElem? (i := 414) (by decide +kernel)⟩
theorem lw_p8 : lw_okq (⟨"BirthdayRooms", "isRoom", "(I)Z"⟩, 10) := ⟨⟨by decide +kernel, by decide +kernel⟩, List.mem_of_getElem? (i := 16) (by decide +kernel), List.mem_of_getElem? (i := 425) (by decide +kernel), List.mem_of_getElem? (i := 426) (by decide +kernel)⟩
theorem lw_p9 : lw_okq (⟨"BirthdayRooms$Pile", "loseLowest", "()V"⟩, 2) := ⟨⟨by decide +kernel, by decide +kernel⟩, List.mem_of_getElem? (i := 89) (by decide +kernel), List.mem_of_getElem? (i := 461) (by decide +kernel), List.mem_of_getElem? (i := 462) (by decide +kernel)⟩
theorem lw_p10 : lw_okq (⟨"BirthdayRooms$Pile", "standingAt", "(I)LBirthdayRooms$Standing;"⟩, 2) := ⟨⟨by decide +kernel, by decide +kernel⟩, List.mem_of_getElem? (i := 89) (by decide +kernel), List.mem_of_getElem? (i := 465) (by decide +kernel), List.mem_of_getElem? (i := 466) (by decide +kernel)⟩
theorem lw_p11 : lw_okq (⟨"BirthdayRooms$Walk", "changeRooms", "()V"⟩, 5) := ⟨⟨by decide +kernel, by decide +kernel⟩, List.mem_of_getElem? (i := 127) (by decide +kernel), List.mem_of_getElem? (i := 474) (by decide +kernel), List.mem_of_getElem? (i := 475) (by decide +kernel)⟩
theorem lw_p12 : lw_okq (⟨"BirthdayRooms$Walk", "changeRoomOf", "(II)V"⟩, 5) := ⟨⟨by decide +kernel, by decide +kernel⟩, List.mem_of_getElem? (i := 127) (by decide +kernel), List.mem_of_getElem? (i := 479) (by decide +kernel), List.mem_of_getElem? (i := 480) (by decide +kernel)⟩
theorem lw_p13 : lw_okq (⟨"BirthdayRooms$Walk", "sunNow", "(I)I"⟩, 5) := ⟨⟨by decide +kernel, by decide +kernel⟩, List.mem_of_getElem? (i := 127) (by decide +kernel), List.mem_of_getElem? (i := 490) (by decide +kernel), List.mem_of_getElem? (i := 491) (by decide +kernel)⟩
theorem lw_p14 : lw_okq (⟨"BirthdayRooms$Walk", "daysAlike", "()I"⟩, 5) := ⟨⟨by decide +kernel, by decide +kernel⟩, List.mem_of_getElem? (i := 127) (by decide +kernel), List.mem_of_getElem? (i := 503) (by decide +kernel), List.mem_of_getElem? (i := 504) (by decide +kernel)⟩
theorem lw_p15 : lw_okq (⟨"BirthdayRooms$Walk", "countDays", "(I)V"⟩, 5) := ⟨⟨by decide +kernel, by decide +kernel⟩, List.mem_of_getElem? (i := 127) (by decide +kernel), List.mem_of_getElem? (i := 517) (by decide +kernel), List.mem_of_getElem? (i := 518) (by decide +kernel)⟩
def lw_privs_1 : List (MethodName × Nat) := [(⟨"BirthdayRooms$Text", "readItem", "(LBirthdayRooms$Plan;)Z"⟩, 4), (⟨"BirthdayRooms$Text", "letterHere", "()C"⟩, 4), (⟨"BirthdayRooms$Text", "readNumbers", "(I)Z"⟩, 4), (⟨"BirthdayRooms$Text", "readNumber", "()I"⟩, 4), (⟨"BirthdayRooms", "moveIn", "()V"⟩, 10), (⟨"BirthdayRooms", "isCousin", "(I)Z"⟩, 10), (⟨"BirthdayRooms$Walk", "makeList", "()V"⟩, 5), (⟨"BirthdayRooms$Walk", "clearCounts", "()V"⟩, 5), (⟨"BirthdayRooms", "isRoom", "(I)Z"⟩, 10), (⟨"BirthdayRooms$Pile", "loseLowest", "()V"⟩, 2), (⟨"BirthdayRooms$Pile", "standingAt", "(I)LBirthdayRooms$Standing;"⟩, 2), (⟨"BirthdayRooms$Walk", "changeRooms", "()V"⟩, 5), (⟨"BirthdayRooms$Walk", "changeRoomOf", "(II)V"⟩, 5), (⟨"BirthdayRooms$Walk", "sunNow", "(I)I"⟩, 5), (⟨"BirthdayRooms$Walk", "daysAlike", "()I"⟩, 5), (⟨"BirthdayRooms$Walk", "countDays", "(I)V"⟩, 5)]
theorem lw_r1 : ∀ q ∈ lw_privs_1, lw_okq q := List.forall_mem_cons.mpr ⟨lw_p0, List.forall_mem_cons.mpr ⟨lw_p1, List.forall_mem_cons.mpr ⟨lw_p2, List.forall_mem_cons.mpr ⟨lw_p3, List.forall_mem_cons.mpr ⟨lw_p4, List.forall_mem_cons.mpr ⟨lw_p5, List.forall_mem_cons.mpr ⟨lw_p6, List.forall_mem_cons.mpr ⟨lw_p7, List.forall_mem_cons.mpr ⟨lw_p8, List.forall_mem_cons.mpr ⟨lw_p9, List.forall_mem_cons.mpr ⟨lw_p10, List.forall_mem_cons.mpr ⟨lw_p11, List.forall_mem_cons.mpr ⟨lw_p12, List.forall_mem_cons.mpr ⟨lw_p13, List.forall_mem_cons.mpr ⟨lw_p14, List.forall_mem_cons.mpr ⟨lw_p15, fun _ h => absurd h List.not_mem_nil⟩⟩⟩⟩⟩⟩⟩⟩⟩⟩⟩⟩⟩⟩⟩⟩
theorem lw_p16 : lw_okq (⟨"BirthdayRooms$Search", "beginBy", "(LBirthdayRooms$Standing;II)V"⟩, 5) := ⟨⟨by decide +kernel, by decide +kernel⟩, List.mem_of_getElem? (i := 151) (by decide +kernel), List.mem_of_getElem? (i := 600) (by decide +kernel), List.mem_of_getElem? (i := 601) (by decide +kernel)⟩
theorem lw_p17 : lw_okq (⟨"BirthdayRooms$Search", "take", "(III)V"⟩, 5) := ⟨⟨by decide +kernel, by decide +kernel⟩, List.mem_of_getElem? (i := 151) (by decide +kernel), List.mem_of_getElem? (i := 609) (by decide +kernel), List.mem_of_getElem? (i := 610) (by decide +kernel)⟩
theorem lw_p18 : lw_okq (⟨"BirthdayRooms$Search", "isPair", "(I)Z"⟩, 5) := ⟨⟨by decide +kernel, by decide +kernel⟩, List.mem_of_getElem? (i := 151) (by decide +kernel), List.mem_of_getElem? (i := 613) (by decide +kernel), List.mem_of_getElem? (i := 614) (by decide +kernel)⟩
theorem lw_p19 : lw_okq (⟨"BirthdayRooms", "wantsBetween", "(II)I"⟩, 10) := ⟨⟨by decide +kernel, by decide +kernel⟩, List.mem_of_getElem? (i := 16) (by decide +kernel), List.mem_of_getElem? (i := 661) (by decide +kernel), List.mem_of_getElem? (i := 662) (by decide +kernel)⟩
theorem lw_p20 : lw_okq (⟨"BirthdayRooms$Sightings", "set", "(IIII)V"⟩, 4) := ⟨⟨by decide +kernel, by decide +kernel⟩, List.mem_of_getElem? (i := 108) (by decide +kernel), List.mem_of_getElem? (i := 680) (by decide +kernel), List.mem_of_getElem? (i := 681) (by decide +kernel)⟩
theorem lw_p21 : lw_okq (⟨"BirthdayRooms", "exchangeByDraw", "(I)V"⟩, 10) := ⟨⟨by decide +kernel, by decide +kernel⟩, List.mem_of_getElem? (i := 16) (by decide +kernel), List.mem_of_getElem? (i := 741) (by decide +kernel), List.mem_of_getElem? (i := 742) (by decide +kernel)⟩
theorem lw_p22 : lw_okq (⟨"BirthdayRoomsModel", "clearTold", "()V"⟩, 25) := ⟨⟨by decide +kernel, by decide +kernel⟩, List.mem_of_getElem? (i := 758) (by decide +kernel), List.mem_of_getElem? (i := 764) (by decide +kernel), List.mem_of_getElem? (i := 765) (by decide +kernel)⟩
theorem lw_p23 : lw_okq (⟨"BirthdayRoomsModel", "tellsCousin", "(III)V"⟩, 25) := ⟨⟨by decide +kernel, by decide +kernel⟩, List.mem_of_getElem? (i := 758) (by decide +kernel), List.mem_of_getElem? (i := 771) (by decide +kernel), List.mem_of_getElem? (i := 772) (by decide +kernel)⟩
theorem lw_p24 : lw_okq (⟨"BirthdayRoomsModel", "tellsRoom", "(II)V"⟩, 25) := ⟨⟨by decide +kernel, by decide +kernel⟩, List.mem_of_getElem? (i := 758) (by decide +kernel), List.mem_of_getElem? (i := 775) (by decide +kernel), List.mem_of_getElem? (i := 776) (by decide +kernel)⟩
theorem lw_p25 : lw_okq (⟨"BirthdayRoomsModel", "settles", "()V"⟩, 25) := ⟨⟨by decide +kernel, by decide +kernel⟩, List.mem_of_getElem? (i := 758) (by decide +kernel), List.mem_of_getElem? (i := 779) (by decide +kernel), List.mem_of_getElem? (i := 780) (by decide +kernel)⟩
theorem lw_p26 : lw_okq (⟨"BirthdayRoomsModel", "readItem", "()Z"⟩, 25) := ⟨⟨by decide +kernel, by decide +kernel⟩, List.mem_of_getElem? (i := 758) (by decide +kernel), List.mem_of_getElem? (i := 874) (by decide +kernel), List.mem_of_getElem? (i := 875) (by decide +kernel)⟩
theorem lw_p27 : lw_okq (⟨"BirthdayRoomsModel", "letterAt", "(I)I"⟩, 25) := ⟨⟨by decide +kernel, by decide +kernel⟩, List.mem_of_getElem? (i := 758) (by decide +kernel), List.mem_of_getElem? (i := 878) (by decide +kernel), List.mem_of_getElem? (i := 879) (by decide +kernel)⟩
theorem lw_p28 : lw_okq (⟨"BirthdayRoomsModel", "readCousinOf", "()Z"⟩, 25) := ⟨⟨by decide +kernel, by decide +kernel⟩, List.mem_of_getElem? (i := 758) (by decide +kernel), List.mem_of_getElem? (i := 882) (by decide +kernel), List.mem_of_getElem? (i := 883) (by decide +kernel)⟩
theorem lw_p29 : lw_okq (⟨"BirthdayRoomsModel", "readNumbers", "(I)Z"⟩, 25) := ⟨⟨by decide +kernel, by decide +kernel⟩, List.mem_of_getElem? (i := 758) (by decide +kernel), List.mem_of_getElem? (i := 886) (by decide +kernel), List.mem_of_getElem? (i := 887) (by decide +kernel)⟩
theorem lw_p30 : lw_okq (⟨"BirthdayRoomsModel", "isTold", "(III)Z"⟩, 25) := ⟨⟨by decide +kernel, by decide +kernel⟩, List.mem_of_getElem? (i := 758) (by decide +kernel), List.mem_of_getElem? (i := 893) (by decide +kernel), List.mem_of_getElem? (i := 894) (by decide +kernel)⟩
theorem lw_p31 : lw_okq (⟨"BirthdayRoomsModel", "readRoomOf", "()Z"⟩, 25) := ⟨⟨by decide +kernel, by decide +kernel⟩, List.mem_of_getElem? (i := 758) (by decide +kernel), List.mem_of_getElem? (i := 897) (by decide +kernel), List.mem_of_getElem? (i := 898) (by decide +kernel)⟩
def lw_privs_2 : List (MethodName × Nat) := [(⟨"BirthdayRooms$Search", "beginBy", "(LBirthdayRooms$Standing;II)V"⟩, 5), (⟨"BirthdayRooms$Search", "take", "(III)V"⟩, 5), (⟨"BirthdayRooms$Search", "isPair", "(I)Z"⟩, 5), (⟨"BirthdayRooms", "wantsBetween", "(II)I"⟩, 10), (⟨"BirthdayRooms$Sightings", "set", "(IIII)V"⟩, 4), (⟨"BirthdayRooms", "exchangeByDraw", "(I)V"⟩, 10), (⟨"BirthdayRoomsModel", "clearTold", "()V"⟩, 25), (⟨"BirthdayRoomsModel", "tellsCousin", "(III)V"⟩, 25), (⟨"BirthdayRoomsModel", "tellsRoom", "(II)V"⟩, 25), (⟨"BirthdayRoomsModel", "settles", "()V"⟩, 25), (⟨"BirthdayRoomsModel", "readItem", "()Z"⟩, 25), (⟨"BirthdayRoomsModel", "letterAt", "(I)I"⟩, 25), (⟨"BirthdayRoomsModel", "readCousinOf", "()Z"⟩, 25), (⟨"BirthdayRoomsModel", "readNumbers", "(I)Z"⟩, 25), (⟨"BirthdayRoomsModel", "isTold", "(III)Z"⟩, 25), (⟨"BirthdayRoomsModel", "readRoomOf", "()Z"⟩, 25)]
theorem lw_r2 : ∀ q ∈ lw_privs_2, lw_okq q := List.forall_mem_cons.mpr ⟨lw_p16, List.forall_mem_cons.mpr ⟨lw_p17, List.forall_mem_cons.mpr ⟨lw_p18, List.forall_mem_cons.mpr ⟨lw_p19, List.forall_mem_cons.mpr ⟨lw_p20, List.forall_mem_cons.mpr ⟨lw_p21, List.forall_mem_cons.mpr ⟨lw_p22, List.forall_mem_cons.mpr ⟨lw_p23, List.forall_mem_cons.mpr ⟨lw_p24, List.forall_mem_cons.mpr ⟨lw_p25, List.forall_mem_cons.mpr ⟨lw_p26, List.forall_mem_cons.mpr ⟨lw_p27, List.forall_mem_cons.mpr ⟨lw_p28, List.forall_mem_cons.mpr ⟨lw_p29, List.forall_mem_cons.mpr ⟨lw_p30, List.forall_mem_cons.mpr ⟨lw_p31, fun _ h => absurd h List.not_mem_nil⟩⟩⟩⟩⟩⟩⟩⟩⟩⟩⟩⟩⟩⟩⟩⟩
theorem lw_p32 : lw_okq (⟨"BirthdayRoomsModel", "isOne", "(I)Z"⟩, 25) := ⟨⟨by decide +kernel, by decide +kernel⟩, List.mem_of_getElem? (i := 758) (by decide +kernel), List.mem_of_getElem? (i := 910) (by decide +kernel), List.mem_of_getElem? (i := 911) (by decide +kernel)⟩
theorem lw_p33 : lw_okq (⟨"BirthdayRoomsModel", "from", "([I)V"⟩, 25) := ⟨⟨by decide +kernel, by decide +kernel⟩, List.mem_of_getElem? (i := 758) (by decide +kernel), List.mem_of_getElem? (i := 914) (by decide +kernel), List.mem_of_getElem? (i := 915) (by decide +kernel)⟩
theorem lw_p34 : lw_okq (⟨"BirthdayRoomsModel", "findList", "()V"⟩, 25) := ⟨⟨by decide +kernel, by decide +kernel⟩, List.mem_of_getElem? (i := 758) (by decide +kernel), List.mem_of_getElem? (i := 918) (by decide +kernel), List.mem_of_getElem? (i := 919) (by decide +kernel)⟩
theorem lw_p35 : lw_okq (⟨"BirthdayRoomsModel", "placeOf", "(I)I"⟩, 25) := ⟨⟨by decide +kernel, by decide +kernel⟩, List.mem_of_getElem? (i := 758) (by decide +kernel), List.mem_of_getElem? (i := 922) (by decide +kernel), List.mem_of_getElem? (i := 923) (by decide +kernel)⟩
theorem lw_p36 : lw_okq (⟨"BirthdayRoomsModel", "whoseNow", "(I)I"⟩, 25) := ⟨⟨by decide +kernel, by decide +kernel⟩, List.mem_of_getElem? (i := 758) (by decide +kernel), List.mem_of_getElem? (i := 930) (by decide +kernel), List.mem_of_getElem? (i := 931) (by decide +kernel)⟩
theorem lw_p37 : lw_okq (⟨"BirthdayRoomsModel", "remembers", "()V"⟩, 25) := ⟨⟨by decide +kernel, by decide +kernel⟩, List.mem_of_getElem? (i := 758) (by decide +kernel), List.mem_of_getElem? (i := 938) (by decide +kernel), List.mem_of_getElem? (i := 939) (by decide +kernel)⟩
theorem lw_p38 : lw_okq (⟨"BirthdayRoomsModel", "goesOn", "(I)V"⟩, 25) := ⟨⟨by decide +kernel, by decide +kernel⟩, List.mem_of_getElem? (i := 758) (by decide +kernel), List.mem_of_getElem? (i := 942) (by decide +kernel), List.mem_of_getElem? (i := 943) (by decide +kernel)⟩
theorem lw_p39 : lw_okq (⟨"BirthdayRoomsModel", "goes", "()I"⟩, 25) := ⟨⟨by decide +kernel, by decide +kernel⟩, List.mem_of_getElem? (i := 758) (by decide +kernel), List.mem_of_getElem? (i := 946) (by decide +kernel), List.mem_of_getElem? (i := 947) (by decide +kernel)⟩
theorem lw_p40 : lw_okq (⟨"BirthdayRoomsModel", "changes", "(I)V"⟩, 25) := ⟨⟨by decide +kernel, by decide +kernel⟩, List.mem_of_getElem? (i := 758) (by decide +kernel), List.mem_of_getElem? (i := 950) (by decide +kernel), List.mem_of_getElem? (i := 951) (by decide +kernel)⟩
theorem lw_p41 : lw_okq (⟨"BirthdayRoomsModel", "sunIn", "(II)I"⟩, 25) := ⟨⟨by decide +kernel, by decide +kernel⟩, List.mem_of_getElem? (i := 758) (by decide +kernel), List.mem_of_getElem? (i := 957) (by decide +kernel), List.mem_of_getElem? (i := 958) (by decide +kernel)⟩
theorem lw_p42 : lw_okq (⟨"BirthdayRoomsModel", "sunOn", "(II)I"⟩, 25) := ⟨⟨by decide +kernel, by decide +kernel⟩, List.mem_of_getElem? (i := 758) (by decide +kernel), List.mem_of_getElem? (i := 985) (by decide +kernel), List.mem_of_getElem? (i := 986) (by decide +kernel)⟩
theorem lw_p43 : lw_okq (⟨"BirthdayRoomsModel", "wantOn", "(I)I"⟩, 25) := ⟨⟨by decide +kernel, by decide +kernel⟩, List.mem_of_getElem? (i := 758) (by decide +kernel), List.mem_of_getElem? (i := 997) (by decide +kernel), List.mem_of_getElem? (i := 998) (by decide +kernel)⟩
theorem lw_p44 : lw_okq (⟨"BirthdayRoomsModel", "triesSwaps", "(IIII)V"⟩, 25) := ⟨⟨by decide +kernel, by decide +kernel⟩, List.mem_of_getElem? (i := 758) (by decide +kernel), List.mem_of_getElem? (i := 1008) (by decide +kernel), List.mem_of_getElem? (i := 1009) (by decide +kernel)⟩
theorem lw_p45 : lw_okq (⟨"BirthdayRoomsModel", "wayBy", "(III)I"⟩, 25) := ⟨⟨by decide +kernel, by decide +kernel⟩, List.mem_of_getElem? (i := 758) (by decide +kernel), List.mem_of_getElem? (i := 1031) (by decide +kernel), List.mem_of_getElem? (i := 1032) (by decide +kernel)⟩
def lw_privs_3 : List (MethodName × Nat) := [(⟨"BirthdayRoomsModel", "isOne", "(I)Z"⟩, 25), (⟨"BirthdayRoomsModel", "from", "([I)V"⟩, 25), (⟨"BirthdayRoomsModel", "findList", "()V"⟩, 25), (⟨"BirthdayRoomsModel", "placeOf", "(I)I"⟩, 25), (⟨"BirthdayRoomsModel", "whoseNow", "(I)I"⟩, 25), (⟨"BirthdayRoomsModel", "remembers", "()V"⟩, 25), (⟨"BirthdayRoomsModel", "goesOn", "(I)V"⟩, 25), (⟨"BirthdayRoomsModel", "goes", "()I"⟩, 25), (⟨"BirthdayRoomsModel", "changes", "(I)V"⟩, 25), (⟨"BirthdayRoomsModel", "sunIn", "(II)I"⟩, 25), (⟨"BirthdayRoomsModel", "sunOn", "(II)I"⟩, 25), (⟨"BirthdayRoomsModel", "wantOn", "(I)I"⟩, 25), (⟨"BirthdayRoomsModel", "triesSwaps", "(IIII)V"⟩, 25), (⟨"BirthdayRoomsModel", "wayBy", "(III)I"⟩, 25)]
theorem lw_r3 : ∀ q ∈ lw_privs_3, lw_okq q := List.forall_mem_cons.mpr ⟨lw_p32, List.forall_mem_cons.mpr ⟨lw_p33, List.forall_mem_cons.mpr ⟨lw_p34, List.forall_mem_cons.mpr ⟨lw_p35, List.forall_mem_cons.mpr ⟨lw_p36, List.forall_mem_cons.mpr ⟨lw_p37, List.forall_mem_cons.mpr ⟨lw_p38, List.forall_mem_cons.mpr ⟨lw_p39, List.forall_mem_cons.mpr ⟨lw_p40, List.forall_mem_cons.mpr ⟨lw_p41, List.forall_mem_cons.mpr ⟨lw_p42, List.forall_mem_cons.mpr ⟨lw_p43, List.forall_mem_cons.mpr ⟨lw_p44, List.forall_mem_cons.mpr ⟨lw_p45, fun _ h => absurd h List.not_mem_nil⟩⟩⟩⟩⟩⟩⟩⟩⟩⟩⟩⟩⟩⟩
def lw_privs : List (MethodName × Nat) := lw_privs_1 ++ (lw_privs_2 ++ (lw_privs_3))
def lw_tbl : List Cond := k2_sels lw_privs ++ tables_1
theorem lw_privs_ok : ∀ q ∈ lw_privs, lw_okq q := by
  show ∀ q ∈ lw_privs_1 ++ (lw_privs_2 ++ (lw_privs_3)), lw_okq q
  exact List.forall_mem_append.mpr ⟨lw_r1, List.forall_mem_append.mpr ⟨lw_r2, lw_r3⟩⟩

def RX0 : String := "BirthdayRooms$Pile"
def TX0 : u_T := fun k => match k with
  | 0 => ("BirthdayRooms$Pile", "standings", "[LBirthdayRooms$Standing;", true)
  | _ => ("BirthdayRooms$Pile", "size", "I", false)
def tyX0 : Nat → FieldType := fun k => match k with
  | 0 => .array (.object "BirthdayRooms$Standing")
  | _ => .int
theorem nmX0 : ∀ a, a < 2 → ∀ b, b < 2 → a ≠ b → (TX0 a).2.1 ≠ (TX0 b).2.1 := by decide +kernel
theorem tyX0_ok : ∀ k, k < 2 → parseFieldDescriptor (TX0 k).2.2.1 = some (tyX0 k) := by decide +kernel
abbrev cX0_init : ByteArray := prog_2_method_1_code
def yX0_init : MethodName := ⟨RX0, "<init>", "(I)V"⟩
abbrev cX0_isFull : ByteArray := prog_2_method_2_code
def yX0_isFull : MethodName := ⟨RX0, "isFull", "()Z"⟩
abbrev cX0_size : ByteArray := prog_2_method_3_code
def yX0_size : MethodName := ⟨RX0, "size", "()I"⟩
abbrev cX0_clear : ByteArray := prog_2_method_4_code
def yX0_clear : MethodName := ⟨RX0, "clear", "()V"⟩
abbrev cX0_push : ByteArray := prog_2_method_5_code
def yX0_push : MethodName := ⟨RX0, "push", "(LBirthdayRooms$Standing;)V"⟩
abbrev cX0_pop : ByteArray := prog_2_method_6_code
def yX0_pop : MethodName := ⟨RX0, "pop", "(LBirthdayRooms$Standing;)Z"⟩
abbrev cX0_standingAt : ByteArray := prog_2_method_7_code
def yX0_standingAt : MethodName := ⟨RX0, "standingAt", "(I)LBirthdayRooms$Standing;"⟩
abbrev cX0_loseLowest : ByteArray := prog_2_method_8_code
def yX0_loseLowest : MethodName := ⟨RX0, "loseLowest", "()V"⟩
def RX1 : String := "BirthdayRooms$Plan"
def TX1 : u_T := fun k => match k with
  | 0 => ("BirthdayRooms$Plan", "kinds", "[I", true)
  | 1 => ("BirthdayRooms$Plan", "birthdays", "[I", true)
  | 2 => ("BirthdayRooms$Plan", "wants", "[I", true)
  | 3 => ("BirthdayRooms$Plan", "winterSuns", "[I", true)
  | 4 => ("BirthdayRooms$Plan", "summerSuns", "[I", true)
  | 5 => ("BirthdayRooms$Plan", "cousins", "I", false)
  | _ => ("BirthdayRooms$Plan", "rooms", "I", false)
def tyX1 : Nat → FieldType := fun k => match k with
  | 0 => .array .int
  | 1 => .array .int
  | 2 => .array .int
  | 3 => .array .int
  | 4 => .array .int
  | 5 => .int
  | _ => .int
theorem nmX1 : ∀ a, a < 7 → ∀ b, b < 7 → a ≠ b → (TX1 a).2.1 ≠ (TX1 b).2.1 := by decide +kernel
theorem tyX1_ok : ∀ k, k < 7 → parseFieldDescriptor (TX1 k).2.2.1 = some (tyX1 k) := by decide +kernel
abbrev cX1_init : ByteArray := prog_3_method_1_code
def yX1_init : MethodName := ⟨RX1, "<init>", "()V"⟩
abbrev cX1_clear : ByteArray := prog_3_method_2_code
def yX1_clear : MethodName := ⟨RX1, "clear", "()V"⟩
abbrev cX1_addCousin : ByteArray := prog_3_method_3_code
def yX1_addCousin : MethodName := ⟨RX1, "addCousin", "(III)Z"⟩
abbrev cX1_addRoom : ByteArray := prog_3_method_4_code
def yX1_addRoom : MethodName := ⟨RX1, "addRoom", "(II)Z"⟩
abbrev cX1_canBeLaid : ByteArray := prog_3_method_5_code
def yX1_canBeLaid : MethodName := ⟨RX1, "canBeLaid", "()Z"⟩
abbrev cX1_copyFrom : ByteArray := prog_3_method_6_code
def yX1_copyFrom : MethodName := ⟨RX1, "copyFrom", "(LBirthdayRooms$Plan;)V"⟩
abbrev cX1_cousins : ByteArray := prog_3_method_7_code
def yX1_cousins : MethodName := ⟨RX1, "cousins", "()I"⟩
abbrev cX1_rooms : ByteArray := prog_3_method_8_code
def yX1_rooms : MethodName := ⟨RX1, "rooms", "()I"⟩
abbrev cX1_kindOf : ByteArray := prog_3_method_9_code
def yX1_kindOf : MethodName := ⟨RX1, "kindOf", "(I)I"⟩
abbrev cX1_birthdayAtFirst : ByteArray := prog_3_method_10_code
def yX1_birthdayAtFirst : MethodName := ⟨RX1, "birthdayAtFirst", "(I)I"⟩
abbrev cX1_wantOf : ByteArray := prog_3_method_11_code
def yX1_wantOf : MethodName := ⟨RX1, "wantOf", "(I)I"⟩
abbrev cX1_winterSun : ByteArray := prog_3_method_12_code
def yX1_winterSun : MethodName := ⟨RX1, "winterSun", "(I)I"⟩
abbrev cX1_summerSun : ByteArray := prog_3_method_13_code
def yX1_summerSun : MethodName := ⟨RX1, "summerSun", "(I)I"⟩
abbrev cX1_sunsOn : ByteArray := prog_3_method_14_code
def yX1_sunsOn : MethodName := ⟨RX1, "sunsOn", "(I)[I"⟩
def RX2 : String := "BirthdayRooms$Search"
def TX2 : u_T := fun k => match k with
  | 0 => ("BirthdayRooms$Search", "plan", "LBirthdayRooms$Plan;", true)
  | 1 => ("BirthdayRooms$Search", "walk", "LBirthdayRooms$Walk;", true)
  | 2 => ("BirthdayRooms$Search", "best", "I", false)
  | 3 => ("BirthdayRooms$Search", "firstPair", "I", false)
  | _ => ("BirthdayRooms$Search", "secondPair", "I", false)
def tyX2 : Nat → FieldType := fun k => match k with
  | 0 => .object "BirthdayRooms$Plan"
  | 1 => .object "BirthdayRooms$Walk"
  | 2 => .int
  | 3 => .int
  | _ => .int
theorem nmX2 : ∀ a, a < 5 → ∀ b, b < 5 → a ≠ b → (TX2 a).2.1 ≠ (TX2 b).2.1 := by decide +kernel
theorem tyX2_ok : ∀ k, k < 5 → parseFieldDescriptor (TX2 k).2.2.1 = some (tyX2 k) := by decide +kernel
abbrev cX2_init : ByteArray := prog_4_method_1_code
def yX2_init : MethodName := ⟨RX2, "<init>", "(LBirthdayRooms$Plan;LBirthdayRooms$Walk;)V"⟩
abbrev cX2_best : ByteArray := prog_4_method_2_code
def yX2_best : MethodName := ⟨RX2, "best", "()I"⟩
abbrev cX2_firstPair : ByteArray := prog_4_method_3_code
def yX2_firstPair : MethodName := ⟨RX2, "firstPair", "()I"⟩
abbrev cX2_secondPair : ByteArray := prog_4_method_4_code
def yX2_secondPair : MethodName := ⟨RX2, "secondPair", "()I"⟩
abbrev cX2_seekMostSun : ByteArray := prog_4_method_5_code
def yX2_seekMostSun : MethodName := ⟨RX2, "seekMostSun", "(LBirthdayRooms$Standing;II)V"⟩
abbrev cX2_seekFewestCold : ByteArray := prog_4_method_6_code
def yX2_seekFewestCold : MethodName := ⟨RX2, "seekFewestCold", "(LBirthdayRooms$Standing;I)V"⟩
abbrev cX2_ownersByOneSwap : ByteArray := prog_4_method_7_code
def yX2_ownersByOneSwap : MethodName := ⟨RX2, "ownersByOneSwap", "(LBirthdayRooms$Standing;II)I"⟩
abbrev cX2_isPair : ByteArray := prog_4_method_8_code
def yX2_isPair : MethodName := ⟨RX2, "isPair", "(I)Z"⟩
abbrev cX2_beginBy : ByteArray := prog_4_method_9_code
def yX2_beginBy : MethodName := ⟨RX2, "beginBy", "(LBirthdayRooms$Standing;II)V"⟩
abbrev cX2_take : ByteArray := prog_4_method_10_code
def yX2_take : MethodName := ⟨RX2, "take", "(III)V"⟩
def RX3 : String := "BirthdayRooms$Sightings"
def TX3 : u_T := fun k => match k with
  | 0 => ("BirthdayRooms$Sightings", "cousins", "[I", true)
  | 1 => ("BirthdayRooms$Sightings", "rooms", "[I", true)
  | 2 => ("BirthdayRooms$Sightings", "days", "[I", true)
  | _ => ("BirthdayRooms$Sightings", "size", "I", false)
def tyX3 : Nat → FieldType := fun k => match k with
  | 0 => .array .int
  | 1 => .array .int
  | 2 => .array .int
  | _ => .int
theorem nmX3 : ∀ a, a < 4 → ∀ b, b < 4 → a ≠ b → (TX3 a).2.1 ≠ (TX3 b).2.1 := by decide +kernel
theorem tyX3_ok : ∀ k, k < 4 → parseFieldDescriptor (TX3 k).2.2.1 = some (tyX3 k) := by decide +kernel
abbrev cX3_init : ByteArray := prog_5_method_1_code
def yX3_init : MethodName := ⟨RX3, "<init>", "()V"⟩
abbrev cX3_isFull : ByteArray := prog_5_method_2_code
def yX3_isFull : MethodName := ⟨RX3, "isFull", "()Z"⟩
abbrev cX3_size : ByteArray := prog_5_method_3_code
def yX3_size : MethodName := ⟨RX3, "size", "()I"⟩
abbrev cX3_clear : ByteArray := prog_5_method_4_code
def yX3_clear : MethodName := ⟨RX3, "clear", "()V"⟩
abbrev cX3_add : ByteArray := prog_5_method_5_code
def yX3_add : MethodName := ⟨RX3, "add", "(III)V"⟩
abbrev cX3_set : ByteArray := prog_5_method_6_code
def yX3_set : MethodName := ⟨RX3, "set", "(IIII)V"⟩
abbrev cX3_allHoldOn : ByteArray := prog_5_method_7_code
def yX3_allHoldOn : MethodName := ⟨RX3, "allHoldOn", "(LBirthdayRooms$Walk;)Z"⟩
def RX4 : String := "BirthdayRooms$Standing"
def TX4 : u_T := fun k => match k with
  | 0 => ("BirthdayRooms$Standing", "rooms", "[I", true)
  | 1 => ("BirthdayRooms$Standing", "birthdays", "[I", true)
  | _ => ("BirthdayRooms$Standing", "day", "I", false)
def tyX4 : Nat → FieldType := fun k => match k with
  | 0 => .array .int
  | 1 => .array .int
  | _ => .int
theorem nmX4 : ∀ a, a < 3 → ∀ b, b < 3 → a ≠ b → (TX4 a).2.1 ≠ (TX4 b).2.1 := by decide +kernel
theorem tyX4_ok : ∀ k, k < 3 → parseFieldDescriptor (TX4 k).2.2.1 = some (tyX4 k) := by decide +kernel
abbrev cX4_init : ByteArray := prog_6_method_1_code
def yX4_init : MethodName := ⟨RX4, "<init>", "()V"⟩
abbrev cX4_beginAs : ByteArray := prog_6_method_2_code
def yX4_beginAs : MethodName := ⟨RX4, "beginAs", "(LBirthdayRooms$Plan;)V"⟩
abbrev cX4_copyFrom : ByteArray := prog_6_method_3_code
def yX4_copyFrom : MethodName := ⟨RX4, "copyFrom", "(LBirthdayRooms$Standing;)V"⟩
abbrev cX4_day : ByteArray := prog_6_method_4_code
def yX4_day : MethodName := ⟨RX4, "day", "()I"⟩
abbrev cX4_addDays : ByteArray := prog_6_method_5_code
def yX4_addDays : MethodName := ⟨RX4, "addDays", "(I)V"⟩
abbrev cX4_roomOf : ByteArray := prog_6_method_6_code
def yX4_roomOf : MethodName := ⟨RX4, "roomOf", "(I)I"⟩
abbrev cX4_ownerOf : ByteArray := prog_6_method_7_code
def yX4_ownerOf : MethodName := ⟨RX4, "ownerOf", "(II)I"⟩
abbrev cX4_birthdayOf : ByteArray := prog_6_method_8_code
def yX4_birthdayOf : MethodName := ⟨RX4, "birthdayOf", "(I)I"⟩
abbrev cX4_setBirthday : ByteArray := prog_6_method_9_code
def yX4_setBirthday : MethodName := ⟨RX4, "setBirthday", "(II)V"⟩
abbrev cX4_exchange : ByteArray := prog_6_method_10_code
def yX4_exchange : MethodName := ⟨RX4, "exchange", "(II)V"⟩
abbrev cX4_hasRoomsOf : ByteArray := prog_6_method_11_code
def yX4_hasRoomsOf : MethodName := ⟨RX4, "hasRoomsOf", "(LBirthdayRooms$Standing;I)Z"⟩
abbrev cX4_daysToBirthdayOf : ByteArray := prog_6_method_12_code
def yX4_daysToBirthdayOf : MethodName := ⟨RX4, "daysToBirthdayOf", "(I)I"⟩
def RX5 : String := "BirthdayRooms$Text"
def TX5 : u_T := fun k => match k with
  | 0 => ("BirthdayRooms$Text", "letters", "[C", true)
  | 1 => ("BirthdayRooms$Text", "numbers", "[I", true)
  | 2 => ("BirthdayRooms$Text", "length", "I", false)
  | _ => ("BirthdayRooms$Text", "place", "I", false)
def tyX5 : Nat → FieldType := fun k => match k with
  | 0 => .array .char
  | 1 => .array .int
  | 2 => .int
  | _ => .int
theorem nmX5 : ∀ a, a < 4 → ∀ b, b < 4 → a ≠ b → (TX5 a).2.1 ≠ (TX5 b).2.1 := by decide +kernel
theorem tyX5_ok : ∀ k, k < 4 → parseFieldDescriptor (TX5 k).2.2.1 = some (tyX5 k) := by decide +kernel
abbrev cX5_init : ByteArray := prog_7_method_1_code
def yX5_init : MethodName := ⟨RX5, "<init>", "()V"⟩
abbrev cX5_isFull : ByteArray := prog_7_method_2_code
def yX5_isFull : MethodName := ⟨RX5, "isFull", "()Z"⟩
abbrev cX5_size : ByteArray := prog_7_method_3_code
def yX5_size : MethodName := ⟨RX5, "size", "()I"⟩
abbrev cX5_add : ByteArray := prog_7_method_4_code
def yX5_add : MethodName := ⟨RX5, "add", "(C)V"⟩
abbrev cX5_clear : ByteArray := prog_7_method_5_code
def yX5_clear : MethodName := ⟨RX5, "clear", "()V"⟩
abbrev cX5_readInto : ByteArray := prog_7_method_6_code
def yX5_readInto : MethodName := ⟨RX5, "readInto", "(LBirthdayRooms$Plan;)I"⟩
abbrev cX5_readItem : ByteArray := prog_7_method_7_code
def yX5_readItem : MethodName := ⟨RX5, "readItem", "(LBirthdayRooms$Plan;)Z"⟩
abbrev cX5_readNumbers : ByteArray := prog_7_method_8_code
def yX5_readNumbers : MethodName := ⟨RX5, "readNumbers", "(I)Z"⟩
abbrev cX5_readNumber : ByteArray := prog_7_method_9_code
def yX5_readNumber : MethodName := ⟨RX5, "readNumber", "()I"⟩
abbrev cX5_isFigure : ByteArray := prog_7_method_10_code
def yX5_isFigure : MethodName := ⟨RX5, "isFigure", "(C)Z"⟩
abbrev cX5_letterHere : ByteArray := prog_7_method_11_code
def yX5_letterHere : MethodName := ⟨RX5, "letterHere", "()C"⟩
def RX6 : String := "BirthdayRooms$Walk"
def TX6 : u_T := fun k => match k with
  | 0 => ("BirthdayRooms$Walk", "plan", "LBirthdayRooms$Plan;", true)
  | 1 => ("BirthdayRooms$Walk", "standing", "LBirthdayRooms$Standing;", true)
  | 2 => ("BirthdayRooms$Walk", "list", "[I", true)
  | 3 => ("BirthdayRooms$Walk", "suns", "[I", true)
  | _ => ("BirthdayRooms$Walk", "colds", "I", false)
def tyX6 : Nat → FieldType := fun k => match k with
  | 0 => .object "BirthdayRooms$Plan"
  | 1 => .object "BirthdayRooms$Standing"
  | 2 => .array .int
  | 3 => .array .int
  | _ => .int
theorem nmX6 : ∀ a, a < 5 → ∀ b, b < 5 → a ≠ b → (TX6 a).2.1 ≠ (TX6 b).2.1 := by decide +kernel
theorem tyX6_ok : ∀ k, k < 5 → parseFieldDescriptor (TX6 k).2.2.1 = some (tyX6 k) := by decide +kernel
abbrev cX6_init : ByteArray := prog_8_method_1_code
def yX6_init : MethodName := ⟨RX6, "<init>", "(LBirthdayRooms$Plan;)V"⟩
abbrev cX6_begin : ByteArray := prog_8_method_2_code
def yX6_begin : MethodName := ⟨RX6, "begin", "(LBirthdayRooms$Standing;)V"⟩
abbrev cX6_beginWith : ByteArray := prog_8_method_3_code
def yX6_beginWith : MethodName := ⟨RX6, "beginWith", "(LBirthdayRooms$Standing;II)V"⟩
abbrev cX6_standing : ByteArray := prog_8_method_4_code
def yX6_standing : MethodName := ⟨RX6, "standing", "()LBirthdayRooms$Standing;"⟩
abbrev cX6_listed : ByteArray := prog_8_method_5_code
def yX6_listed : MethodName := ⟨RX6, "listed", "(I)I"⟩
abbrev cX6_placeOf : ByteArray := prog_8_method_6_code
def yX6_placeOf : MethodName := ⟨RX6, "placeOf", "(I)I"⟩
abbrev cX6_sunTogether : ByteArray := prog_8_method_7_code
def yX6_sunTogether : MethodName := ⟨RX6, "sunTogether", "(I)I"⟩
abbrev cX6_coldTogether : ByteArray := prog_8_method_8_code
def yX6_coldTogether : MethodName := ⟨RX6, "coldTogether", "()I"⟩
abbrev cX6_coldBits : ByteArray := prog_8_method_9_code
def yX6_coldBits : MethodName := ⟨RX6, "coldBits", "()I"⟩
abbrev cX6_go : ByteArray := prog_8_method_10_code
def yX6_go : MethodName := ⟨RX6, "go", "(I)V"⟩
abbrev cX6_goBehind : ByteArray := prog_8_method_11_code
def yX6_goBehind : MethodName := ⟨RX6, "goBehind", "(I)V"⟩
abbrev cX6_makeList : ByteArray := prog_8_method_12_code
def yX6_makeList : MethodName := ⟨RX6, "makeList", "()V"⟩
abbrev cX6_clearCounts : ByteArray := prog_8_method_13_code
def yX6_clearCounts : MethodName := ⟨RX6, "clearCounts", "()V"⟩
abbrev cX6_changeRooms : ByteArray := prog_8_method_14_code
def yX6_changeRooms : MethodName := ⟨RX6, "changeRooms", "()V"⟩
abbrev cX6_changeRoomOf : ByteArray := prog_8_method_15_code
def yX6_changeRoomOf : MethodName := ⟨RX6, "changeRoomOf", "(II)V"⟩
abbrev cX6_sunNow : ByteArray := prog_8_method_16_code
def yX6_sunNow : MethodName := ⟨RX6, "sunNow", "(I)I"⟩
abbrev cX6_daysAlike : ByteArray := prog_8_method_17_code
def yX6_daysAlike : MethodName := ⟨RX6, "daysAlike", "()I"⟩
abbrev cX6_countDays : ByteArray := prog_8_method_18_code
def yX6_countDays : MethodName := ⟨RX6, "countDays", "(I)V"⟩
def RX7 : String := "BirthdayRooms"
def TX7 : u_T := fun k => match k with
  | 0 => ("BirthdayRooms", "text", "LBirthdayRooms$Text;", true)
  | 1 => ("BirthdayRooms", "plan", "LBirthdayRooms$Plan;", true)
  | 2 => ("BirthdayRooms", "draft", "LBirthdayRooms$Plan;", true)
  | 3 => ("BirthdayRooms", "now", "LBirthdayRooms$Standing;", true)
  | 4 => ("BirthdayRooms", "atFirst", "LBirthdayRooms$Standing;", true)
  | 5 => ("BirthdayRooms", "undone", "LBirthdayRooms$Pile;", true)
  | 6 => ("BirthdayRooms", "kept", "LBirthdayRooms$Pile;", true)
  | 7 => ("BirthdayRooms", "sightings", "LBirthdayRooms$Sightings;", true)
  | 8 => ("BirthdayRooms", "walk", "LBirthdayRooms$Walk;", true)
  | _ => ("BirthdayRooms", "search", "LBirthdayRooms$Search;", true)
def tyX7 : Nat → FieldType := fun k => match k with
  | 0 => .object "BirthdayRooms$Text"
  | 1 => .object "BirthdayRooms$Plan"
  | 2 => .object "BirthdayRooms$Plan"
  | 3 => .object "BirthdayRooms$Standing"
  | 4 => .object "BirthdayRooms$Standing"
  | 5 => .object "BirthdayRooms$Pile"
  | 6 => .object "BirthdayRooms$Pile"
  | 7 => .object "BirthdayRooms$Sightings"
  | 8 => .object "BirthdayRooms$Walk"
  | _ => .object "BirthdayRooms$Search"
theorem nmX7 : ∀ a, a < 10 → ∀ b, b < 10 → a ≠ b → (TX7 a).2.1 ≠ (TX7 b).2.1 := by decide +kernel
theorem tyX7_ok : ∀ k, k < 10 → parseFieldDescriptor (TX7 k).2.2.1 = some (tyX7 k) := by decide +kernel
abbrev cX7_init : ByteArray := prog_1_method_1_code
def yX7_init : MethodName := ⟨RX7, "<init>", "()V"⟩
abbrev cX7_write : ByteArray := prog_1_method_2_code
def yX7_write : MethodName := ⟨RX7, "write", "(I)I"⟩
abbrev cX7_wipe : ByteArray := prog_1_method_3_code
def yX7_wipe : MethodName := ⟨RX7, "wipe", "()I"⟩
abbrev cX7_fault : ByteArray := prog_1_method_4_code
def yX7_fault : MethodName := ⟨RX7, "fault", "()I"⟩
abbrev cX7_lay : ByteArray := prog_1_method_5_code
def yX7_lay : MethodName := ⟨RX7, "lay", "()I"⟩
abbrev cX7_cousin : ByteArray := prog_1_method_6_code
def yX7_cousin : MethodName := ⟨RX7, "cousin", "(II)I"⟩
abbrev cX7_room : ByteArray := prog_1_method_7_code
def yX7_room : MethodName := ⟨RX7, "room", "(II)I"⟩
abbrev cX7_pass : ByteArray := prog_1_method_8_code
def yX7_pass : MethodName := ⟨RX7, "pass", "(I)I"⟩
abbrev cX7_swap : ByteArray := prog_1_method_9_code
def yX7_swap : MethodName := ⟨RX7, "swap", "(II)I"⟩
abbrev cX7_alter : ByteArray := prog_1_method_10_code
def yX7_alter : MethodName := ⟨RX7, "alter", "(II)I"⟩
abbrev cX7_undo : ByteArray := prog_1_method_11_code
def yX7_undo : MethodName := ⟨RX7, "undo", "()I"⟩
abbrev cX7_has : ByteArray := prog_1_method_12_code
def yX7_has : MethodName := ⟨RX7, "has", "(II)I"⟩
abbrev cX7_whose : ByteArray := prog_1_method_13_code
def yX7_whose : MethodName := ⟨RX7, "whose", "(II)I"⟩
abbrev cX7_sun : ByteArray := prog_1_method_14_code
def yX7_sun : MethodName := ⟨RX7, "sun", "(II)I"⟩
abbrev cX7_cold : ByteArray := prog_1_method_15_code
def yX7_cold : MethodName := ⟨RX7, "cold", "(I)I"⟩
abbrev cX7_want : ByteArray := prog_1_method_16_code
def yX7_want : MethodName := ⟨RX7, "want", "(I)I"⟩
abbrev cX7_swaps : ByteArray := prog_1_method_17_code
def yX7_swaps : MethodName := ⟨RX7, "swaps", "(III)I"⟩
abbrev cX7_warm : ByteArray := prog_1_method_18_code
def yX7_warm : MethodName := ⟨RX7, "warm", "(II)I"⟩
abbrev cX7_canHave : ByteArray := prog_1_method_19_code
def yX7_canHave : MethodName := ⟨RX7, "canHave", "(II)I"⟩
abbrev cX7_round : ByteArray := prog_1_method_20_code
def yX7_round : MethodName := ⟨RX7, "round", "()I"⟩
abbrev cX7_way : ByteArray := prog_1_method_21_code
def yX7_way : MethodName := ⟨RX7, "way", "(III)I"⟩
abbrev cX7_seen : ByteArray := prog_1_method_22_code
def yX7_seen : MethodName := ⟨RX7, "seen", "(III)I"⟩
abbrev cX7_forget : ByteArray := prog_1_method_23_code
def yX7_forget : MethodName := ⟨RX7, "forget", "()I"⟩
abbrev cX7_register : ByteArray := prog_1_method_24_code
def yX7_register : MethodName := ⟨RX7, "register", "(II)I"⟩
abbrev cX7_foundling : ByteArray := prog_1_method_25_code
def yX7_foundling : MethodName := ⟨RX7, "foundling", "(IIII)I"⟩
abbrev cX7_loses : ByteArray := prog_1_method_26_code
def yX7_loses : MethodName := ⟨RX7, "loses", "(I)I"⟩
abbrev cX7_next : ByteArray := prog_1_method_27_code
def yX7_next : MethodName := ⟨RX7, "next", "(I)I"⟩
abbrev cX7_year : ByteArray := prog_1_method_28_code
def yX7_year : MethodName := ⟨RX7, "year", "(III)I"⟩
abbrev cX7_keep : ByteArray := prog_1_method_29_code
def yX7_keep : MethodName := ⟨RX7, "keep", "()I"⟩
abbrev cX7_back : ByteArray := prog_1_method_30_code
def yX7_back : MethodName := ⟨RX7, "back", "()I"⟩
abbrev cX7_count : ByteArray := prog_1_method_31_code
def yX7_count : MethodName := ⟨RX7, "count", "(I)I"⟩
abbrev cX7_moveIn : ByteArray := prog_1_method_32_code
def yX7_moveIn : MethodName := ⟨RX7, "moveIn", "()V"⟩
abbrev cX7_isCousin : ByteArray := prog_1_method_33_code
def yX7_isCousin : MethodName := ⟨RX7, "isCousin", "(I)Z"⟩
abbrev cX7_isRoom : ByteArray := prog_1_method_34_code
def yX7_isRoom : MethodName := ⟨RX7, "isRoom", "(I)Z"⟩
abbrev cX7_wantsBetween : ByteArray := prog_1_method_35_code
def yX7_wantsBetween : MethodName := ⟨RX7, "wantsBetween", "(II)I"⟩
abbrev cX7_drawOf : ByteArray := prog_1_method_36_code
def yX7_drawOf : MethodName := ⟨RX7, "drawOf", "(II)I"⟩
abbrev cX7_exchangeByDraw : ByteArray := prog_1_method_37_code
def yX7_exchangeByDraw : MethodName := ⟨RX7, "exchangeByDraw", "(I)V"⟩
abbrev cX7_within : ByteArray := prog_1_method_38_code
def yX7_within : MethodName := ⟨RX7, "within", "(III)Z"⟩
abbrev cX7_wrapped : ByteArray := prog_1_method_39_code
def yX7_wrapped : MethodName := ⟨RX7, "wrapped", "(II)I"⟩
abbrev cX7_commonDivisor : ByteArray := prog_1_method_40_code
def yX7_commonDivisor : MethodName := ⟨RX7, "commonDivisor", "(II)I"⟩
abbrev cX7_at : ByteArray := prog_1_method_41_code
def yX7_at : MethodName := ⟨RX7, "at", "([II)I"⟩
abbrev cX7_put : ByteArray := prog_1_method_42_code
def yX7_put : MethodName := ⟨RX7, "put", "([III)V"⟩
abbrev cX7_copyRow : ByteArray := prog_1_method_43_code
def yX7_copyRow : MethodName := ⟨RX7, "copyRow", "([I[I)V"⟩
def RX8 : String := "BirthdayRoomsModel"
def TX8 : u_T := fun k => match k with
  | 0 => ("BirthdayRoomsModel", "many", "I", false)
  | 1 => ("BirthdayRoomsModel", "cousin", "[I", true)
  | 2 => ("BirthdayRoomsModel", "room", "[I", true)
  | 3 => ("BirthdayRoomsModel", "st", "[I", true)
  | 4 => ("BirthdayRoomsModel", "first", "[I", true)
  | 5 => ("BirthdayRoomsModel", "acts", "I", false)
  | 6 => ("BirthdayRoomsModel", "was", "[I", true)
  | 7 => ("BirthdayRoomsModel", "keeps", "I", false)
  | 8 => ("BirthdayRoomsModel", "kept", "[I", true)
  | 9 => ("BirthdayRoomsModel", "seens", "I", false)
  | 10 => ("BirthdayRoomsModel", "seen", "[I", true)
  | 11 => ("BirthdayRoomsModel", "text", "[I", true)
  | 12 => ("BirthdayRoomsModel", "texted", "I", false)
  | 13 => ("BirthdayRoomsModel", "at", "I", false)
  | 14 => ("BirthdayRoomsModel", "told", "[I", true)
  | 15 => ("BirthdayRoomsModel", "readCousins", "I", false)
  | 16 => ("BirthdayRoomsModel", "readCousin", "[I", true)
  | 17 => ("BirthdayRoomsModel", "readRooms", "I", false)
  | 18 => ("BirthdayRoomsModel", "readRoom", "[I", true)
  | 19 => ("BirthdayRoomsModel", "read", "[I", true)
  | 20 => ("BirthdayRoomsModel", "now", "[I", true)
  | 21 => ("BirthdayRoomsModel", "list", "[I", true)
  | 22 => ("BirthdayRoomsModel", "firstSwap", "I", false)
  | 23 => ("BirthdayRoomsModel", "secondSwap", "I", false)
  | _ => ("BirthdayRoomsModel", "mostSun", "I", false)
def tyX8 : Nat → FieldType := fun k => match k with
  | 0 => .int
  | 1 => .array .int
  | 2 => .array .int
  | 3 => .array .int
  | 4 => .array .int
  | 5 => .int
  | 6 => .array .int
  | 7 => .int
  | 8 => .array .int
  | 9 => .int
  | 10 => .array .int
  | 11 => .array .int
  | 12 => .int
  | 13 => .int
  | 14 => .array .int
  | 15 => .int
  | 16 => .array .int
  | 17 => .int
  | 18 => .array .int
  | 19 => .array .int
  | 20 => .array .int
  | 21 => .array .int
  | 22 => .int
  | 23 => .int
  | _ => .int
theorem nmX8 : ∀ a, a < 25 → ∀ b, b < 25 → a ≠ b → (TX8 a).2.1 ≠ (TX8 b).2.1 := by decide +kernel
theorem tyX8_ok : ∀ k, k < 25 → parseFieldDescriptor (TX8 k).2.2.1 = some (tyX8 k) := by decide +kernel
abbrev cX8_init : ByteArray := prog_10_method_1_code
def yX8_init : MethodName := ⟨RX8, "<init>", "()V"⟩
abbrev cX8_tellsCousin : ByteArray := prog_10_method_3_code
def yX8_tellsCousin : MethodName := ⟨RX8, "tellsCousin", "(III)V"⟩
abbrev cX8_tellsRoom : ByteArray := prog_10_method_4_code
def yX8_tellsRoom : MethodName := ⟨RX8, "tellsRoom", "(II)V"⟩
abbrev cX8_in : ByteArray := prog_10_method_5_code
def yX8_in : MethodName := ⟨RX8, "in", "(III)Z"⟩
abbrev cX8_bits : ByteArray := prog_10_method_6_code
def yX8_bits : MethodName := ⟨RX8, "bits", "(I)I"⟩
abbrev cX8_isOne : ByteArray := prog_10_method_7_code
def yX8_isOne : MethodName := ⟨RX8, "isOne", "(I)Z"⟩
abbrev cX8_write : ByteArray := prog_10_method_8_code
def yX8_write : MethodName := ⟨RX8, "write", "(I)I"⟩
abbrev cX8_wipe : ByteArray := prog_10_method_9_code
def yX8_wipe : MethodName := ⟨RX8, "wipe", "()I"⟩
abbrev cX8_letterAt : ByteArray := prog_10_method_10_code
def yX8_letterAt : MethodName := ⟨RX8, "letterAt", "(I)I"⟩
abbrev cX8_isFigure : ByteArray := prog_10_method_11_code
def yX8_isFigure : MethodName := ⟨RX8, "isFigure", "(I)Z"⟩
abbrev cX8_readNumbers : ByteArray := prog_10_method_12_code
def yX8_readNumbers : MethodName := ⟨RX8, "readNumbers", "(I)Z"⟩
abbrev cX8_isTold : ByteArray := prog_10_method_13_code
def yX8_isTold : MethodName := ⟨RX8, "isTold", "(III)Z"⟩
abbrev cX8_put : ByteArray := prog_10_method_14_code
def yX8_put : MethodName := ⟨RX8, "put", "([II[II)V"⟩
abbrev cX8_clearTold : ByteArray := prog_10_method_15_code
def yX8_clearTold : MethodName := ⟨RX8, "clearTold", "()V"⟩
abbrev cX8_readCousinOf : ByteArray := prog_10_method_16_code
def yX8_readCousinOf : MethodName := ⟨RX8, "readCousinOf", "()Z"⟩
abbrev cX8_readRoomOf : ByteArray := prog_10_method_17_code
def yX8_readRoomOf : MethodName := ⟨RX8, "readRoomOf", "()Z"⟩
abbrev cX8_readItem : ByteArray := prog_10_method_18_code
def yX8_readItem : MethodName := ⟨RX8, "readItem", "()Z"⟩
abbrev cX8_fault : ByteArray := prog_10_method_19_code
def yX8_fault : MethodName := ⟨RX8, "fault", "()I"⟩
abbrev cX8_lay : ByteArray := prog_10_method_20_code
def yX8_lay : MethodName := ⟨RX8, "lay", "()I"⟩
abbrev cX8_settles : ByteArray := prog_10_method_21_code
def yX8_settles : MethodName := ⟨RX8, "settles", "()V"⟩
abbrev cX8_from : ByteArray := prog_10_method_22_code
def yX8_from : MethodName := ⟨RX8, "from", "([I)V"⟩
abbrev cX8_findList : ByteArray := prog_10_method_23_code
def yX8_findList : MethodName := ⟨RX8, "findList", "()V"⟩
abbrev cX8_placeOf : ByteArray := prog_10_method_24_code
def yX8_placeOf : MethodName := ⟨RX8, "placeOf", "(I)I"⟩
abbrev cX8_sunIn : ByteArray := prog_10_method_25_code
def yX8_sunIn : MethodName := ⟨RX8, "sunIn", "(II)I"⟩
abbrev cX8_changes : ByteArray := prog_10_method_26_code
def yX8_changes : MethodName := ⟨RX8, "changes", "(I)V"⟩
abbrev cX8_goes : ByteArray := prog_10_method_27_code
def yX8_goes : MethodName := ⟨RX8, "goes", "()I"⟩
abbrev cX8_goesOn : ByteArray := prog_10_method_28_code
def yX8_goesOn : MethodName := ⟨RX8, "goesOn", "(I)V"⟩
abbrev cX8_whoseNow : ByteArray := prog_10_method_29_code
def yX8_whoseNow : MethodName := ⟨RX8, "whoseNow", "(I)I"⟩
abbrev cX8_sunOn : ByteArray := prog_10_method_30_code
def yX8_sunOn : MethodName := ⟨RX8, "sunOn", "(II)I"⟩
abbrev cX8_wantOn : ByteArray := prog_10_method_31_code
def yX8_wantOn : MethodName := ⟨RX8, "wantOn", "(I)I"⟩
abbrev cX8_cousin : ByteArray := prog_10_method_32_code
def yX8_cousin : MethodName := ⟨RX8, "cousin", "(II)I"⟩
abbrev cX8_room : ByteArray := prog_10_method_33_code
def yX8_room : MethodName := ⟨RX8, "room", "(II)I"⟩
abbrev cX8_remembers : ByteArray := prog_10_method_34_code
def yX8_remembers : MethodName := ⟨RX8, "remembers", "()V"⟩
abbrev cX8_pass : ByteArray := prog_10_method_35_code
def yX8_pass : MethodName := ⟨RX8, "pass", "(I)I"⟩
abbrev cX8_swap : ByteArray := prog_10_method_36_code
def yX8_swap : MethodName := ⟨RX8, "swap", "(II)I"⟩
abbrev cX8_swapped : ByteArray := prog_10_method_37_code
def yX8_swapped : MethodName := ⟨RX8, "swapped", "([III)V"⟩
abbrev cX8_alter : ByteArray := prog_10_method_38_code
def yX8_alter : MethodName := ⟨RX8, "alter", "(II)I"⟩
abbrev cX8_undo : ByteArray := prog_10_method_39_code
def yX8_undo : MethodName := ⟨RX8, "undo", "()I"⟩
abbrev cX8_has : ByteArray := prog_10_method_40_code
def yX8_has : MethodName := ⟨RX8, "has", "(II)I"⟩
abbrev cX8_whose : ByteArray := prog_10_method_41_code
def yX8_whose : MethodName := ⟨RX8, "whose", "(II)I"⟩
abbrev cX8_sun : ByteArray := prog_10_method_42_code
def yX8_sun : MethodName := ⟨RX8, "sun", "(II)I"⟩
abbrev cX8_cold : ByteArray := prog_10_method_43_code
def yX8_cold : MethodName := ⟨RX8, "cold", "(I)I"⟩
abbrev cX8_want : ByteArray := prog_10_method_44_code
def yX8_want : MethodName := ⟨RX8, "want", "(I)I"⟩
abbrev cX8_isPair : ByteArray := prog_10_method_45_code
def yX8_isPair : MethodName := ⟨RX8, "isPair", "(II)Z"⟩
abbrev cX8_triesSwaps : ByteArray := prog_10_method_46_code
def yX8_triesSwaps : MethodName := ⟨RX8, "triesSwaps", "(IIII)V"⟩
abbrev cX8_swaps : ByteArray := prog_10_method_47_code
def yX8_swaps : MethodName := ⟨RX8, "swaps", "(III)I"⟩
abbrev cX8_warm : ByteArray := prog_10_method_48_code
def yX8_warm : MethodName := ⟨RX8, "warm", "(II)I"⟩
abbrev cX8_canHave : ByteArray := prog_10_method_49_code
def yX8_canHave : MethodName := ⟨RX8, "canHave", "(II)I"⟩
abbrev cX8_round : ByteArray := prog_10_method_50_code
def yX8_round : MethodName := ⟨RX8, "round", "()I"⟩
abbrev cX8_wayBy : ByteArray := prog_10_method_51_code
def yX8_wayBy : MethodName := ⟨RX8, "wayBy", "(III)I"⟩
abbrev cX8_way : ByteArray := prog_10_method_52_code
def yX8_way : MethodName := ⟨RX8, "way", "(III)I"⟩
abbrev cX8_seen : ByteArray := prog_10_method_53_code
def yX8_seen : MethodName := ⟨RX8, "seen", "(III)I"⟩
abbrev cX8_forget : ByteArray := prog_10_method_54_code
def yX8_forget : MethodName := ⟨RX8, "forget", "()I"⟩
abbrev cX8_register : ByteArray := prog_10_method_55_code
def yX8_register : MethodName := ⟨RX8, "register", "(II)I"⟩
abbrev cX8_foundling : ByteArray := prog_10_method_56_code
def yX8_foundling : MethodName := ⟨RX8, "foundling", "(IIII)I"⟩
abbrev cX8_loses : ByteArray := prog_10_method_57_code
def yX8_loses : MethodName := ⟨RX8, "loses", "(I)I"⟩
abbrev cX8_next : ByteArray := prog_10_method_58_code
def yX8_next : MethodName := ⟨RX8, "next", "(I)I"⟩
abbrev cX8_year : ByteArray := prog_10_method_59_code
def yX8_year : MethodName := ⟨RX8, "year", "(III)I"⟩
abbrev cX8_keep : ByteArray := prog_10_method_60_code
def yX8_keep : MethodName := ⟨RX8, "keep", "()I"⟩
abbrev cX8_back : ByteArray := prog_10_method_61_code
def yX8_back : MethodName := ⟨RX8, "back", "()I"⟩
abbrev cX8_count : ByteArray := prog_10_method_62_code
def yX8_count : MethodName := ⟨RX8, "count", "(I)I"⟩
def RL : String := "BirthdayRoomsLaw"
abbrev cL_law : ByteArray := code
def yL_law : MethodName := ⟨RL, "law", "([I)Z"⟩
abbrev vwCl : List vw_C := [(RX0, TX0, 2), (RX1, TX1, 7), (RX2, TX2, 5), (RX3, TX3, 4), (RX4, TX4, 3), (RX5, TX5, 4), (RX6, TX6, 5), (RX7, TX7, 10), (RX8, TX8, 25)]
