section
-- ===== PART A: goes FIRST, ahead of the names: the tables' words, and 'selects' of the private methods out of them =====
/-- a private method of a class that the tables say can be made, by its rows of tables_1 -/
def lw_okq (q : MethodName × Nat) : Prop := (q.1.cls ≠ "java/lang/invoke/MethodHandle" ∧ q.1.cls ≠ "java/lang/invoke/VarHandle") ∧ Cond.instantiable q.1.cls q.2 ∈ tables_1 ∧ Cond.privateMethod q.1 ∈ tables_1 ∧ Cond.instanceMethod q.1 ∈ tables_1
theorem lw_p0 : lw_okq (⟨"BirthdayRooms$Text", "readItem", "(LBirthdayRooms$Plan;)Z"⟩, 4) := ⟨⟨by decide +kernel, by decide +kernel⟩, List.mem_of_getElem? (i := 24) (by decide +kernel), List.mem_of_getElem? (i := 234) (by decide +kernel), List.mem_of_getElem? (i := 235) (by decide +kernel)⟩
theorem lw_p1 : lw_okq (⟨"BirthdayRooms$Text", "letterHere", "()C"⟩, 4) := ⟨⟨by decide +kernel, by decide +kernel⟩, List.mem_of_getElem? (i := 24) (by decide +kernel), List.mem_of_getElem? (i := 238) (by decide +kernel), List.mem_of_getElem? (i := 239) (by decide +kernel)⟩
theorem lw_p2 : lw_okq (⟨"BirthdayRooms$Text", "readNumbers", "(I)Z"⟩, 4) := ⟨⟨by decide +kernel, by decide +kernel⟩, List.mem_of_getElem? (i := 24) (by decide +kernel), List.mem_of_getElem? (i := 242) (by decide +kernel), List.mem_of_getElem? (i := 243) (by decide +kernel)⟩
theorem lw_p3 : lw_okq (⟨"BirthdayRooms$Text", "readNumber", "()I"⟩, 4) := ⟨⟨by decide +kernel, by decide +kernel⟩, List.mem_of_getElem? (i := 24) (by decide +kernel), List.mem_of_getElem? (i := 246) (by decide +kernel), List.mem_of_getElem? (i := 247) (by decide +kernel)⟩
theorem lw_p4 : lw_okq (⟨"BirthdayRooms", "moveIn", "()V"⟩, 10) := ⟨⟨by decide +kernel, by decide +kernel⟩, List.mem_of_getElem? (i := 16) (by decide +kernel), List.mem_of_getElem? (i := 272) (by decide +kernel), List.mem_of_getElem? (i := 273) (by decide +kernel)⟩
theorem lw_p5 : lw_okq (⟨"BirthdayRooms", "isCousin", "(I)Z"⟩, 10) := ⟨⟨by decide +kernel, by decide +kernel⟩, List.mem_of_getElem? (i := 16) (by decide +kernel), List.mem_of_getElem? (i := 379) (by decide +kernel), List.mem_of_getElem? (i := 380) (by decide +kernel)⟩
theorem lw_p6 : lw_okq (⟨"BirthdayRooms$Walk", "makeList", "()V"⟩, 5) := ⟨⟨by decide +kernel, by decide +kernel⟩, List.mem_of_getElem? (i := 127) (by decide +kernel), List.mem_of_getElem? (i := 405) (by decide +kernel), List.mem_of_getElem? (i := 406) (by decide +kernel)⟩
theorem lw_p7 : lw_okq (⟨"BirthdayRooms$Walk", "clearCounts", "()V"⟩, 5) := ⟨⟨by decide +kernel, by decide +kernel⟩, List.mem_of_getElem? (i := 127) (by decide +kernel), List.mem_of_getElem? (i := 413) (by decide +kernel), List.mem_of_getElem? (i := 414) (by decide +kernel)⟩
theorem lw_p8 : lw_okq (⟨"BirthdayRooms", "isRoom", "(I)Z"⟩, 10) := ⟨⟨by decide +kernel, by decide +kernel⟩, List.mem_of_getElem? (i := 16) (by decide +kernel), List.mem_of_getElem? (i := 425) (by decide +kernel), List.mem_of_getElem? (i := 426) (by decide +kernel)⟩
theorem lw_p9 : lw_okq (⟨"BirthdayRooms$Pile", "loseLowest", "()V"⟩, 2) := ⟨⟨by decide +kernel, by decide +kernel⟩, List.mem_of_getElem? (i := 89) (by decide +kernel), List.mem_of_getElem? (i := 461) (by decide +kernel), List.mem_of_getElem? (i := 462) (by decide +kernel)⟩
theorem lw_p10 : lw_okq (⟨"BirthdayRooms$Pile", "standingAt", "(I)LBirthdayRooms$Standing;"⟩, 2) := ⟨⟨by decide +kernel, by decide +kernel⟩, List.mem_of_getElem? (i := 89) (by decide +kernel), List.mem_of_getElem? (i := 465) (by decide +kernel), List.mem_of_getElem? (i := 466) (by decide +kernel)⟩
theorem lw_p11 : lw_okq (⟨"BirthdayRooms$Walk", "changeRooms", "()V"⟩, 5) := ⟨⟨by decide +kernel, by decide +kernel⟩, List.mem_of_getElem? (i := 127) (by decide +kernel), List.mem_of_getElem? (i := 474) (by decide +kernel), List.mem_of_getElem? (i := 475) (by decide +kernel)⟩
theorem lw_p12 : lw_okq (⟨"BirthdayRooms$Walk", "changeRoomOf", "(II)V"⟩, 5) := ⟨⟨by decide +kernel, by decide +kernel⟩, List.mem_of_getElem? (i := 127) (by decide +kernel), List.mem_of_getElem? (i := 479) (by decide +kernel), List.mem_of_getElem? (i := 480) (by decide +kernel)⟩
theorem lw_p13 : lw_okq (⟨"BirthdayRooms$Walk", "sunNow", "(I)I"⟩, 5) := ⟨⟨by decide +kernel, by decide +kernel⟩, List.mem_of_getElem? (i := 127) (by decide +kernel), List.mem_of_getElem? (i := 490) (by decide +kernel), List.mem_of_getElem? (i := 491) (by decide +kernel)⟩
theorem lw_p14 : lw_okq (⟨"BirthdayRooms$Walk", "daysAlike", "()I"⟩, 5) := ⟨⟨by decide +kernel, by decide +kernel⟩, List.mem_of_getElem? (i := 127) (by decide +kernel), List.mem_of_getElem? (i := 503) (by decide +kernel), List.mem_of_getElem? (i := 504) (by decide +kernel)⟩
theorem lw_p15 : lw_okq (⟨"BirthdayRooms$Walk", "countDays", "(I)V"⟩, 5) := ⟨⟨by decide +kernel, by decide +kernel⟩, List.mem_of_getElem? (i := 127) (by decide +kernel), List.mem_of_getElem? (i := 517) (by decide +kernel), List.mem_of_getElem? (i := 518) (by decide +kernel)⟩
def lw_privs_1 : List (MethodName × Nat) := [(⟨"BirthdayRooms$Text", "readItem", "(LBirthdayRooms$Plan;)Z"⟩, 4), (⟨"BirthdayRooms$Text", "letterHere", "()C"⟩, 4), (⟨"BirthdayRooms$Text", "readNumbers", "(I)Z"⟩, 4), (⟨"BirthdayRooms$Text", "readNumber", "()I"⟩, 4), (⟨"BirthdayRooms", "moveIn", "()V"⟩, 10), (⟨"BirthdayRooms", "isCousin", "(I)Z"⟩, 10), (⟨"BirthdayRooms$Walk", "makeList", "()V"⟩, 5), (⟨"BirthdayRooms$Walk", "clearCounts", "()V"⟩, 5), (⟨"BirthdayRooms", "isRoom", "(I)Z"⟩, 10), (⟨"BirthdayRooms$Pile", "loseLowest", "()V"⟩, 2), (⟨"BirthdayRooms$Pile", "standingAt", "(I)LBirthdayRooms$Standing;"⟩, 2), (⟨"BirthdayRooms$Walk", "changeRooms", "()V"⟩, 5), (⟨"BirthdayRooms$Walk", "changeRoomOf", "(II)V"⟩, 5), (⟨"BirthdayRooms$Walk", "sunNow", "(I)I"⟩, 5), (⟨"BirthdayRooms$Walk", "daysAlike", "()I"⟩, 5), (⟨"BirthdayRooms$Walk", "countDays", "(I)V"⟩, 5)]
theorem lw_r1 : ∀ q ∈ lw_privs_1, lw_okq q := List.forall_mem_cons.mpr ⟨lw_p0, List.forall_mem_cons.mpr ⟨lw_p1, List.forall_mem_cons.mpr ⟨lw_p2, List.forall_mem_cons.mpr ⟨lw_p3, List.forall_mem_cons.mpr ⟨lw_p4, List.forall_mem_cons.mpr ⟨lw_p5, List.forall_mem_cons.mpr ⟨lw_p6, List.forall_mem_cons.mpr ⟨lw_p7, List.forall_mem_cons.mpr ⟨lw_p8, List.forall_mem_cons.mpr ⟨lw_p9, List.forall_mem_cons.mpr ⟨lw_p10, List.forall_mem_cons.mpr ⟨lw_p11, List.forall_mem_cons.mpr ⟨lw_p12, List.forall_mem_cons.mpr ⟨lw_p13, List.forall_mem_cons.mpr ⟨lw_p14, List.forall_mem_cons.mpr ⟨lw_p15, fun _ h => absurd h List.not_mem_nil⟩⟩⟩⟩⟩⟩⟩⟩⟩⟩⟩⟩⟩⟩⟩⟩
theorem lw_p16 : lw_okq (⟨"BirthdayRooms$Search", "beginBy", "(LBirthdayRooms$Standing;II)V"⟩, 5) := ⟨⟨by decide +kernel, by decide +kernel⟩, List.mem_of_getElem? (i := 151) (by decide +kernel), List.mem_of_getElem? (i := 600) (by decide +kernel), List.mem_of_getElem? (i := 601) (by decide +kernel)⟩
theorem lw_p17 : lw_okq (⟨"BirthdayRooms$Search", "take", "(III)V"⟩, 5) := ⟨⟨by decide +kernel, by decide +kernel⟩, List.mem_of_getElem? (i := 151) (by decide +kernel), List.mem_of_getElem? (i := 609) (by decide +kernel), List.mem_of_getElem? (i := 610) (by decide +kernel)⟩
theorem lw_p18 : lw_okq (⟨"BirthdayRooms$Search", "isPair", "(I)Z"⟩, 5) := ⟨⟨by decide +kernel, by decide +kernel⟩, List.mem_of_getElem? (i := 151) (by decide +kernel), List.mem_of_getElem? (i := 613) (by decide +kernel), List.mem_of_getElem? (i := 614) (by decide +kernel)⟩
theorem lw_p19 : lw_okq (⟨"BirthdayRooms", "wantsBetween", "(II)I"⟩, 10) := ⟨⟨by decide +kernel, by decide +kernel⟩, List.mem_of_getElem? (i := 16) (by decide +kernel), List.mem_of_getElem? (i := 661) (by decide +kernel), List.mem_of_getElem? (i := 662) (by decide +kernel)⟩
theorem lw_p20 : lw_okq (⟨"BirthdayRooms$Sightings", "set", "(IIII)V"⟩, 4) := ⟨⟨by decide +kernel, by decide +kernel⟩, List.mem_of_getElem? (i := 108) (by decide +kernel), List.mem_of_getElem? (i := 680) (by decide +kernel), List.mem_of_getElem? (i := 681) (by decide +kernel)⟩
theorem lw_p21 : lw_okq (⟨"BirthdayRooms", "exchangeByDraw", "(I)V"⟩, 10) := ⟨⟨by decide +kernel, by decide +kernel⟩, List.mem_of_getElem? (i := 16) (by decide +kernel), List.mem_of_getElem? (i := 741) (by decide +kernel), List.mem_of_getElem? (i := 742) (by decide +kernel)⟩
theorem lw_p22 : lw_okq (⟨"BirthdayRoomsModel", "clearTold", "()V"⟩, 25) := ⟨⟨by decide +kernel, by decide +kernel⟩, List.mem_of_getElem? (i := 758) (by decide +kernel), List.mem_of_getElem? (i := 764) (by decide +kernel), List.mem_of_getElem? (i := 765) (by decide +kernel)⟩
theorem lw_p23 : lw_okq (⟨"BirthdayRoomsModel", "tellsCousin", "(III)V"⟩, 25) := ⟨⟨by decide +kernel, by decide +kernel⟩, List.mem_of_getElem? (i := 758) (by decide +kernel), List.mem_of_getElem? (i := 771) (by decide +kernel), List.mem_of_getElem? (i := 772) (by decide +kernel)⟩
theorem lw_p24 : lw_okq (⟨"BirthdayRoomsModel", "tellsRoom", "(II)V"⟩, 25) := ⟨⟨by decide +kernel, by decide +kernel⟩, List.mem_of_getElem? (i := 758) (by decide +kernel), List.mem_of_getElem? (i := 775) (by decide +kernel), List.mem_of_getElem? (i := 776) (by decide +kernel)⟩
theorem lw_p25 : lw_okq (⟨"BirthdayRoomsModel", "settles", "()V"⟩, 25) := ⟨⟨by decide +kernel, by decide +kernel⟩, List.mem_of_getElem? (i := 758) (by decide +kernel), List.mem_of_getElem? (i := 779) (by decide +kernel), List.mem_of_getElem? (i := 780) (by decide +kernel)⟩
theorem lw_p26 : lw_okq (⟨"BirthdayRoomsModel", "readItem", "()Z"⟩, 25) := ⟨⟨by decide +kernel, by decide +kernel⟩, List.mem_of_getElem? (i := 758) (by decide +kernel), List.mem_of_getElem? (i := 874) (by decide +kernel), List.mem_of_getElem? (i := 875) (by decide +kernel)⟩
theorem lw_p27 : lw_okq (⟨"BirthdayRoomsModel", "letterAt", "(I)I"⟩, 25) := ⟨⟨by decide +kernel, by decide +kernel⟩, List.mem_of_getElem? (i := 758) (by decide +kernel), List.mem_of_getElem? (i := 878) (by decide +kernel), List.mem_of_getElem? (i := 879) (by decide +kernel)⟩
theorem lw_p28 : lw_okq (⟨"BirthdayRoomsModel", "readCousinOf", "()Z"⟩, 25) := ⟨⟨by decide +kernel, by decide +kernel⟩, List.mem_of_getElem? (i := 758) (by decide +kernel), List.mem_of_getElem? (i := 882) (by decide +kernel), List.mem_of_getElem? (i := 883) (by decide +kernel)⟩
theorem lw_p29 : lw_okq (⟨"BirthdayRoomsModel", "readNumbers", "(I)Z"⟩, 25) := ⟨⟨by decide +kernel, by decide +kernel⟩, List.mem_of_getElem? (i := 758) (by decide +kernel), List.mem_of_getElem? (i := 886) (by decide +kernel), List.mem_of_getElem? (i := 887) (by decide +kernel)⟩
theorem lw_p30 : lw_okq (⟨"BirthdayRoomsModel", "isTold", "(III)Z"⟩, 25) := ⟨⟨by decide +kernel, by decide +kernel⟩, List.mem_of_getElem? (i := 758) (by decide +kernel), List.mem_of_getElem? (i := 893) (by decide +kernel), List.mem_of_getElem? (i := 894) (by decide +kernel)⟩
theorem lw_p31 : lw_okq (⟨"BirthdayRoomsModel", "readRoomOf", "()Z"⟩, 25) := ⟨⟨by decide +kernel, by decide +kernel⟩, List.mem_of_getElem? (i := 758) (by decide +kernel), List.mem_of_getElem? (i := 897) (by decide +kernel), List.mem_of_getElem? (i := 898) (by decide +kernel)⟩
def lw_privs_2 : List (MethodName × Nat) := [(⟨"BirthdayRooms$Search", "beginBy", "(LBirthdayRooms$Standing;II)V"⟩, 5), (⟨"BirthdayRooms$Search", "take", "(III)V"⟩, 5), (⟨"BirthdayRooms$Search", "isPair", "(I)Z"⟩, 5), (⟨"BirthdayRooms", "wantsBetween", "(II)I"⟩, 10), (⟨"BirthdayRooms$Sightings", "set", "(IIII)V"⟩, 4), (⟨"BirthdayRooms", "exchangeByDraw", "(I)V"⟩, 10), (⟨"BirthdayRoomsModel", "clearTold", "()V"⟩, 25), (⟨"BirthdayRoomsModel", "tellsCousin", "(III)V"⟩, 25), (⟨"BirthdayRoomsModel", "tellsRoom", "(II)V"⟩, 25), (⟨"BirthdayRoomsModel", "settles", "()V"⟩, 25), (⟨"BirthdayRoomsModel", "readItem", "()Z"⟩, 25), (⟨"BirthdayRoomsModel", "letterAt", "(I)I"⟩, 25), (⟨"BirthdayRoomsModel", "readCousinOf", "()Z"⟩, 25), (⟨"BirthdayRoomsModel", "readNumbers", "(I)Z"⟩, 25), (⟨"BirthdayRoomsModel", "isTold", "(III)Z"⟩, 25), (⟨"BirthdayRoomsModel", "readRoomOf", "()Z"⟩, 25)]
theorem lw_r2 : ∀ q ∈ lw_privs_2, lw_okq q := List.forall_mem_cons.mpr ⟨lw_p16, List.forall_mem_cons.mpr ⟨lw_p17, List.forall_mem_cons.mpr ⟨lw_p18, List.forall_mem_cons.mpr ⟨lw_p19, List.forall_mem_cons.mpr ⟨lw_p20, List.forall_mem_cons.mpr ⟨lw_p21, List.forall_mem_cons.mpr ⟨lw_p22, List.forall_mem_cons.mpr ⟨lw_p23, List.forall_mem_cons.mpr ⟨lw_p24, List.forall_mem_cons.mpr ⟨lw_p25, List.forall_mem_cons.mpr ⟨lw_p26, List.forall_mem_cons.mpr ⟨lw_p27, List.forall_mem_cons.mpr ⟨lw_p28, List.forall_mem_cons.mpr ⟨lw_p29, List.forall_mem_cons.mpr ⟨lw_p30, List.forall_mem_cons.mpr ⟨lw_p31, fun _ h => absurd h List.not_mem_nil⟩⟩⟩⟩⟩⟩⟩⟩⟩⟩⟩⟩⟩⟩⟩⟩
theorem lw_p32 : lw_okq (⟨"BirthdayRoomsModel", "isOne", "(I)Z"⟩, 25) := ⟨⟨by decide +kernel, by decide +kernel⟩, List.mem_of_getElem? (i := 758) (by decide +kernel), List.mem_of_getElem? (i := 910) (by decide +kernel), List.mem_of_getElem? (i := 911) (by decide +kernel)⟩
theorem lw_p33 : lw_okq (⟨"BirthdayRoomsModel", "from", "([I)V"⟩, 25) := ⟨⟨by decide +kernel, by decide +kernel⟩, List.mem_of_getElem? (i := 758) (by decide +kernel), List.mem_of_getElem? (i := 914) (by decide +kernel), List.mem_of_getElem? (i := 915) (by decide +kernel)⟩
theorem lw_p34 : lw_okq (⟨"BirthdayRoomsModel", "findList", "()V"⟩, 25) := ⟨⟨by decide +kernel, by decide +kernel⟩, List.mem_of_getElem? (i := 758) (by decide +kernel), List.mem_of_getElem? (i := 918) (by decide +kernel), List.mem_of_getElem? (i := 919) (by decide +kernel)⟩
theorem lw_p35 : lw_okq (⟨"BirthdayRoomsModel", "placeOf", "(I)I"⟩, 25) := ⟨⟨by decide +kernel, by decide +kernel⟩, List.mem_of_getElem? (i := 758) (by decide +kernel), List.mem_of_getElem? (i := 922) (by decide +kernel), List.mem_of_getElem? (i := 923) (by decide +kernel)⟩
theorem lw_p36 : lw_okq (⟨"BirthdayRoomsModel", "whoseNow", "(I)I"⟩, 25) := ⟨⟨by decide +kernel, by decide +kernel⟩, List.mem_of_getElem? (i := 758) (by decide +kernel), List.mem_of_getElem? (i := 930) (by decide +kernel), List.mem_of_getElem? (i := 931) (by decide +kernel)⟩
theorem lw_p37 : lw_okq (⟨"BirthdayRoomsModel", "remembers", "()V"⟩, 25) := ⟨⟨by decide +kernel, by decide +kernel⟩, List.mem_of_getElem? (i := 758) (by decide +kernel), List.mem_of_getElem? (i := 938) (by decide +kernel), List.mem_of_getElem? (i := 939) (by decide +kernel)⟩
theorem lw_p38 : lw_okq (⟨"BirthdayRoomsModel", "goesOn", "(I)V"⟩, 25) := ⟨⟨by decide +kernel, by decide +kernel⟩, List.mem_of_getElem? (i := 758) (by decide +kernel), List.mem_of_getElem? (i := 942) (by decide +kernel), List.mem_of_getElem? (i := 943) (by decide +kernel)⟩
theorem lw_p39 : lw_okq (⟨"BirthdayRoomsModel", "goes", "()I"⟩, 25) := ⟨⟨by decide +kernel, by decide +kernel⟩, List.mem_of_getElem? (i := 758) (by decide +kernel), List.mem_of_getElem? (i := 946) (by decide +kernel), List.mem_of_getElem? (i := 947) (by decide +kernel)⟩
theorem lw_p40 : lw_okq (⟨"BirthdayRoomsModel", "changes", "(I)V"⟩, 25) := ⟨⟨by decide +kernel, by decide +kernel⟩, List.mem_of_getElem? (i := 758) (by decide +kernel), List.mem_of_getElem? (i := 950) (by decide +kernel), List.mem_of_getElem? (i := 951) (by decide +kernel)⟩
theorem lw_p41 : lw_okq (⟨"BirthdayRoomsModel", "sunIn", "(II)I"⟩, 25) := ⟨⟨by decide +kernel, by decide +kernel⟩, List.mem_of_getElem? (i := 758) (by decide +kernel), List.mem_of_getElem? (i := 957) (by decide +kernel), List.mem_of_getElem? (i := 958) (by decide +kernel)⟩
theorem lw_p42 : lw_okq (⟨"BirthdayRoomsModel", "sunOn", "(II)I"⟩, 25) := ⟨⟨by decide +kernel, by decide +kernel⟩, List.mem_of_getElem? (i := 758) (by decide +kernel), List.mem_of_getElem? (i := 985) (by decide +kernel), List.mem_of_getElem? (i := 986) (by decide +kernel)⟩
theorem lw_p43 : lw_okq (⟨"BirthdayRoomsModel", "wantOn", "(I)I"⟩, 25) := ⟨⟨by decide +kernel, by decide +kernel⟩, List.mem_of_getElem? (i := 758) (by decide +kernel), List.mem_of_getElem? (i := 997) (by decide +kernel), List.mem_of_getElem? (i := 998) (by decide +kernel)⟩
theorem lw_p44 : lw_okq (⟨"BirthdayRoomsModel", "triesSwaps", "(IIII)V"⟩, 25) := ⟨⟨by decide +kernel, by decide +kernel⟩, List.mem_of_getElem? (i := 758) (by decide +kernel), List.mem_of_getElem? (i := 1008) (by decide +kernel), List.mem_of_getElem? (i := 1009) (by decide +kernel)⟩
theorem lw_p45 : lw_okq (⟨"BirthdayRoomsModel", "wayBy", "(III)I"⟩, 25) := ⟨⟨by decide +kernel, by decide +kernel⟩, List.mem_of_getElem? (i := 758) (by decide +kernel), List.mem_of_getElem? (i := 1031) (by decide +kernel), List.mem_of_getElem? (i := 1032) (by decide +kernel)⟩
def lw_privs_3 : List (MethodName × Nat) := [(⟨"BirthdayRoomsModel", "isOne", "(I)Z"⟩, 25), (⟨"BirthdayRoomsModel", "from", "([I)V"⟩, 25), (⟨"BirthdayRoomsModel", "findList", "()V"⟩, 25), (⟨"BirthdayRoomsModel", "placeOf", "(I)I"⟩, 25), (⟨"BirthdayRoomsModel", "whoseNow", "(I)I"⟩, 25), (⟨"BirthdayRoomsModel", "remembers", "()V"⟩, 25), (⟨"BirthdayRoomsModel", "goesOn", "(I)V"⟩, 25), (⟨"BirthdayRoomsModel", "goes", "()I"⟩, 25), (⟨"BirthdayRoomsModel", "changes", "(I)V"⟩, 25), (⟨"BirthdayRoomsModel", "sunIn", "(II)I"⟩, 25), (⟨"BirthdayRoomsModel", "sunOn", "(II)I"⟩, 25), (⟨"BirthdayRoomsModel", "wantOn", "(I)I"⟩, 25), (⟨"BirthdayRoomsModel", "triesSwaps", "(IIII)V"⟩, 25), (⟨"BirthdayRoomsModel", "wayBy", "(III)I"⟩, 25)]
theorem lw_r3 : ∀ q ∈ lw_privs_3, lw_okq q := List.forall_mem_cons.mpr ⟨lw_p32, List.forall_mem_cons.mpr ⟨lw_p33, List.forall_mem_cons.mpr ⟨lw_p34, List.forall_mem_cons.mpr ⟨lw_p35, List.forall_mem_cons.mpr ⟨lw_p36, List.forall_mem_cons.mpr ⟨lw_p37, List.forall_mem_cons.mpr ⟨lw_p38, List.forall_mem_cons.mpr ⟨lw_p39, List.forall_mem_cons.mpr ⟨lw_p40, List.forall_mem_cons.mpr ⟨lw_p41, List.forall_mem_cons.mpr ⟨lw_p42, List.forall_mem_cons.mpr ⟨lw_p43, List.forall_mem_cons.mpr ⟨lw_p44, List.forall_mem_cons.mpr ⟨lw_p45, fun _ h => absurd h List.not_mem_nil⟩⟩⟩⟩⟩⟩⟩⟩⟩⟩⟩⟩⟩⟩
def lw_privs : List (MethodName × Nat) := lw_privs_1 ++ (lw_privs_2 ++ (lw_privs_3))
def lw_tbl : List Cond := k2_sels lw_privs ++ tables_1
theorem lw_privs_ok : ∀ q ∈ lw_privs, lw_okq q := by
  show ∀ q ∈ lw_privs_1 ++ (lw_privs_2 ++ (lw_privs_3)), lw_okq q
  exact List.forall_mem_append.mpr ⟨lw_r1, List.forall_mem_append.mpr ⟨lw_r2, lw_r3⟩⟩

def RX0 : String := "BirthdayRooms$Pile"
def TX0 : u_T := fun k => match k with
  | 0 => ("BirthdayRooms$Pile", "standings", "[LBirthdayRooms$Standing;", true)
  | _ => ("BirthdayRooms$Pile", "size", "I", false)
def tyX0 : Nat → FieldType := fun k => match k with
  | 0 => .array (.object "BirthdayRooms$Standing")
  | _ => .int
theorem nmX0 : ∀ a, a < 2 → ∀ b, b < 2 → a ≠ b → (TX0 a).2.1 ≠ (TX0 b).2.1 := by decide +kernel
theorem tyX0_ok : ∀ k, k < 2 → parseFieldDescriptor (TX0 k).2.2.1 = some (tyX0 k) := by decide +kernel
abbrev cX0_init : ByteArray := prog_2_method_1_code
def yX0_init : MethodName := ⟨RX0, "<init>", "(I)V"⟩
abbrev cX0_isFull : ByteArray := prog_2_method_2_code
def yX0_isFull : MethodName := ⟨RX0, "isFull", "()Z"⟩
abbrev cX0_size : ByteArray := prog_2_method_3_code
def yX0_size : MethodName := ⟨RX0, "size", "()I"⟩
abbrev cX0_clear : ByteArray := prog_2_method_4_code
def yX0_clear : MethodName := ⟨RX0, "clear", "()V"⟩
abbrev cX0_push : ByteArray := prog_2_method_5_code
def yX0_push : MethodName := ⟨RX0, "push", "(LBirthdayRooms$Standing;)V"⟩
abbrev cX0_pop : ByteArray := prog_2_method_6_code
def yX0_pop : MethodName := ⟨RX0, "pop", "(LBirthdayRooms$Standing;)Z"⟩
abbrev cX0_standingAt : ByteArray := prog_2_method_7_code
def yX0_standingAt : MethodName := ⟨RX0, "standingAt", "(I)LBirthdayRooms$Standing;"⟩
abbrev cX0_loseLowest : ByteArray := prog_2_method_8_code
def yX0_loseLowest : MethodName := ⟨RX0, "loseLowest", "()V"⟩
def RX1 : String := "BirthdayRooms$Plan"
def TX1 : u_T := fun k => match k with
  | 0 => ("BirthdayRooms$Plan", "kinds", "[I", true)
  | 1 => ("BirthdayRooms$Plan", "birthdays", "[I", true)
  | 2 => ("BirthdayRooms$Plan", "wants", "[I", true)
  | 3 => ("BirthdayRooms$Plan", "winterSuns", "[I", true)
  | 4 => ("BirthdayRooms$Plan", "summerSuns", "[I", true)
  | 5 => ("BirthdayRooms$Plan", "cousins", "I", false)
  | _ => ("BirthdayRooms$Plan", "rooms", "I", false)
def tyX1 : Nat → FieldType := fun k => match k with
  | 0 => .array .int
  | 1 => .array .int
  | 2 => .array .int
  | 3 => .array .int
  | 4 => .array .int
  | 5 => .int
  | _ => .int
theorem nmX1 : ∀ a, a < 7 → ∀ b, b < 7 → a ≠ b → (TX1 a).2.1 ≠ (TX1 b).2.1 := by decide +kernel
theorem tyX1_ok : ∀ k, k < 7 → parseFieldDescriptor (TX1 k).2.2.1 = some (tyX1 k) := by decide +kernel
abbrev cX1_init : ByteArray := prog_3_method_1_code
def yX1_init : MethodName := ⟨RX1, "<init>", "()V"⟩
abbrev cX1_clear : ByteArray := prog_3_method_2_code
def yX1_clear : MethodName := ⟨RX1, "clear", "()V"⟩
abbrev cX1_addCousin : ByteArray := prog_3_method_3_code
def yX1_addCousin : MethodName := ⟨RX1, "addCousin", "(III)Z"⟩
abbrev cX1_addRoom : ByteArray := prog_3_method_4_code
def yX1_addRoom : MethodName := ⟨RX1, "addRoom", "(II)Z"⟩
abbrev cX1_canBeLaid : ByteArray := prog_3_method_5_code
def yX1_canBeLaid : MethodName := ⟨RX1, "canBeLaid", "()Z"⟩
abbrev cX1_copyFrom : ByteArray := prog_3_method_6_code
def yX1_copyFrom : MethodName := ⟨RX1, "copyFrom", "(LBirthdayRooms$Plan;)V"⟩
abbrev cX1_cousins : ByteArray := prog_3_method_7_code
def yX1_cousins : MethodName := ⟨RX1, "cousins", "()I"⟩
abbrev cX1_rooms : ByteArray := prog_3_method_8_code
def yX1_rooms : MethodName := ⟨RX1, "rooms", "()I"⟩
abbrev cX1_kindOf : ByteArray := prog_3_method_9_code
def yX1_kindOf : MethodName := ⟨RX1, "kindOf", "(I)I"⟩
abbrev cX1_birthdayAtFirst : ByteArray := prog_3_method_10_code
def yX1_birthdayAtFirst : MethodName := ⟨RX1, "birthdayAtFirst", "(I)I"⟩
abbrev cX1_wantOf : ByteArray := prog_3_method_11_code
def yX1_wantOf : MethodName := ⟨RX1, "wantOf", "(I)I"⟩
abbrev cX1_winterSun : ByteArray := prog_3_method_12_code
def yX1_winterSun : MethodName := ⟨RX1, "winterSun", "(I)I"⟩
abbrev cX1_summerSun : ByteArray := prog_3_method_13_code
def yX1_summerSun : MethodName := ⟨RX1, "summerSun", "(I)I"⟩
abbrev cX1_sunsOn : ByteArray := prog_3_method_14_code
def yX1_sunsOn : MethodName := ⟨RX1, "sunsOn", "(I)[I"⟩
def RX2 : String := "BirthdayRooms$Search"
def TX2 : u_T := fun k => match k with
  | 0 => ("BirthdayRooms$Search", "plan", "LBirthdayRooms$Plan;", true)
  | 1 => ("BirthdayRooms$Search", "walk", "LBirthdayRooms$Walk;", true)
  | 2 => ("BirthdayRooms$Search", "best", "I", false)
  | 3 => ("BirthdayRooms$Search", "firstPair", "I", false)
  | _ => ("BirthdayRooms$Search", "secondPair", "I", false)
def tyX2 : Nat → FieldType := fun k => match k with
  | 0 => .object "BirthdayRooms$Plan"
  | 1 => .object "BirthdayRooms$Walk"
  | 2 => .int
  | 3 => .int
  | _ => .int
theorem nmX2 : ∀ a, a < 5 → ∀ b, b < 5 → a ≠ b → (TX2 a).2.1 ≠ (TX2 b).2.1 := by decide +kernel
theorem tyX2_ok : ∀ k, k < 5 → parseFieldDescriptor (TX2 k).2.2.1 = some (tyX2 k) := by decide +kernel
abbrev cX2_init : ByteArray := prog_4_method_1_code
def yX2_init : MethodName := ⟨RX2, "<init>", "(LBirthdayRooms$Plan;LBirthdayRooms$Walk;)V"⟩
abbrev cX2_best : ByteArray := prog_4_method_2_code
def yX2_best : MethodName := ⟨RX2, "best", "()I"⟩
abbrev cX2_firstPair : ByteArray := prog_4_method_3_code
def yX2_firstPair : MethodName := ⟨RX2, "firstPair", "()I"⟩
abbrev cX2_secondPair : ByteArray := prog_4_method_4_code
def yX2_secondPair : MethodName := ⟨RX2, "secondPair", "()I"⟩
abbrev cX2_seekMostSun : ByteArray := prog_4_method_5_code
def yX2_seekMostSun : MethodName := ⟨RX2, "seekMostSun", "(LBirthdayRooms$Standing;II)V"⟩
abbrev cX2_seekFewestCold : ByteArray := prog_4_method_6_code
def yX2_seekFewestCold : MethodName := ⟨RX2, "seekFewestCold", "(LBirthdayRooms$Standing;I)V"⟩
abbrev cX2_ownersByOneSwap : ByteArray := prog_4_method_7_code
def yX2_ownersByOneSwap : MethodName := ⟨RX2, "ownersByOneSwap", "(LBirthdayRooms$Standing;II)I"⟩
abbrev cX2_isPair : ByteArray := prog_4_method_8_code
def yX2_isPair : MethodName := ⟨RX2, "isPair", "(I)Z"⟩
abbrev cX2_beginBy : ByteArray := prog_4_method_9_code
def yX2_beginBy : MethodName := ⟨RX2, "beginBy", "(LBirthdayRooms$Standing;II)V"⟩
abbrev cX2_take : ByteArray := prog_4_method_10_code
def yX2_take : MethodName := ⟨RX2, "take", "(III)V"⟩
def RX3 : String := "BirthdayRooms$Sightings"
def TX3 : u_T := fun k => match k with
  | 0 => ("BirthdayRooms$Sightings", "cousins", "[I", true)
  | 1 => ("BirthdayRooms$Sightings", "rooms", "[I", true)
  | 2 => ("BirthdayRooms$Sightings", "days", "[I", true)
  | _ => ("BirthdayRooms$Sightings", "size", "I", false)
def tyX3 : Nat → FieldType := fun k => match k with
  | 0 => .array .int
  | 1 => .array .int
  | 2 => .array .int
  | _ => .int
theorem nmX3 : ∀ a, a < 4 → ∀ b, b < 4 → a ≠ b → (TX3 a).2.1 ≠ (TX3 b).2.1 := by decide +kernel
theorem tyX3_ok : ∀ k, k < 4 → parseFieldDescriptor (TX3 k).2.2.1 = some (tyX3 k) := by decide +kernel
abbrev cX3_init : ByteArray := prog_5_method_1_code
def yX3_init : MethodName := ⟨RX3, "<init>", "()V"⟩
abbrev cX3_isFull : ByteArray := prog_5_method_2_code
def yX3_isFull : MethodName := ⟨RX3, "isFull", "()Z"⟩
abbrev cX3_size : ByteArray := prog_5_method_3_code
def yX3_size : MethodName := ⟨RX3, "size", "()I"⟩
abbrev cX3_clear : ByteArray := prog_5_method_4_code
def yX3_clear : MethodName := ⟨RX3, "clear", "()V"⟩
abbrev cX3_add : ByteArray := prog_5_method_5_code
def yX3_add : MethodName := ⟨RX3, "add", "(III)V"⟩
abbrev cX3_set : ByteArray := prog_5_method_6_code
def yX3_set : MethodName := ⟨RX3, "set", "(IIII)V"⟩
abbrev cX3_allHoldOn : ByteArray := prog_5_method_7_code
def yX3_allHoldOn : MethodName := ⟨RX3, "allHoldOn", "(LBirthdayRooms$Walk;)Z"⟩
def RX4 : String := "BirthdayRooms$Standing"
def TX4 : u_T := fun k => match k with
  | 0 => ("BirthdayRooms$Standing", "rooms", "[I", true)
  | 1 => ("BirthdayRooms$Standing", "birthdays", "[I", true)
  | _ => ("BirthdayRooms$Standing", "day", "I", false)
def tyX4 : Nat → FieldType := fun k => match k with
  | 0 => .array .int
  | 1 => .array .int
  | _ => .int
theorem nmX4 : ∀ a, a < 3 → ∀ b, b < 3 → a ≠ b → (TX4 a).2.1 ≠ (TX4 b).2.1 := by decide +kernel
theorem tyX4_ok : ∀ k, k < 3 → parseFieldDescriptor (TX4 k).2.2.1 = some (tyX4 k) := by decide +kernel
abbrev cX4_init : ByteArray := prog_6_method_1_code
def yX4_init : MethodName := ⟨RX4, "<init>", "()V"⟩
abbrev cX4_beginAs : ByteArray := prog_6_method_2_code
def yX4_beginAs : MethodName := ⟨RX4, "beginAs", "(LBirthdayRooms$Plan;)V"⟩
abbrev cX4_copyFrom : ByteArray := prog_6_method_3_code
def yX4_copyFrom : MethodName := ⟨RX4, "copyFrom", "(LBirthdayRooms$Standing;)V"⟩
abbrev cX4_day : ByteArray := prog_6_method_4_code
def yX4_day : MethodName := ⟨RX4, "day", "()I"⟩
abbrev cX4_addDays : ByteArray := prog_6_method_5_code
def yX4_addDays : MethodName := ⟨RX4, "addDays", "(I)V"⟩
abbrev cX4_roomOf : ByteArray := prog_6_method_6_code
def yX4_roomOf : MethodName := ⟨RX4, "roomOf", "(I)I"⟩
abbrev cX4_ownerOf : ByteArray := prog_6_method_7_code
def yX4_ownerOf : MethodName := ⟨RX4, "ownerOf", "(II)I"⟩
abbrev cX4_birthdayOf : ByteArray := prog_6_method_8_code
def yX4_birthdayOf : MethodName := ⟨RX4, "birthdayOf", "(I)I"⟩
abbrev cX4_setBirthday : ByteArray := prog_6_method_9_code
def yX4_setBirthday : MethodName := ⟨RX4, "setBirthday", "(II)V"⟩
abbrev cX4_exchange : ByteArray := prog_6_method_10_code
def yX4_exchange : MethodName := ⟨RX4, "exchange", "(II)V"⟩
abbrev cX4_hasRoomsOf : ByteArray := prog_6_method_11_code
def yX4_hasRoomsOf : MethodName := ⟨RX4, "hasRoomsOf", "(LBirthdayRooms$Standing;I)Z"⟩
abbrev cX4_daysToBirthdayOf : ByteArray := prog_6_method_12_code
def yX4_daysToBirthdayOf : MethodName := ⟨RX4, "daysToBirthdayOf", "(I)I"⟩
def RX5 : String := "BirthdayRooms$Text"
def TX5 : u_T := fun k => match k with
  | 0 => ("BirthdayRooms$Text", "letters", "[C", true)
  | 1 => ("BirthdayRooms$Text", "numbers", "[I", true)
  | 2 => ("BirthdayRooms$Text", "length", "I", false)
  | _ => ("BirthdayRooms$Text", "place", "I", false)
def tyX5 : Nat → FieldType := fun k => match k with
  | 0 => .array .char
  | 1 => .array .int
  | 2 => .int
  | _ => .int
theorem nmX5 : ∀ a, a < 4 → ∀ b, b < 4 → a ≠ b → (TX5 a).2.1 ≠ (TX5 b).2.1 := by decide +kernel
theorem tyX5_ok : ∀ k, k < 4 → parseFieldDescriptor (TX5 k).2.2.1 = some (tyX5 k) := by decide +kernel
abbrev cX5_init : ByteArray := prog_7_method_1_code
def yX5_init : MethodName := ⟨RX5, "<init>", "()V"⟩
abbrev cX5_isFull : ByteArray := prog_7_method_2_code
def yX5_isFull : MethodName := ⟨RX5, "isFull", "()Z"⟩
abbrev cX5_size : ByteArray := prog_7_method_3_code
def yX5_size : MethodName := ⟨RX5, "size", "()I"⟩
abbrev cX5_add : ByteArray := prog_7_method_4_code
def yX5_add : MethodName := ⟨RX5, "add", "(C)V"⟩
abbrev cX5_clear : ByteArray := prog_7_method_5_code
def yX5_clear : MethodName := ⟨RX5, "clear", "()V"⟩
abbrev cX5_readInto : ByteArray := prog_7_method_6_code
def yX5_readInto : MethodName := ⟨RX5, "readInto", "(LBirthdayRooms$Plan;)I"⟩
abbrev cX5_readItem : ByteArray := prog_7_method_7_code
def yX5_readItem : MethodName := ⟨RX5, "readItem", "(LBirthdayRooms$Plan;)Z"⟩
abbrev cX5_readNumbers : ByteArray := prog_7_method_8_code
def yX5_readNumbers : MethodName := ⟨RX5, "readNumbers", "(I)Z"⟩
abbrev cX5_readNumber : ByteArray := prog_7_method_9_code
def yX5_readNumber : MethodName := ⟨RX5, "readNumber", "()I"⟩
abbrev cX5_isFigure : ByteArray := prog_7_method_10_code
def yX5_isFigure : MethodName := ⟨RX5, "isFigure", "(C)Z"⟩
abbrev cX5_letterHere : ByteArray := prog_7_method_11_code
def yX5_letterHere : MethodName := ⟨RX5, "letterHere", "()C"⟩
def RX6 : String := "BirthdayRooms$Walk"
def TX6 : u_T := fun k => match k with
  | 0 => ("BirthdayRooms$Walk", "plan", "LBirthdayRooms$Plan;", true)
  | 1 => ("BirthdayRooms$Walk", "standing", "LBirthdayRooms$Standing;", true)
  | 2 => ("BirthdayRooms$Walk", "list", "[I", true)
  | 3 => ("BirthdayRooms$Walk", "suns", "[I", true)
  | _ => ("BirthdayRooms$Walk", "colds", "I", false)
def tyX6 : Nat → FieldType := fun k => match k with
  | 0 => .object "BirthdayRooms$Plan"
  | 1 => .object "BirthdayRooms$Standing"
  | 2 => .array .int
  | 3 => .array .int
  | _ => .int
theorem nmX6 : ∀ a, a < 5 → ∀ b, b < 5 → a ≠ b → (TX6 a).2.1 ≠ (TX6 b).2.1 := by decide +kernel
theorem tyX6_ok : ∀ k, k < 5 → parseFieldDescriptor (TX6 k).2.2.1 = some (tyX6 k) := by decide +kernel
abbrev cX6_init : ByteArray := prog_8_method_1_code
def yX6_init : MethodName := ⟨RX6, "<init>", "(LBirthdayRooms$Plan;)V"⟩
abbrev cX6_begin : ByteArray := prog_8_method_2_code
def yX6_begin : MethodName := ⟨RX6, "begin", "(LBirthdayRooms$Standing;)V"⟩
abbrev cX6_beginWith : ByteArray := prog_8_method_3_code
def yX6_beginWith : MethodName := ⟨RX6, "beginWith", "(LBirthdayRooms$Standing;II)V"⟩
abbrev cX6_standing : ByteArray := prog_8_method_4_code
def yX6_standing : MethodName := ⟨RX6, "standing", "()LBirthdayRooms$Standing;"⟩
abbrev cX6_listed : ByteArray := prog_8_method_5_code
def yX6_listed : MethodName := ⟨RX6, "listed", "(I)I"⟩
abbrev cX6_placeOf : ByteArray := prog_8_method_6_code
def yX6_placeOf : MethodName := ⟨RX6, "placeOf", "(I)I"⟩
abbrev cX6_sunTogether : ByteArray := prog_8_method_7_code
def yX6_sunTogether : MethodName := ⟨RX6, "sunTogether", "(I)I"⟩
abbrev cX6_coldTogether : ByteArray := prog_8_method_8_code
def yX6_coldTogether : MethodName := ⟨RX6, "coldTogether", "()I"⟩
abbrev cX6_coldBits : ByteArray := prog_8_method_9_code
def yX6_coldBits : MethodName := ⟨RX6, "coldBits", "()I"⟩
abbrev cX6_go : ByteArray := prog_8_method_10_code
def yX6_go : MethodName := ⟨RX6, "go", "(I)V"⟩
abbrev cX6_goBehind : ByteArray := prog_8_method_11_code
def yX6_goBehind : MethodName := ⟨RX6, "goBehind", "(I)V"⟩
abbrev cX6_makeList : ByteArray := prog_8_method_12_code
def yX6_makeList : MethodName := ⟨RX6, "makeList", "()V"⟩
abbrev cX6_clearCounts : ByteArray := prog_8_method_13_code
def yX6_clearCounts : MethodName := ⟨RX6, "clearCounts", "()V"⟩
abbrev cX6_changeRooms : ByteArray := prog_8_method_14_code
def yX6_changeRooms : MethodName := ⟨RX6, "changeRooms", "()V"⟩
abbrev cX6_changeRoomOf : ByteArray := prog_8_method_15_code
def yX6_changeRoomOf : MethodName := ⟨RX6, "changeRoomOf", "(II)V"⟩
abbrev cX6_sunNow : ByteArray := prog_8_method_16_code
def yX6_sunNow : MethodName := ⟨RX6, "sunNow", "(I)I"⟩
abbrev cX6_daysAlike : ByteArray := prog_8_method_17_code
def yX6_daysAlike : MethodName := ⟨RX6, "daysAlike", "()I"⟩
abbrev cX6_countDays : ByteArray := prog_8_method_18_code
def yX6_countDays : MethodName := ⟨RX6, "countDays", "(I)V"⟩
def RX7 : String := "BirthdayRooms"
def TX7 : u_T := fun k => match k with
  | 0 => ("BirthdayRooms", "text", "LBirthdayRooms$Text;", true)
  | 1 => ("BirthdayRooms", "plan", "LBirthdayRooms$Plan;", true)
  | 2 => ("BirthdayRooms", "draft", "LBirthdayRooms$Plan;", true)
  | 3 => ("BirthdayRooms", "now", "LBirthdayRooms$Standing;", true)
  | 4 => ("BirthdayRooms", "atFirst", "LBirthdayRooms$Standing;", true)
  | 5 => ("BirthdayRooms", "undone", "LBirthdayRooms$Pile;", true)
  | 6 => ("BirthdayRooms", "kept", "LBirthdayRooms$Pile;", true)
  | 7 => ("BirthdayRooms", "sightings", "LBirthdayRooms$Sightings;", true)
  | 8 => ("BirthdayRooms", "walk", "LBirthdayRooms$Walk;", true)
  | _ => ("BirthdayRooms", "search", "LBirthdayRooms$Search;", true)
def tyX7 : Nat → FieldType := fun k => match k with
  | 0 => .object "BirthdayRooms$Text"
  | 1 => .object "BirthdayRooms$Plan"
  | 2 => .object "BirthdayRooms$Plan"
  | 3 => .object "BirthdayRooms$Standing"
  | 4 => .object "BirthdayRooms$Standing"
  | 5 => .object "BirthdayRooms$Pile"
  | 6 => .object "BirthdayRooms$Pile"
  | 7 => .object "BirthdayRooms$Sightings"
  | 8 => .object "BirthdayRooms$Walk"
  | _ => .object "BirthdayRooms$Search"
theorem nmX7 : ∀ a, a < 10 → ∀ b, b < 10 → a ≠ b → (TX7 a).2.1 ≠ (TX7 b).2.1 := by decide +kernel
theorem tyX7_ok : ∀ k, k < 10 → parseFieldDescriptor (TX7 k).2.2.1 = some (tyX7 k) := by decide +kernel
abbrev cX7_init : ByteArray := prog_1_method_1_code
def yX7_init : MethodName := ⟨RX7, "<init>", "()V"⟩
abbrev cX7_write : ByteArray := prog_1_method_2_code
def yX7_write : MethodName := ⟨RX7, "write", "(I)I"⟩
abbrev cX7_wipe : ByteArray := prog_1_method_3_code
def yX7_wipe : MethodName := ⟨RX7, "wipe", "()I"⟩
abbrev cX7_fault : ByteArray := prog_1_method_4_code
def yX7_fault : MethodName := ⟨RX7, "fault", "()I"⟩
abbrev cX7_lay : ByteArray := prog_1_method_5_code
def yX7_lay : MethodName := ⟨RX7, "lay", "()I"⟩
abbrev cX7_cousin : ByteArray := prog_1_method_6_code
def yX7_cousin : MethodName := ⟨RX7, "cousin", "(II)I"⟩
abbrev cX7_room : ByteArray := prog_1_method_7_code
def yX7_room : MethodName := ⟨RX7, "room", "(II)I"⟩
abbrev cX7_pass : ByteArray := prog_1_method_8_code
def yX7_pass : MethodName := ⟨RX7, "pass", "(I)I"⟩
abbrev cX7_swap : ByteArray := prog_1_method_9_code
def yX7_swap : MethodName := ⟨RX7, "swap", "(II)I"⟩
abbrev cX7_alter : ByteArray := prog_1_method_10_code
def yX7_alter : MethodName := ⟨RX7, "alter", "(II)I"⟩
abbrev cX7_undo : ByteArray := prog_1_method_11_code
def yX7_undo : MethodName := ⟨RX7, "undo", "()I"⟩
abbrev cX7_has : ByteArray := prog_1_method_12_code
def yX7_has : MethodName := ⟨RX7, "has", "(II)I"⟩
abbrev cX7_whose : ByteArray := prog_1_method_13_code
def yX7_whose : MethodName := ⟨RX7, "whose", "(II)I"⟩
abbrev cX7_sun : ByteArray := prog_1_method_14_code
def yX7_sun : MethodName := ⟨RX7, "sun", "(II)I"⟩
abbrev cX7_cold : ByteArray := prog_1_method_15_code
def yX7_cold : MethodName := ⟨RX7, "cold", "(I)I"⟩
abbrev cX7_want : ByteArray := prog_1_method_16_code
def yX7_want : MethodName := ⟨RX7, "want", "(I)I"⟩
abbrev cX7_swaps : ByteArray := prog_1_method_17_code
def yX7_swaps : MethodName := ⟨RX7, "swaps", "(III)I"⟩
abbrev cX7_warm : ByteArray := prog_1_method_18_code
def yX7_warm : MethodName := ⟨RX7, "warm", "(II)I"⟩
abbrev cX7_canHave : ByteArray := prog_1_method_19_code
def yX7_canHave : MethodName := ⟨RX7, "canHave", "(II)I"⟩
abbrev cX7_round : ByteArray := prog_1_method_20_code
def yX7_round : MethodName := ⟨RX7, "round", "()I"⟩
abbrev cX7_way : ByteArray := prog_1_method_21_code
def yX7_way : MethodName := ⟨RX7, "way", "(III)I"⟩
abbrev cX7_seen : ByteArray := prog_1_method_22_code
def yX7_seen : MethodName := ⟨RX7, "seen", "(III)I"⟩
abbrev cX7_forget : ByteArray := prog_1_method_23_code
def yX7_forget : MethodName := ⟨RX7, "forget", "()I"⟩
abbrev cX7_register : ByteArray := prog_1_method_24_code
def yX7_register : MethodName := ⟨RX7, "register", "(II)I"⟩
abbrev cX7_foundling : ByteArray := prog_1_method_25_code
def yX7_foundling : MethodName := ⟨RX7, "foundling", "(IIII)I"⟩
abbrev cX7_loses : ByteArray := prog_1_method_26_code
def yX7_loses : MethodName := ⟨RX7, "loses", "(I)I"⟩
abbrev cX7_next : ByteArray := prog_1_method_27_code
def yX7_next : MethodName := ⟨RX7, "next", "(I)I"⟩
abbrev cX7_year : ByteArray := prog_1_method_28_code
def yX7_year : MethodName := ⟨RX7, "year", "(III)I"⟩
abbrev cX7_keep : ByteArray := prog_1_method_29_code
def yX7_keep : MethodName := ⟨RX7, "keep", "()I"⟩
abbrev cX7_back : ByteArray := prog_1_method_30_code
def yX7_back : MethodName := ⟨RX7, "back", "()I"⟩
abbrev cX7_count : ByteArray := prog_1_method_31_code
def yX7_count : MethodName := ⟨RX7, "count", "(I)I"⟩
abbrev cX7_moveIn : ByteArray := prog_1_method_32_code
def yX7_moveIn : MethodName := ⟨RX7, "moveIn", "()V"⟩
abbrev cX7_isCousin : ByteArray := prog_1_method_33_code
def yX7_isCousin : MethodName := ⟨RX7, "isCousin", "(I)Z"⟩
abbrev cX7_isRoom : ByteArray := prog_1_method_34_code
def yX7_isRoom : MethodName := ⟨RX7, "isRoom", "(I)Z"⟩
abbrev cX7_wantsBetween : ByteArray := prog_1_method_35_code
def yX7_wantsBetween : MethodName := ⟨RX7, "wantsBetween", "(II)I"⟩
abbrev cX7_drawOf : ByteArray := prog_1_method_36_code
def yX7_drawOf : MethodName := ⟨RX7, "drawOf", "(II)I"⟩
abbrev cX7_exchangeByDraw : ByteArray := prog_1_method_37_code
def yX7_exchangeByDraw : MethodName := ⟨RX7, "exchangeByDraw", "(I)V"⟩
abbrev cX7_within : ByteArray := prog_1_method_38_code
def yX7_within : MethodName := ⟨RX7, "within", "(III)Z"⟩
abbrev cX7_wrapped : ByteArray := prog_1_method_39_code
def yX7_wrapped : MethodName := ⟨RX7, "wrapped", "(II)I"⟩
abbrev cX7_commonDivisor : ByteArray := prog_1_method_40_code
def yX7_commonDivisor : MethodName := ⟨RX7, "commonDivisor", "(II)I"⟩
abbrev cX7_at : ByteArray := prog_1_method_41_code
def yX7_at : MethodName := ⟨RX7, "at", "([II)I"⟩
abbrev cX7_put : ByteArray := prog_1_method_42_code
def yX7_put : MethodName := ⟨RX7, "put", "([III)V"⟩
abbrev cX7_copyRow : ByteArray := prog_1_method_43_code
def yX7_copyRow : MethodName := ⟨RX7, "copyRow", "([I[I)V"⟩
def RX8 : String := "BirthdayRoomsModel"
def TX8 : u_T := fun k => match k with
  | 0 => ("BirthdayRoomsModel", "many", "I", false)
  | 1 => ("BirthdayRoomsModel", "cousin", "[I", true)
  | 2 => ("BirthdayRoomsModel", "room", "[I", true)
  | 3 => ("BirthdayRoomsModel", "st", "[I", true)
  | 4 => ("BirthdayRoomsModel", "first", "[I", true)
  | 5 => ("BirthdayRoomsModel", "acts", "I", false)
  | 6 => ("BirthdayRoomsModel", "was", "[I", true)
  | 7 => ("BirthdayRoomsModel", "keeps", "I", false)
  | 8 => ("BirthdayRoomsModel", "kept", "[I", true)
  | 9 => ("BirthdayRoomsModel", "seens", "I", false)
  | 10 => ("BirthdayRoomsModel", "seen", "[I", true)
  | 11 => ("BirthdayRoomsModel", "text", "[I", true)
  | 12 => ("BirthdayRoomsModel", "texted", "I", false)
  | 13 => ("BirthdayRoomsModel", "at", "I", false)
  | 14 => ("BirthdayRoomsModel", "told", "[I", true)
  | 15 => ("BirthdayRoomsModel", "readCousins", "I", false)
  | 16 => ("BirthdayRoomsModel", "readCousin", "[I", true)
  | 17 => ("BirthdayRoomsModel", "readRooms", "I", false)
  | 18 => ("BirthdayRoomsModel", "readRoom", "[I", true)
  | 19 => ("BirthdayRoomsModel", "read", "[I", true)
  | 20 => ("BirthdayRoomsModel", "now", "[I", true)
  | 21 => ("BirthdayRoomsModel", "list", "[I", true)
  | 22 => ("BirthdayRoomsModel", "firstSwap", "I", false)
  | 23 => ("BirthdayRoomsModel", "secondSwap", "I", false)
  | _ => ("BirthdayRoomsModel", "mostSun", "I", false)
def tyX8 : Nat → FieldType := fun k => match k with
  | 0 => .int
  | 1 => .array .int
  | 2 => .array .int
  | 3 => .array .int
  | 4 => .array .int
  | 5 => .int
  | 6 => .array .int
  | 7 => .int
  | 8 => .array .int
  | 9 => .int
  | 10 => .array .int
  | 11 => .array .int
  | 12 => .int
  | 13 => .int
  | 14 => .array .int
  | 15 => .int
  | 16 => .array .int
  | 17 => .int
  | 18 => .array .int
  | 19 => .array .int
  | 20 => .array .int
  | 21 => .array .int
  | 22 => .int
  | 23 => .int
  | _ => .int
theorem nmX8 : ∀ a, a < 25 → ∀ b, b < 25 → a ≠ b → (TX8 a).2.1 ≠ (TX8 b).2.1 := by decide +kernel
theorem tyX8_ok : ∀ k, k < 25 → parseFieldDescriptor (TX8 k).2.2.1 = some (tyX8 k) := by decide +kernel
abbrev cX8_init : ByteArray := prog_10_method_1_code
def yX8_init : MethodName := ⟨RX8, "<init>", "()V"⟩
abbrev cX8_tellsCousin : ByteArray := prog_10_method_3_code
def yX8_tellsCousin : MethodName := ⟨RX8, "tellsCousin", "(III)V"⟩
abbrev cX8_tellsRoom : ByteArray := prog_10_method_4_code
def yX8_tellsRoom : MethodName := ⟨RX8, "tellsRoom", "(II)V"⟩
abbrev cX8_in : ByteArray := prog_10_method_5_code
def yX8_in : MethodName := ⟨RX8, "in", "(III)Z"⟩
abbrev cX8_bits : ByteArray := prog_10_method_6_code
def yX8_bits : MethodName := ⟨RX8, "bits", "(I)I"⟩
abbrev cX8_isOne : ByteArray := prog_10_method_7_code
def yX8_isOne : MethodName := ⟨RX8, "isOne", "(I)Z"⟩
abbrev cX8_write : ByteArray := prog_10_method_8_code
def yX8_write : MethodName := ⟨RX8, "write", "(I)I"⟩
abbrev cX8_wipe : ByteArray := prog_10_method_9_code
def yX8_wipe : MethodName := ⟨RX8, "wipe", "()I"⟩
abbrev cX8_letterAt : ByteArray := prog_10_method_10_code
def yX8_letterAt : MethodName := ⟨RX8, "letterAt", "(I)I"⟩
abbrev cX8_isFigure : ByteArray := prog_10_method_11_code
def yX8_isFigure : MethodName := ⟨RX8, "isFigure", "(I)Z"⟩
abbrev cX8_readNumbers : ByteArray := prog_10_method_12_code
def yX8_readNumbers : MethodName := ⟨RX8, "readNumbers", "(I)Z"⟩
abbrev cX8_isTold : ByteArray := prog_10_method_13_code
def yX8_isTold : MethodName := ⟨RX8, "isTold", "(III)Z"⟩
abbrev cX8_put : ByteArray := prog_10_method_14_code
def yX8_put : MethodName := ⟨RX8, "put", "([II[II)V"⟩
abbrev cX8_clearTold : ByteArray := prog_10_method_15_code
def yX8_clearTold : MethodName := ⟨RX8, "clearTold", "()V"⟩
abbrev cX8_readCousinOf : ByteArray := prog_10_method_16_code
def yX8_readCousinOf : MethodName := ⟨RX8, "readCousinOf", "()Z"⟩
abbrev cX8_readRoomOf : ByteArray := prog_10_method_17_code
def yX8_readRoomOf : MethodName := ⟨RX8, "readRoomOf", "()Z"⟩
abbrev cX8_readItem : ByteArray := prog_10_method_18_code
def yX8_readItem : MethodName := ⟨RX8, "readItem", "()Z"⟩
abbrev cX8_fault : ByteArray := prog_10_method_19_code
def yX8_fault : MethodName := ⟨RX8, "fault", "()I"⟩
abbrev cX8_lay : ByteArray := prog_10_method_20_code
def yX8_lay : MethodName := ⟨RX8, "lay", "()I"⟩
abbrev cX8_settles : ByteArray := prog_10_method_21_code
def yX8_settles : MethodName := ⟨RX8, "settles", "()V"⟩
abbrev cX8_from : ByteArray := prog_10_method_22_code
def yX8_from : MethodName := ⟨RX8, "from", "([I)V"⟩
abbrev cX8_findList : ByteArray := prog_10_method_23_code
def yX8_findList : MethodName := ⟨RX8, "findList", "()V"⟩
abbrev cX8_placeOf : ByteArray := prog_10_method_24_code
def yX8_placeOf : MethodName := ⟨RX8, "placeOf", "(I)I"⟩
abbrev cX8_sunIn : ByteArray := prog_10_method_25_code
def yX8_sunIn : MethodName := ⟨RX8, "sunIn", "(II)I"⟩
abbrev cX8_changes : ByteArray := prog_10_method_26_code
def yX8_changes : MethodName := ⟨RX8, "changes", "(I)V"⟩
abbrev cX8_goes : ByteArray := prog_10_method_27_code
def yX8_goes : MethodName := ⟨RX8, "goes", "()I"⟩
abbrev cX8_goesOn : ByteArray := prog_10_method_28_code
def yX8_goesOn : MethodName := ⟨RX8, "goesOn", "(I)V"⟩
abbrev cX8_whoseNow : ByteArray := prog_10_method_29_code
def yX8_whoseNow : MethodName := ⟨RX8, "whoseNow", "(I)I"⟩
abbrev cX8_sunOn : ByteArray := prog_10_method_30_code
def yX8_sunOn : MethodName := ⟨RX8, "sunOn", "(II)I"⟩
abbrev cX8_wantOn : ByteArray := prog_10_method_31_code
def yX8_wantOn : MethodName := ⟨RX8, "wantOn", "(I)I"⟩
abbrev cX8_cousin : ByteArray := prog_10_method_32_code
def yX8_cousin : MethodName := ⟨RX8, "cousin", "(II)I"⟩
abbrev cX8_room : ByteArray := prog_10_method_33_code
def yX8_room : MethodName := ⟨RX8, "room", "(II)I"⟩
abbrev cX8_remembers : ByteArray := prog_10_method_34_code
def yX8_remembers : MethodName := ⟨RX8, "remembers", "()V"⟩
abbrev cX8_pass : ByteArray := prog_10_method_35_code
def yX8_pass : MethodName := ⟨RX8, "pass", "(I)I"⟩
abbrev cX8_swap : ByteArray := prog_10_method_36_code
def yX8_swap : MethodName := ⟨RX8, "swap", "(II)I"⟩
abbrev cX8_swapped : ByteArray := prog_10_method_37_code
def yX8_swapped : MethodName := ⟨RX8, "swapped", "([III)V"⟩
abbrev cX8_alter : ByteArray := prog_10_method_38_code
def yX8_alter : MethodName := ⟨RX8, "alter", "(II)I"⟩
abbrev cX8_undo : ByteArray := prog_10_method_39_code
def yX8_undo : MethodName := ⟨RX8, "undo", "()I"⟩
abbrev cX8_has : ByteArray := prog_10_method_40_code
def yX8_has : MethodName := ⟨RX8, "has", "(II)I"⟩
abbrev cX8_whose : ByteArray := prog_10_method_41_code
def yX8_whose : MethodName := ⟨RX8, "whose", "(II)I"⟩
abbrev cX8_sun : ByteArray := prog_10_method_42_code
def yX8_sun : MethodName := ⟨RX8, "sun", "(II)I"⟩
abbrev cX8_cold : ByteArray := prog_10_method_43_code
def yX8_cold : MethodName := ⟨RX8, "cold", "(I)I"⟩
abbrev cX8_want : ByteArray := prog_10_method_44_code
def yX8_want : MethodName := ⟨RX8, "want", "(I)I"⟩
abbrev cX8_isPair : ByteArray := prog_10_method_45_code
def yX8_isPair : MethodName := ⟨RX8, "isPair", "(II)Z"⟩
abbrev cX8_triesSwaps : ByteArray := prog_10_method_46_code
def yX8_triesSwaps : MethodName := ⟨RX8, "triesSwaps", "(IIII)V"⟩
abbrev cX8_swaps : ByteArray := prog_10_method_47_code
def yX8_swaps : MethodName := ⟨RX8, "swaps", "(III)I"⟩
abbrev cX8_warm : ByteArray := prog_10_method_48_code
def yX8_warm : MethodName := ⟨RX8, "warm", "(II)I"⟩
abbrev cX8_canHave : ByteArray := prog_10_method_49_code
def yX8_canHave : MethodName := ⟨RX8, "canHave", "(II)I"⟩
abbrev cX8_round : ByteArray := prog_10_method_50_code
def yX8_round : MethodName := ⟨RX8, "round", "()I"⟩
abbrev cX8_wayBy : ByteArray := prog_10_method_51_code
def yX8_wayBy : MethodName := ⟨RX8, "wayBy", "(III)I"⟩
abbrev cX8_way : ByteArray := prog_10_method_52_code
def yX8_way : MethodName := ⟨RX8, "way", "(III)I"⟩
abbrev cX8_seen : ByteArray := prog_10_method_53_code
def yX8_seen : MethodName := ⟨RX8, "seen", "(III)I"⟩
abbrev cX8_forget : ByteArray := prog_10_method_54_code
def yX8_forget : MethodName := ⟨RX8, "forget", "()I"⟩
abbrev cX8_register : ByteArray := prog_10_method_55_code
def yX8_register : MethodName := ⟨RX8, "register", "(II)I"⟩
abbrev cX8_foundling : ByteArray := prog_10_method_56_code
def yX8_foundling : MethodName := ⟨RX8, "foundling", "(IIII)I"⟩
abbrev cX8_loses : ByteArray := prog_10_method_57_code
def yX8_loses : MethodName := ⟨RX8, "loses", "(I)I"⟩
abbrev cX8_next : ByteArray := prog_10_method_58_code
def yX8_next : MethodName := ⟨RX8, "next", "(I)I"⟩
abbrev cX8_year : ByteArray := prog_10_method_59_code
def yX8_year : MethodName := ⟨RX8, "year", "(III)I"⟩
abbrev cX8_keep : ByteArray := prog_10_method_60_code
def yX8_keep : MethodName := ⟨RX8, "keep", "()I"⟩
abbrev cX8_back : ByteArray := prog_10_method_61_code
def yX8_back : MethodName := ⟨RX8, "back", "()I"⟩
abbrev cX8_count : ByteArray := prog_10_method_62_code
def yX8_count : MethodName := ⟨RX8, "count", "(I)I"⟩
def RL : String := "BirthdayRoomsLaw"
abbrev cL_law : ByteArray := code
def yL_law : MethodName := ⟨RL, "law", "([I)Z"⟩
abbrev vwCl : List vw_C := [(RX0, TX0, 2), (RX1, TX1, 7), (RX2, TX2, 5), (RX3, TX3, 4), (RX4, TX4, 3), (RX5, TX5, 4), (RX6, TX6, 5), (RX7, TX7, 10), (RX8, TX8, 25)]
end
section
theorem dX0_init_0 : decode cX0_init 0 = .ok (.aload_n 0, 1) := by decide +kernel
theorem dX0_init_1 : decode cX0_init 1 = .ok (.invokespecial 1, 3) := by decide +kernel
theorem dX0_init_4 : decode cX0_init 4 = .ok (.aload_n 0, 1) := by decide +kernel
theorem dX0_init_5 : decode cX0_init 5 = .ok (.iconst 1, 1) := by decide +kernel
theorem dX0_init_6 : decode cX0_init 6 = .ok (.iload_n 1, 1) := by decide +kernel
theorem dX0_init_7 : decode cX0_init 7 = .ok (.invokestatic 7, 3) := by decide +kernel
theorem dX0_init_10 : decode cX0_init 10 = .ok (.anewarray 13, 3) := by decide +kernel
theorem dX0_init_13 : decode cX0_init 13 = .ok (.putfield 15, 3) := by decide +kernel
theorem dX0_init_16 : decode cX0_init 16 = .ok (.iconst 0, 1) := by decide +kernel
theorem dX0_init_17 : decode cX0_init 17 = .ok (.istore_n 2, 1) := by decide +kernel
theorem dX0_init_18 : decode cX0_init 18 = .ok (.iload_n 2, 1) := by decide +kernel
theorem dX0_init_19 : decode cX0_init 19 = .ok (.aload_n 0, 1) := by decide +kernel
theorem dX0_init_20 : decode cX0_init 20 = .ok (.getfield 15, 3) := by decide +kernel
theorem dX0_init_23 : decode cX0_init 23 = .ok (.arraylength, 1) := by decide +kernel
theorem dX0_init_24 : decode cX0_init 24 = .ok (.if_icmp .ge 22, 3) := by decide +kernel
theorem dX0_init_27 : decode cX0_init 27 = .ok (.aload_n 0, 1) := by decide +kernel
theorem dX0_init_28 : decode cX0_init 28 = .ok (.getfield 15, 3) := by decide +kernel
theorem dX0_init_31 : decode cX0_init 31 = .ok (.iload_n 2, 1) := by decide +kernel
theorem dX0_init_32 : decode cX0_init 32 = .ok (.new 13, 3) := by decide +kernel
theorem dX0_init_35 : decode cX0_init 35 = .ok (.dup, 1) := by decide +kernel
theorem dX0_init_36 : decode cX0_init 36 = .ok (.invokespecial 21, 3) := by decide +kernel
theorem dX0_init_39 : decode cX0_init 39 = .ok (.aastore, 1) := by decide +kernel
theorem dX0_init_40 : decode cX0_init 40 = .ok (.iinc 2 1, 3) := by decide +kernel
theorem dX0_init_43 : decode cX0_init 43 = .ok (.goto (-25), 3) := by decide +kernel
theorem dX0_init_46 : decode cX0_init 46 = .ok (.return_, 1) := by decide +kernel
theorem dX0_isFull_0 : decode cX0_isFull 0 = .ok (.aload_n 0, 1) := by decide +kernel
theorem dX0_isFull_1 : decode cX0_isFull 1 = .ok (.getfield 22, 3) := by decide +kernel
theorem dX0_isFull_4 : decode cX0_isFull 4 = .ok (.aload_n 0, 1) := by decide +kernel
theorem dX0_isFull_5 : decode cX0_isFull 5 = .ok (.getfield 15, 3) := by decide +kernel
theorem dX0_isFull_8 : decode cX0_isFull 8 = .ok (.arraylength, 1) := by decide +kernel
theorem dX0_isFull_9 : decode cX0_isFull 9 = .ok (.if_icmp .lt 7, 3) := by decide +kernel
theorem dX0_isFull_12 : decode cX0_isFull 12 = .ok (.iconst 1, 1) := by decide +kernel
theorem dX0_isFull_13 : decode cX0_isFull 13 = .ok (.goto 4, 3) := by decide +kernel
theorem dX0_isFull_16 : decode cX0_isFull 16 = .ok (.iconst 0, 1) := by decide +kernel
theorem dX0_isFull_17 : decode cX0_isFull 17 = .ok (.ireturn, 1) := by decide +kernel
theorem dX0_size_0 : decode cX0_size 0 = .ok (.aload_n 0, 1) := by decide +kernel
theorem dX0_size_1 : decode cX0_size 1 = .ok (.getfield 22, 3) := by decide +kernel
theorem dX0_size_4 : decode cX0_size 4 = .ok (.ireturn, 1) := by decide +kernel
theorem dX0_clear_0 : decode cX0_clear 0 = .ok (.aload_n 0, 1) := by decide +kernel
theorem dX0_clear_1 : decode cX0_clear 1 = .ok (.iconst 0, 1) := by decide +kernel
theorem dX0_clear_2 : decode cX0_clear 2 = .ok (.putfield 22, 3) := by decide +kernel
theorem dX0_clear_5 : decode cX0_clear 5 = .ok (.return_, 1) := by decide +kernel
theorem dX0_push_0 : decode cX0_push 0 = .ok (.aload_n 0, 1) := by decide +kernel
theorem dX0_push_1 : decode cX0_push 1 = .ok (.invokevirtual 26, 3) := by decide +kernel
theorem dX0_push_4 : decode cX0_push 4 = .ok (.ifCond .eq 7, 3) := by decide +kernel
theorem dX0_push_7 : decode cX0_push 7 = .ok (.aload_n 0, 1) := by decide +kernel
theorem dX0_push_8 : decode cX0_push 8 = .ok (.invokevirtual 30, 3) := by decide +kernel
theorem dX0_push_11 : decode cX0_push 11 = .ok (.aload_n 0, 1) := by decide +kernel
theorem dX0_push_12 : decode cX0_push 12 = .ok (.aload_n 0, 1) := by decide +kernel
theorem dX0_push_13 : decode cX0_push 13 = .ok (.getfield 22, 3) := by decide +kernel
theorem dX0_push_16 : decode cX0_push 16 = .ok (.invokevirtual 33, 3) := by decide +kernel
theorem dX0_push_19 : decode cX0_push 19 = .ok (.astore_n 2, 1) := by decide +kernel
theorem dX0_push_20 : decode cX0_push 20 = .ok (.aload_n 2, 1) := by decide +kernel
theorem dX0_push_21 : decode cX0_push 21 = .ok (.ifnull 18, 3) := by decide +kernel
theorem dX0_push_24 : decode cX0_push 24 = .ok (.aload_n 2, 1) := by decide +kernel
theorem dX0_push_25 : decode cX0_push 25 = .ok (.aload_n 1, 1) := by decide +kernel
theorem dX0_push_26 : decode cX0_push 26 = .ok (.invokevirtual 37, 3) := by decide +kernel
theorem dX0_push_29 : decode cX0_push 29 = .ok (.aload_n 0, 1) := by decide +kernel
theorem dX0_push_30 : decode cX0_push 30 = .ok (.dup, 1) := by decide +kernel
theorem dX0_push_31 : decode cX0_push 31 = .ok (.getfield 22, 3) := by decide +kernel
theorem dX0_push_34 : decode cX0_push 34 = .ok (.iconst 1, 1) := by decide +kernel
theorem dX0_push_35 : decode cX0_push 35 = .ok (.iadd, 1) := by decide +kernel
theorem dX0_push_36 : decode cX0_push 36 = .ok (.putfield 22, 3) := by decide +kernel
theorem dX0_push_39 : decode cX0_push 39 = .ok (.return_, 1) := by decide +kernel
theorem dX0_pop_0 : decode cX0_pop 0 = .ok (.aload_n 0, 1) := by decide +kernel
theorem dX0_pop_1 : decode cX0_pop 1 = .ok (.aload_n 0, 1) := by decide +kernel
theorem dX0_pop_2 : decode cX0_pop 2 = .ok (.getfield 22, 3) := by decide +kernel
theorem dX0_pop_5 : decode cX0_pop 5 = .ok (.iconst 1, 1) := by decide +kernel
theorem dX0_pop_6 : decode cX0_pop 6 = .ok (.isub, 1) := by decide +kernel
theorem dX0_pop_7 : decode cX0_pop 7 = .ok (.invokevirtual 33, 3) := by decide +kernel
theorem dX0_pop_10 : decode cX0_pop 10 = .ok (.astore_n 2, 1) := by decide +kernel
theorem dX0_pop_11 : decode cX0_pop 11 = .ok (.aload_n 2, 1) := by decide +kernel
theorem dX0_pop_12 : decode cX0_pop 12 = .ok (.ifnonnull 5, 3) := by decide +kernel
theorem dX0_pop_15 : decode cX0_pop 15 = .ok (.iconst 0, 1) := by decide +kernel
theorem dX0_pop_16 : decode cX0_pop 16 = .ok (.ireturn, 1) := by decide +kernel
theorem dX0_pop_17 : decode cX0_pop 17 = .ok (.aload_n 1, 1) := by decide +kernel
theorem dX0_pop_18 : decode cX0_pop 18 = .ok (.aload_n 2, 1) := by decide +kernel
theorem dX0_pop_19 : decode cX0_pop 19 = .ok (.invokevirtual 37, 3) := by decide +kernel
theorem dX0_pop_22 : decode cX0_pop 22 = .ok (.aload_n 0, 1) := by decide +kernel
theorem dX0_pop_23 : decode cX0_pop 23 = .ok (.dup, 1) := by decide +kernel
theorem dX0_pop_24 : decode cX0_pop 24 = .ok (.getfield 22, 3) := by decide +kernel
theorem dX0_pop_27 : decode cX0_pop 27 = .ok (.iconst 1, 1) := by decide +kernel
theorem dX0_pop_28 : decode cX0_pop 28 = .ok (.isub, 1) := by decide +kernel
theorem dX0_pop_29 : decode cX0_pop 29 = .ok (.putfield 22, 3) := by decide +kernel
theorem dX0_pop_32 : decode cX0_pop 32 = .ok (.iconst 1, 1) := by decide +kernel
theorem dX0_pop_33 : decode cX0_pop 33 = .ok (.ireturn, 1) := by decide +kernel
theorem dX0_standingAt_0 : decode cX0_standingAt 0 = .ok (.iload_n 1, 1) := by decide +kernel
theorem dX0_standingAt_1 : decode cX0_standingAt 1 = .ok (.ifCond .lt 21, 3) := by decide +kernel
theorem dX0_standingAt_4 : decode cX0_standingAt 4 = .ok (.iload_n 1, 1) := by decide +kernel
theorem dX0_standingAt_5 : decode cX0_standingAt 5 = .ok (.aload_n 0, 1) := by decide +kernel
theorem dX0_standingAt_6 : decode cX0_standingAt 6 = .ok (.getfield 15, 3) := by decide +kernel
theorem dX0_standingAt_9 : decode cX0_standingAt 9 = .ok (.arraylength, 1) := by decide +kernel
theorem dX0_standingAt_10 : decode cX0_standingAt 10 = .ok (.if_icmp .ge 12, 3) := by decide +kernel
theorem dX0_standingAt_13 : decode cX0_standingAt 13 = .ok (.aload_n 0, 1) := by decide +kernel
theorem dX0_standingAt_14 : decode cX0_standingAt 14 = .ok (.getfield 15, 3) := by decide +kernel
theorem dX0_standingAt_17 : decode cX0_standingAt 17 = .ok (.iload_n 1, 1) := by decide +kernel
theorem dX0_standingAt_18 : decode cX0_standingAt 18 = .ok (.aaload, 1) := by decide +kernel
theorem dX0_standingAt_19 : decode cX0_standingAt 19 = .ok (.goto 4, 3) := by decide +kernel
theorem dX0_standingAt_22 : decode cX0_standingAt 22 = .ok (.aconst_null, 1) := by decide +kernel
theorem dX0_standingAt_23 : decode cX0_standingAt 23 = .ok (.areturn, 1) := by decide +kernel
theorem dX0_loseLowest_0 : decode cX0_loseLowest 0 = .ok (.iconst 0, 1) := by decide +kernel
theorem dX0_loseLowest_1 : decode cX0_loseLowest 1 = .ok (.istore_n 1, 1) := by decide +kernel
theorem dX0_loseLowest_2 : decode cX0_loseLowest 2 = .ok (.iload_n 1, 1) := by decide +kernel
theorem dX0_loseLowest_3 : decode cX0_loseLowest 3 = .ok (.iconst 1, 1) := by decide +kernel
theorem dX0_loseLowest_4 : decode cX0_loseLowest 4 = .ok (.iadd, 1) := by decide +kernel
theorem dX0_loseLowest_5 : decode cX0_loseLowest 5 = .ok (.aload_n 0, 1) := by decide +kernel
theorem dX0_loseLowest_6 : decode cX0_loseLowest 6 = .ok (.getfield 22, 3) := by decide +kernel
theorem dX0_loseLowest_9 : decode cX0_loseLowest 9 = .ok (.if_icmp .ge 36, 3) := by decide +kernel
theorem dX0_loseLowest_12 : decode cX0_loseLowest 12 = .ok (.aload_n 0, 1) := by decide +kernel
theorem dX0_loseLowest_13 : decode cX0_loseLowest 13 = .ok (.iload_n 1, 1) := by decide +kernel
theorem dX0_loseLowest_14 : decode cX0_loseLowest 14 = .ok (.invokevirtual 33, 3) := by decide +kernel
theorem dX0_loseLowest_17 : decode cX0_loseLowest 17 = .ok (.astore_n 2, 1) := by decide +kernel
theorem dX0_loseLowest_18 : decode cX0_loseLowest 18 = .ok (.aload_n 0, 1) := by decide +kernel
theorem dX0_loseLowest_19 : decode cX0_loseLowest 19 = .ok (.iload_n 1, 1) := by decide +kernel
theorem dX0_loseLowest_20 : decode cX0_loseLowest 20 = .ok (.iconst 1, 1) := by decide +kernel
theorem dX0_loseLowest_21 : decode cX0_loseLowest 21 = .ok (.iadd, 1) := by decide +kernel
theorem dX0_loseLowest_22 : decode cX0_loseLowest 22 = .ok (.invokevirtual 33, 3) := by decide +kernel
theorem dX0_loseLowest_25 : decode cX0_loseLowest 25 = .ok (.astore_n 3, 1) := by decide +kernel
theorem dX0_loseLowest_26 : decode cX0_loseLowest 26 = .ok (.aload_n 2, 1) := by decide +kernel
theorem dX0_loseLowest_27 : decode cX0_loseLowest 27 = .ok (.ifnull 12, 3) := by decide +kernel
theorem dX0_loseLowest_30 : decode cX0_loseLowest 30 = .ok (.aload_n 3, 1) := by decide +kernel
theorem dX0_loseLowest_31 : decode cX0_loseLowest 31 = .ok (.ifnull 8, 3) := by decide +kernel
theorem dX0_loseLowest_34 : decode cX0_loseLowest 34 = .ok (.aload_n 2, 1) := by decide +kernel
theorem dX0_loseLowest_35 : decode cX0_loseLowest 35 = .ok (.aload_n 3, 1) := by decide +kernel
theorem dX0_loseLowest_36 : decode cX0_loseLowest 36 = .ok (.invokevirtual 37, 3) := by decide +kernel
theorem dX0_loseLowest_39 : decode cX0_loseLowest 39 = .ok (.iinc 1 1, 3) := by decide +kernel
theorem dX0_loseLowest_42 : decode cX0_loseLowest 42 = .ok (.goto (-40), 3) := by decide +kernel
theorem dX0_loseLowest_45 : decode cX0_loseLowest 45 = .ok (.aload_n 0, 1) := by decide +kernel
theorem dX0_loseLowest_46 : decode cX0_loseLowest 46 = .ok (.iconst 0, 1) := by decide +kernel
theorem dX0_loseLowest_47 : decode cX0_loseLowest 47 = .ok (.aload_n 0, 1) := by decide +kernel
theorem dX0_loseLowest_48 : decode cX0_loseLowest 48 = .ok (.getfield 22, 3) := by decide +kernel
theorem dX0_loseLowest_51 : decode cX0_loseLowest 51 = .ok (.iconst 1, 1) := by decide +kernel
theorem dX0_loseLowest_52 : decode cX0_loseLowest 52 = .ok (.isub, 1) := by decide +kernel
theorem dX0_loseLowest_53 : decode cX0_loseLowest 53 = .ok (.invokestatic 7, 3) := by decide +kernel
theorem dX0_loseLowest_56 : decode cX0_loseLowest 56 = .ok (.putfield 22, 3) := by decide +kernel
theorem dX0_loseLowest_59 : decode cX0_loseLowest 59 = .ok (.return_, 1) := by decide +kernel
theorem dX1_init_0 : decode cX1_init 0 = .ok (.aload_n 0, 1) := by decide +kernel
theorem dX1_init_1 : decode cX1_init 1 = .ok (.invokespecial 3, 3) := by decide +kernel
theorem dX1_init_4 : decode cX1_init 4 = .ok (.aload_n 0, 1) := by decide +kernel
theorem dX1_init_5 : decode cX1_init 5 = .ok (.bipush 8, 2) := by decide +kernel
theorem dX1_init_7 : decode cX1_init 7 = .ok (.newarray .int, 2) := by decide +kernel
theorem dX1_init_9 : decode cX1_init 9 = .ok (.putfield 9, 3) := by decide +kernel
theorem dX1_init_12 : decode cX1_init 12 = .ok (.aload_n 0, 1) := by decide +kernel
theorem dX1_init_13 : decode cX1_init 13 = .ok (.bipush 8, 2) := by decide +kernel
theorem dX1_init_15 : decode cX1_init 15 = .ok (.newarray .int, 2) := by decide +kernel
theorem dX1_init_17 : decode cX1_init 17 = .ok (.putfield 15, 3) := by decide +kernel
theorem dX1_init_20 : decode cX1_init 20 = .ok (.aload_n 0, 1) := by decide +kernel
theorem dX1_init_21 : decode cX1_init 21 = .ok (.bipush 8, 2) := by decide +kernel
theorem dX1_init_23 : decode cX1_init 23 = .ok (.newarray .int, 2) := by decide +kernel
theorem dX1_init_25 : decode cX1_init 25 = .ok (.putfield 18, 3) := by decide +kernel
theorem dX1_init_28 : decode cX1_init 28 = .ok (.aload_n 0, 1) := by decide +kernel
theorem dX1_init_29 : decode cX1_init 29 = .ok (.bipush 8, 2) := by decide +kernel
theorem dX1_init_31 : decode cX1_init 31 = .ok (.newarray .int, 2) := by decide +kernel
theorem dX1_init_33 : decode cX1_init 33 = .ok (.putfield 21, 3) := by decide +kernel
theorem dX1_init_36 : decode cX1_init 36 = .ok (.aload_n 0, 1) := by decide +kernel
theorem dX1_init_37 : decode cX1_init 37 = .ok (.bipush 8, 2) := by decide +kernel
theorem dX1_init_39 : decode cX1_init 39 = .ok (.newarray .int, 2) := by decide +kernel
theorem dX1_init_41 : decode cX1_init 41 = .ok (.putfield 24, 3) := by decide +kernel
theorem dX1_init_44 : decode cX1_init 44 = .ok (.return_, 1) := by decide +kernel
theorem dX1_clear_0 : decode cX1_clear 0 = .ok (.aload_n 0, 1) := by decide +kernel
theorem dX1_clear_1 : decode cX1_clear 1 = .ok (.iconst 0, 1) := by decide +kernel
theorem dX1_clear_2 : decode cX1_clear 2 = .ok (.putfield 27, 3) := by decide +kernel
theorem dX1_clear_5 : decode cX1_clear 5 = .ok (.aload_n 0, 1) := by decide +kernel
theorem dX1_clear_6 : decode cX1_clear 6 = .ok (.iconst 0, 1) := by decide +kernel
theorem dX1_clear_7 : decode cX1_clear 7 = .ok (.putfield 31, 3) := by decide +kernel
theorem dX1_clear_10 : decode cX1_clear 10 = .ok (.return_, 1) := by decide +kernel
theorem dX1_addCousin_0 : decode cX1_addCousin 0 = .ok (.aload_n 0, 1) := by decide +kernel
theorem dX1_addCousin_1 : decode cX1_addCousin 1 = .ok (.getfield 27, 3) := by decide +kernel
theorem dX1_addCousin_4 : decode cX1_addCousin 4 = .ok (.bipush 8, 2) := by decide +kernel
theorem dX1_addCousin_6 : decode cX1_addCousin 6 = .ok (.if_icmp .ge 32, 3) := by decide +kernel
theorem dX1_addCousin_9 : decode cX1_addCousin 9 = .ok (.iload_n 1, 1) := by decide +kernel
theorem dX1_addCousin_10 : decode cX1_addCousin 10 = .ok (.iconst 0, 1) := by decide +kernel
theorem dX1_addCousin_11 : decode cX1_addCousin 11 = .ok (.iconst 3, 1) := by decide +kernel
theorem dX1_addCousin_12 : decode cX1_addCousin 12 = .ok (.invokestatic 34, 3) := by decide +kernel
theorem dX1_addCousin_15 : decode cX1_addCousin 15 = .ok (.ifCond .eq 23, 3) := by decide +kernel
theorem dX1_addCousin_18 : decode cX1_addCousin 18 = .ok (.iload_n 2, 1) := by decide +kernel
theorem dX1_addCousin_19 : decode cX1_addCousin 19 = .ok (.iconst 0, 1) := by decide +kernel
theorem dX1_addCousin_20 : decode cX1_addCousin 20 = .ok (.bipush 59, 2) := by decide +kernel
theorem dX1_addCousin_22 : decode cX1_addCousin 22 = .ok (.invokestatic 34, 3) := by decide +kernel
theorem dX1_addCousin_25 : decode cX1_addCousin 25 = .ok (.ifCond .eq 13, 3) := by decide +kernel
theorem dX1_addCousin_28 : decode cX1_addCousin 28 = .ok (.iload_n 3, 1) := by decide +kernel
theorem dX1_addCousin_29 : decode cX1_addCousin 29 = .ok (.iconst 0, 1) := by decide +kernel
theorem dX1_addCousin_30 : decode cX1_addCousin 30 = .ok (.bipush 9, 2) := by decide +kernel
theorem dX1_addCousin_32 : decode cX1_addCousin 32 = .ok (.invokestatic 34, 3) := by decide +kernel
theorem dX1_addCousin_35 : decode cX1_addCousin 35 = .ok (.ifCond .ne 5, 3) := by decide +kernel
theorem dX1_addCousin_38 : decode cX1_addCousin 38 = .ok (.iconst 0, 1) := by decide +kernel
theorem dX1_addCousin_39 : decode cX1_addCousin 39 = .ok (.ireturn, 1) := by decide +kernel
theorem dX1_addCousin_40 : decode cX1_addCousin 40 = .ok (.aload_n 0, 1) := by decide +kernel
theorem dX1_addCousin_41 : decode cX1_addCousin 41 = .ok (.getfield 9, 3) := by decide +kernel
theorem dX1_addCousin_44 : decode cX1_addCousin 44 = .ok (.aload_n 0, 1) := by decide +kernel
theorem dX1_addCousin_45 : decode cX1_addCousin 45 = .ok (.getfield 27, 3) := by decide +kernel
theorem dX1_addCousin_48 : decode cX1_addCousin 48 = .ok (.iload_n 1, 1) := by decide +kernel
theorem dX1_addCousin_49 : decode cX1_addCousin 49 = .ok (.invokestatic 38, 3) := by decide +kernel
theorem dX1_addCousin_52 : decode cX1_addCousin 52 = .ok (.aload_n 0, 1) := by decide +kernel
theorem dX1_addCousin_53 : decode cX1_addCousin 53 = .ok (.getfield 15, 3) := by decide +kernel
theorem dX1_addCousin_56 : decode cX1_addCousin 56 = .ok (.aload_n 0, 1) := by decide +kernel
theorem dX1_addCousin_57 : decode cX1_addCousin 57 = .ok (.getfield 27, 3) := by decide +kernel
theorem dX1_addCousin_60 : decode cX1_addCousin 60 = .ok (.iload_n 2, 1) := by decide +kernel
theorem dX1_addCousin_61 : decode cX1_addCousin 61 = .ok (.invokestatic 38, 3) := by decide +kernel
theorem dX1_addCousin_64 : decode cX1_addCousin 64 = .ok (.aload_n 0, 1) := by decide +kernel
theorem dX1_addCousin_65 : decode cX1_addCousin 65 = .ok (.getfield 18, 3) := by decide +kernel
theorem dX1_addCousin_68 : decode cX1_addCousin 68 = .ok (.aload_n 0, 1) := by decide +kernel
theorem dX1_addCousin_69 : decode cX1_addCousin 69 = .ok (.getfield 27, 3) := by decide +kernel
theorem dX1_addCousin_72 : decode cX1_addCousin 72 = .ok (.iload_n 3, 1) := by decide +kernel
theorem dX1_addCousin_73 : decode cX1_addCousin 73 = .ok (.invokestatic 38, 3) := by decide +kernel
theorem dX1_addCousin_76 : decode cX1_addCousin 76 = .ok (.aload_n 0, 1) := by decide +kernel
theorem dX1_addCousin_77 : decode cX1_addCousin 77 = .ok (.dup, 1) := by decide +kernel
theorem dX1_addCousin_78 : decode cX1_addCousin 78 = .ok (.getfield 27, 3) := by decide +kernel
theorem dX1_addCousin_81 : decode cX1_addCousin 81 = .ok (.iconst 1, 1) := by decide +kernel
theorem dX1_addCousin_82 : decode cX1_addCousin 82 = .ok (.iadd, 1) := by decide +kernel
theorem dX1_addCousin_83 : decode cX1_addCousin 83 = .ok (.putfield 27, 3) := by decide +kernel
theorem dX1_addCousin_86 : decode cX1_addCousin 86 = .ok (.iconst 1, 1) := by decide +kernel
theorem dX1_addCousin_87 : decode cX1_addCousin 87 = .ok (.ireturn, 1) := by decide +kernel
theorem dX1_addRoom_0 : decode cX1_addRoom 0 = .ok (.aload_n 0, 1) := by decide +kernel
theorem dX1_addRoom_1 : decode cX1_addRoom 1 = .ok (.getfield 31, 3) := by decide +kernel
theorem dX1_addRoom_4 : decode cX1_addRoom 4 = .ok (.bipush 8, 2) := by decide +kernel
theorem dX1_addRoom_6 : decode cX1_addRoom 6 = .ok (.if_icmp .ge 23, 3) := by decide +kernel
theorem dX1_addRoom_9 : decode cX1_addRoom 9 = .ok (.iload_n 1, 1) := by decide +kernel
theorem dX1_addRoom_10 : decode cX1_addRoom 10 = .ok (.iconst 0, 1) := by decide +kernel
theorem dX1_addRoom_11 : decode cX1_addRoom 11 = .ok (.bipush 9, 2) := by decide +kernel
theorem dX1_addRoom_13 : decode cX1_addRoom 13 = .ok (.invokestatic 34, 3) := by decide +kernel
theorem dX1_addRoom_16 : decode cX1_addRoom 16 = .ok (.ifCond .eq 13, 3) := by decide +kernel
theorem dX1_addRoom_19 : decode cX1_addRoom 19 = .ok (.iload_n 2, 1) := by decide +kernel
theorem dX1_addRoom_20 : decode cX1_addRoom 20 = .ok (.iconst 0, 1) := by decide +kernel
theorem dX1_addRoom_21 : decode cX1_addRoom 21 = .ok (.bipush 9, 2) := by decide +kernel
theorem dX1_addRoom_23 : decode cX1_addRoom 23 = .ok (.invokestatic 34, 3) := by decide +kernel
theorem dX1_addRoom_26 : decode cX1_addRoom 26 = .ok (.ifCond .ne 5, 3) := by decide +kernel
theorem dX1_addRoom_29 : decode cX1_addRoom 29 = .ok (.iconst 0, 1) := by decide +kernel
theorem dX1_addRoom_30 : decode cX1_addRoom 30 = .ok (.ireturn, 1) := by decide +kernel
theorem dX1_addRoom_31 : decode cX1_addRoom 31 = .ok (.aload_n 0, 1) := by decide +kernel
theorem dX1_addRoom_32 : decode cX1_addRoom 32 = .ok (.getfield 21, 3) := by decide +kernel
theorem dX1_addRoom_35 : decode cX1_addRoom 35 = .ok (.aload_n 0, 1) := by decide +kernel
theorem dX1_addRoom_36 : decode cX1_addRoom 36 = .ok (.getfield 31, 3) := by decide +kernel
theorem dX1_addRoom_39 : decode cX1_addRoom 39 = .ok (.iload_n 1, 1) := by decide +kernel
theorem dX1_addRoom_40 : decode cX1_addRoom 40 = .ok (.invokestatic 38, 3) := by decide +kernel
theorem dX1_addRoom_43 : decode cX1_addRoom 43 = .ok (.aload_n 0, 1) := by decide +kernel
theorem dX1_addRoom_44 : decode cX1_addRoom 44 = .ok (.getfield 24, 3) := by decide +kernel
theorem dX1_addRoom_47 : decode cX1_addRoom 47 = .ok (.aload_n 0, 1) := by decide +kernel
theorem dX1_addRoom_48 : decode cX1_addRoom 48 = .ok (.getfield 31, 3) := by decide +kernel
theorem dX1_addRoom_51 : decode cX1_addRoom 51 = .ok (.iload_n 2, 1) := by decide +kernel
theorem dX1_addRoom_52 : decode cX1_addRoom 52 = .ok (.invokestatic 38, 3) := by decide +kernel
theorem dX1_addRoom_55 : decode cX1_addRoom 55 = .ok (.aload_n 0, 1) := by decide +kernel
theorem dX1_addRoom_56 : decode cX1_addRoom 56 = .ok (.dup, 1) := by decide +kernel
theorem dX1_addRoom_57 : decode cX1_addRoom 57 = .ok (.getfield 31, 3) := by decide +kernel
theorem dX1_addRoom_60 : decode cX1_addRoom 60 = .ok (.iconst 1, 1) := by decide +kernel
theorem dX1_addRoom_61 : decode cX1_addRoom 61 = .ok (.iadd, 1) := by decide +kernel
theorem dX1_addRoom_62 : decode cX1_addRoom 62 = .ok (.putfield 31, 3) := by decide +kernel
theorem dX1_addRoom_65 : decode cX1_addRoom 65 = .ok (.iconst 1, 1) := by decide +kernel
theorem dX1_addRoom_66 : decode cX1_addRoom 66 = .ok (.ireturn, 1) := by decide +kernel
theorem dX1_canBeLaid_0 : decode cX1_canBeLaid 0 = .ok (.aload_n 0, 1) := by decide +kernel
theorem dX1_canBeLaid_1 : decode cX1_canBeLaid 1 = .ok (.getfield 27, 3) := by decide +kernel
theorem dX1_canBeLaid_4 : decode cX1_canBeLaid 4 = .ok (.iconst 1, 1) := by decide +kernel
theorem dX1_canBeLaid_5 : decode cX1_canBeLaid 5 = .ok (.if_icmp .lt 18, 3) := by decide +kernel
theorem dX1_canBeLaid_8 : decode cX1_canBeLaid 8 = .ok (.aload_n 0, 1) := by decide +kernel
theorem dX1_canBeLaid_9 : decode cX1_canBeLaid 9 = .ok (.getfield 31, 3) := by decide +kernel
theorem dX1_canBeLaid_12 : decode cX1_canBeLaid 12 = .ok (.aload_n 0, 1) := by decide +kernel
theorem dX1_canBeLaid_13 : decode cX1_canBeLaid 13 = .ok (.getfield 27, 3) := by decide +kernel
theorem dX1_canBeLaid_16 : decode cX1_canBeLaid 16 = .ok (.if_icmp .ne 7, 3) := by decide +kernel
theorem dX1_canBeLaid_19 : decode cX1_canBeLaid 19 = .ok (.iconst 1, 1) := by decide +kernel
theorem dX1_canBeLaid_20 : decode cX1_canBeLaid 20 = .ok (.goto 4, 3) := by decide +kernel
theorem dX1_canBeLaid_23 : decode cX1_canBeLaid 23 = .ok (.iconst 0, 1) := by decide +kernel
theorem dX1_canBeLaid_24 : decode cX1_canBeLaid 24 = .ok (.ireturn, 1) := by decide +kernel
theorem dX1_copyFrom_0 : decode cX1_copyFrom 0 = .ok (.aload_n 0, 1) := by decide +kernel
theorem dX1_copyFrom_1 : decode cX1_copyFrom 1 = .ok (.aload_n 1, 1) := by decide +kernel
theorem dX1_copyFrom_2 : decode cX1_copyFrom 2 = .ok (.getfield 27, 3) := by decide +kernel
theorem dX1_copyFrom_5 : decode cX1_copyFrom 5 = .ok (.putfield 27, 3) := by decide +kernel
theorem dX1_copyFrom_8 : decode cX1_copyFrom 8 = .ok (.aload_n 0, 1) := by decide +kernel
theorem dX1_copyFrom_9 : decode cX1_copyFrom 9 = .ok (.aload_n 1, 1) := by decide +kernel
theorem dX1_copyFrom_10 : decode cX1_copyFrom 10 = .ok (.getfield 31, 3) := by decide +kernel
theorem dX1_copyFrom_13 : decode cX1_copyFrom 13 = .ok (.putfield 31, 3) := by decide +kernel
theorem dX1_copyFrom_16 : decode cX1_copyFrom 16 = .ok (.aload_n 1, 1) := by decide +kernel
theorem dX1_copyFrom_17 : decode cX1_copyFrom 17 = .ok (.getfield 9, 3) := by decide +kernel
theorem dX1_copyFrom_20 : decode cX1_copyFrom 20 = .ok (.aload_n 0, 1) := by decide +kernel
theorem dX1_copyFrom_21 : decode cX1_copyFrom 21 = .ok (.getfield 9, 3) := by decide +kernel
theorem dX1_copyFrom_24 : decode cX1_copyFrom 24 = .ok (.invokestatic 42, 3) := by decide +kernel
theorem dX1_copyFrom_27 : decode cX1_copyFrom 27 = .ok (.aload_n 1, 1) := by decide +kernel
theorem dX1_copyFrom_28 : decode cX1_copyFrom 28 = .ok (.getfield 15, 3) := by decide +kernel
theorem dX1_copyFrom_31 : decode cX1_copyFrom 31 = .ok (.aload_n 0, 1) := by decide +kernel
theorem dX1_copyFrom_32 : decode cX1_copyFrom 32 = .ok (.getfield 15, 3) := by decide +kernel
theorem dX1_copyFrom_35 : decode cX1_copyFrom 35 = .ok (.invokestatic 42, 3) := by decide +kernel
theorem dX1_copyFrom_38 : decode cX1_copyFrom 38 = .ok (.aload_n 1, 1) := by decide +kernel
theorem dX1_copyFrom_39 : decode cX1_copyFrom 39 = .ok (.getfield 18, 3) := by decide +kernel
theorem dX1_copyFrom_42 : decode cX1_copyFrom 42 = .ok (.aload_n 0, 1) := by decide +kernel
theorem dX1_copyFrom_43 : decode cX1_copyFrom 43 = .ok (.getfield 18, 3) := by decide +kernel
theorem dX1_copyFrom_46 : decode cX1_copyFrom 46 = .ok (.invokestatic 42, 3) := by decide +kernel
theorem dX1_copyFrom_49 : decode cX1_copyFrom 49 = .ok (.aload_n 1, 1) := by decide +kernel
theorem dX1_copyFrom_50 : decode cX1_copyFrom 50 = .ok (.getfield 21, 3) := by decide +kernel
theorem dX1_copyFrom_53 : decode cX1_copyFrom 53 = .ok (.aload_n 0, 1) := by decide +kernel
theorem dX1_copyFrom_54 : decode cX1_copyFrom 54 = .ok (.getfield 21, 3) := by decide +kernel
theorem dX1_copyFrom_57 : decode cX1_copyFrom 57 = .ok (.invokestatic 42, 3) := by decide +kernel
theorem dX1_copyFrom_60 : decode cX1_copyFrom 60 = .ok (.aload_n 1, 1) := by decide +kernel
theorem dX1_copyFrom_61 : decode cX1_copyFrom 61 = .ok (.getfield 24, 3) := by decide +kernel
theorem dX1_copyFrom_64 : decode cX1_copyFrom 64 = .ok (.aload_n 0, 1) := by decide +kernel
theorem dX1_copyFrom_65 : decode cX1_copyFrom 65 = .ok (.getfield 24, 3) := by decide +kernel
theorem dX1_copyFrom_68 : decode cX1_copyFrom 68 = .ok (.invokestatic 42, 3) := by decide +kernel
theorem dX1_copyFrom_71 : decode cX1_copyFrom 71 = .ok (.return_, 1) := by decide +kernel
theorem dX1_cousins_0 : decode cX1_cousins 0 = .ok (.aload_n 0, 1) := by decide +kernel
theorem dX1_cousins_1 : decode cX1_cousins 1 = .ok (.getfield 27, 3) := by decide +kernel
theorem dX1_cousins_4 : decode cX1_cousins 4 = .ok (.ireturn, 1) := by decide +kernel
theorem dX1_rooms_0 : decode cX1_rooms 0 = .ok (.aload_n 0, 1) := by decide +kernel
theorem dX1_rooms_1 : decode cX1_rooms 1 = .ok (.getfield 31, 3) := by decide +kernel
theorem dX1_rooms_4 : decode cX1_rooms 4 = .ok (.ireturn, 1) := by decide +kernel
theorem dX1_kindOf_0 : decode cX1_kindOf 0 = .ok (.aload_n 0, 1) := by decide +kernel
theorem dX1_kindOf_1 : decode cX1_kindOf 1 = .ok (.getfield 9, 3) := by decide +kernel
theorem dX1_kindOf_4 : decode cX1_kindOf 4 = .ok (.iload_n 1, 1) := by decide +kernel
theorem dX1_kindOf_5 : decode cX1_kindOf 5 = .ok (.invokestatic 46, 3) := by decide +kernel
theorem dX1_kindOf_8 : decode cX1_kindOf 8 = .ok (.ireturn, 1) := by decide +kernel
theorem dX1_birthdayAtFirst_0 : decode cX1_birthdayAtFirst 0 = .ok (.aload_n 0, 1) := by decide +kernel
theorem dX1_birthdayAtFirst_1 : decode cX1_birthdayAtFirst 1 = .ok (.getfield 15, 3) := by decide +kernel
theorem dX1_birthdayAtFirst_4 : decode cX1_birthdayAtFirst 4 = .ok (.iload_n 1, 1) := by decide +kernel
theorem dX1_birthdayAtFirst_5 : decode cX1_birthdayAtFirst 5 = .ok (.invokestatic 46, 3) := by decide +kernel
theorem dX1_birthdayAtFirst_8 : decode cX1_birthdayAtFirst 8 = .ok (.ireturn, 1) := by decide +kernel
theorem dX1_wantOf_0 : decode cX1_wantOf 0 = .ok (.aload_n 0, 1) := by decide +kernel
theorem dX1_wantOf_1 : decode cX1_wantOf 1 = .ok (.getfield 18, 3) := by decide +kernel
theorem dX1_wantOf_4 : decode cX1_wantOf 4 = .ok (.iload_n 1, 1) := by decide +kernel
theorem dX1_wantOf_5 : decode cX1_wantOf 5 = .ok (.invokestatic 46, 3) := by decide +kernel
theorem dX1_wantOf_8 : decode cX1_wantOf 8 = .ok (.ireturn, 1) := by decide +kernel
theorem dX1_winterSun_0 : decode cX1_winterSun 0 = .ok (.aload_n 0, 1) := by decide +kernel
theorem dX1_winterSun_1 : decode cX1_winterSun 1 = .ok (.getfield 21, 3) := by decide +kernel
theorem dX1_winterSun_4 : decode cX1_winterSun 4 = .ok (.iload_n 1, 1) := by decide +kernel
theorem dX1_winterSun_5 : decode cX1_winterSun 5 = .ok (.invokestatic 46, 3) := by decide +kernel
theorem dX1_winterSun_8 : decode cX1_winterSun 8 = .ok (.ireturn, 1) := by decide +kernel
theorem dX1_summerSun_0 : decode cX1_summerSun 0 = .ok (.aload_n 0, 1) := by decide +kernel
theorem dX1_summerSun_1 : decode cX1_summerSun 1 = .ok (.getfield 24, 3) := by decide +kernel
theorem dX1_summerSun_4 : decode cX1_summerSun 4 = .ok (.iload_n 1, 1) := by decide +kernel
theorem dX1_summerSun_5 : decode cX1_summerSun 5 = .ok (.invokestatic 46, 3) := by decide +kernel
theorem dX1_summerSun_8 : decode cX1_summerSun 8 = .ok (.ireturn, 1) := by decide +kernel
theorem dX1_sunsOn_0 : decode cX1_sunsOn 0 = .ok (.iload_n 1, 1) := by decide +kernel
theorem dX1_sunsOn_1 : decode cX1_sunsOn 1 = .ok (.bipush 60, 2) := by decide +kernel
theorem dX1_sunsOn_3 : decode cX1_sunsOn 3 = .ok (.irem, 1) := by decide +kernel
theorem dX1_sunsOn_4 : decode cX1_sunsOn 4 = .ok (.bipush 30, 2) := by decide +kernel
theorem dX1_sunsOn_6 : decode cX1_sunsOn 6 = .ok (.if_icmp .ge 10, 3) := by decide +kernel
theorem dX1_sunsOn_9 : decode cX1_sunsOn 9 = .ok (.aload_n 0, 1) := by decide +kernel
theorem dX1_sunsOn_10 : decode cX1_sunsOn 10 = .ok (.getfield 21, 3) := by decide +kernel
theorem dX1_sunsOn_13 : decode cX1_sunsOn 13 = .ok (.goto 7, 3) := by decide +kernel
theorem dX1_sunsOn_16 : decode cX1_sunsOn 16 = .ok (.aload_n 0, 1) := by decide +kernel
theorem dX1_sunsOn_17 : decode cX1_sunsOn 17 = .ok (.getfield 24, 3) := by decide +kernel
theorem dX1_sunsOn_20 : decode cX1_sunsOn 20 = .ok (.areturn, 1) := by decide +kernel
theorem dX2_init_0 : decode cX2_init 0 = .ok (.aload_n 0, 1) := by decide +kernel
theorem dX2_init_1 : decode cX2_init 1 = .ok (.invokespecial 3, 3) := by decide +kernel
theorem dX2_init_4 : decode cX2_init 4 = .ok (.aload_n 0, 1) := by decide +kernel
theorem dX2_init_5 : decode cX2_init 5 = .ok (.aload_n 1, 1) := by decide +kernel
theorem dX2_init_6 : decode cX2_init 6 = .ok (.putfield 9, 3) := by decide +kernel
theorem dX2_init_9 : decode cX2_init 9 = .ok (.aload_n 0, 1) := by decide +kernel
theorem dX2_init_10 : decode cX2_init 10 = .ok (.aload_n 2, 1) := by decide +kernel
theorem dX2_init_11 : decode cX2_init 11 = .ok (.putfield 15, 3) := by decide +kernel
theorem dX2_init_14 : decode cX2_init 14 = .ok (.return_, 1) := by decide +kernel
theorem dX2_best_0 : decode cX2_best 0 = .ok (.aload_n 0, 1) := by decide +kernel
theorem dX2_best_1 : decode cX2_best 1 = .ok (.getfield 19, 3) := by decide +kernel
theorem dX2_best_4 : decode cX2_best 4 = .ok (.ireturn, 1) := by decide +kernel
theorem dX2_firstPair_0 : decode cX2_firstPair 0 = .ok (.aload_n 0, 1) := by decide +kernel
theorem dX2_firstPair_1 : decode cX2_firstPair 1 = .ok (.getfield 23, 3) := by decide +kernel
theorem dX2_firstPair_4 : decode cX2_firstPair 4 = .ok (.ireturn, 1) := by decide +kernel
theorem dX2_secondPair_0 : decode cX2_secondPair 0 = .ok (.aload_n 0, 1) := by decide +kernel
theorem dX2_secondPair_1 : decode cX2_secondPair 1 = .ok (.getfield 26, 3) := by decide +kernel
theorem dX2_secondPair_4 : decode cX2_secondPair 4 = .ok (.ireturn, 1) := by decide +kernel
theorem dX2_seekMostSun_0 : decode cX2_seekMostSun 0 = .ok (.aload_n 0, 1) := by decide +kernel
theorem dX2_seekMostSun_1 : decode cX2_seekMostSun 1 = .ok (.aload_n 1, 1) := by decide +kernel
theorem dX2_seekMostSun_2 : decode cX2_seekMostSun 2 = .ok (.iconst 0, 1) := by decide +kernel
theorem dX2_seekMostSun_3 : decode cX2_seekMostSun 3 = .ok (.iconst 0, 1) := by decide +kernel
theorem dX2_seekMostSun_4 : decode cX2_seekMostSun 4 = .ok (.invokevirtual 29, 3) := by decide +kernel
theorem dX2_seekMostSun_7 : decode cX2_seekMostSun 7 = .ok (.aload_n 0, 1) := by decide +kernel
theorem dX2_seekMostSun_8 : decode cX2_seekMostSun 8 = .ok (.getfield 15, 3) := by decide +kernel
theorem dX2_seekMostSun_11 : decode cX2_seekMostSun 11 = .ok (.iload_n 3, 1) := by decide +kernel
theorem dX2_seekMostSun_12 : decode cX2_seekMostSun 12 = .ok (.invokevirtual 33, 3) := by decide +kernel
theorem dX2_seekMostSun_15 : decode cX2_seekMostSun 15 = .ok (.aload_n 0, 1) := by decide +kernel
theorem dX2_seekMostSun_16 : decode cX2_seekMostSun 16 = .ok (.aload_n 0, 1) := by decide +kernel
theorem dX2_seekMostSun_17 : decode cX2_seekMostSun 17 = .ok (.getfield 15, 3) := by decide +kernel
theorem dX2_seekMostSun_20 : decode cX2_seekMostSun 20 = .ok (.iload_n 2, 1) := by decide +kernel
theorem dX2_seekMostSun_21 : decode cX2_seekMostSun 21 = .ok (.invokevirtual 39, 3) := by decide +kernel
theorem dX2_seekMostSun_24 : decode cX2_seekMostSun 24 = .ok (.iconst 0, 1) := by decide +kernel
theorem dX2_seekMostSun_25 : decode cX2_seekMostSun 25 = .ok (.iconst 0, 1) := by decide +kernel
theorem dX2_seekMostSun_26 : decode cX2_seekMostSun 26 = .ok (.invokevirtual 43, 3) := by decide +kernel
theorem dX2_seekMostSun_29 : decode cX2_seekMostSun 29 = .ok (.iconst 0, 1) := by decide +kernel
theorem dX2_seekMostSun_30 : decode cX2_seekMostSun 30 = .ok (.istore 4, 2) := by decide +kernel
theorem dX2_seekMostSun_32 : decode cX2_seekMostSun 32 = .ok (.iload 4, 2) := by decide +kernel
theorem dX2_seekMostSun_34 : decode cX2_seekMostSun 34 = .ok (.bipush 64, 2) := by decide +kernel
theorem dX2_seekMostSun_36 : decode cX2_seekMostSun 36 = .ok (.if_icmp .ge 111, 3) := by decide +kernel
theorem dX2_seekMostSun_39 : decode cX2_seekMostSun 39 = .ok (.iload 4, 2) := by decide +kernel
theorem dX2_seekMostSun_41 : decode cX2_seekMostSun 41 = .ok (.ifCond .eq 12, 3) := by decide +kernel
theorem dX2_seekMostSun_44 : decode cX2_seekMostSun 44 = .ok (.aload_n 0, 1) := by decide +kernel
theorem dX2_seekMostSun_45 : decode cX2_seekMostSun 45 = .ok (.iload 4, 2) := by decide +kernel
theorem dX2_seekMostSun_47 : decode cX2_seekMostSun 47 = .ok (.invokevirtual 47, 3) := by decide +kernel
theorem dX2_seekMostSun_50 : decode cX2_seekMostSun 50 = .ok (.ifCond .eq 10, 3) := by decide +kernel
theorem dX2_seekMostSun_53 : decode cX2_seekMostSun 53 = .ok (.iload 4, 2) := by decide +kernel
theorem dX2_seekMostSun_55 : decode cX2_seekMostSun 55 = .ok (.iconst 1, 1) := by decide +kernel
theorem dX2_seekMostSun_56 : decode cX2_seekMostSun 56 = .ok (.iadd, 1) := by decide +kernel
theorem dX2_seekMostSun_57 : decode cX2_seekMostSun 57 = .ok (.goto 5, 3) := by decide +kernel
theorem dX2_seekMostSun_60 : decode cX2_seekMostSun 60 = .ok (.bipush 64, 2) := by decide +kernel
theorem dX2_seekMostSun_62 : decode cX2_seekMostSun 62 = .ok (.istore 5, 2) := by decide +kernel
theorem dX2_seekMostSun_64 : decode cX2_seekMostSun 64 = .ok (.iload 5, 2) := by decide +kernel
theorem dX2_seekMostSun_66 : decode cX2_seekMostSun 66 = .ok (.istore 6, 2) := by decide +kernel
theorem dX2_seekMostSun_68 : decode cX2_seekMostSun 68 = .ok (.iload 6, 2) := by decide +kernel
theorem dX2_seekMostSun_70 : decode cX2_seekMostSun 70 = .ok (.bipush 64, 2) := by decide +kernel
theorem dX2_seekMostSun_72 : decode cX2_seekMostSun 72 = .ok (.if_icmp .ge 69, 3) := by decide +kernel
theorem dX2_seekMostSun_75 : decode cX2_seekMostSun 75 = .ok (.aload_n 0, 1) := by decide +kernel
theorem dX2_seekMostSun_76 : decode cX2_seekMostSun 76 = .ok (.iload 6, 2) := by decide +kernel
theorem dX2_seekMostSun_78 : decode cX2_seekMostSun 78 = .ok (.invokevirtual 47, 3) := by decide +kernel
theorem dX2_seekMostSun_81 : decode cX2_seekMostSun 81 = .ok (.ifCond .ne 6, 3) := by decide +kernel
theorem dX2_seekMostSun_84 : decode cX2_seekMostSun 84 = .ok (.goto 51, 3) := by decide +kernel
theorem dX2_seekMostSun_87 : decode cX2_seekMostSun 87 = .ok (.aload_n 0, 1) := by decide +kernel
theorem dX2_seekMostSun_88 : decode cX2_seekMostSun 88 = .ok (.aload_n 1, 1) := by decide +kernel
theorem dX2_seekMostSun_89 : decode cX2_seekMostSun 89 = .ok (.iload 4, 2) := by decide +kernel
theorem dX2_seekMostSun_91 : decode cX2_seekMostSun 91 = .ok (.iload 6, 2) := by decide +kernel
theorem dX2_seekMostSun_93 : decode cX2_seekMostSun 93 = .ok (.invokevirtual 29, 3) := by decide +kernel
theorem dX2_seekMostSun_96 : decode cX2_seekMostSun 96 = .ok (.aload_n 0, 1) := by decide +kernel
theorem dX2_seekMostSun_97 : decode cX2_seekMostSun 97 = .ok (.getfield 15, 3) := by decide +kernel
theorem dX2_seekMostSun_100 : decode cX2_seekMostSun 100 = .ok (.iload_n 3, 1) := by decide +kernel
theorem dX2_seekMostSun_101 : decode cX2_seekMostSun 101 = .ok (.invokevirtual 33, 3) := by decide +kernel
theorem dX2_seekMostSun_104 : decode cX2_seekMostSun 104 = .ok (.aload_n 0, 1) := by decide +kernel
theorem dX2_seekMostSun_105 : decode cX2_seekMostSun 105 = .ok (.getfield 15, 3) := by decide +kernel
theorem dX2_seekMostSun_108 : decode cX2_seekMostSun 108 = .ok (.iload_n 2, 1) := by decide +kernel
theorem dX2_seekMostSun_109 : decode cX2_seekMostSun 109 = .ok (.invokevirtual 39, 3) := by decide +kernel
theorem dX2_seekMostSun_112 : decode cX2_seekMostSun 112 = .ok (.aload_n 0, 1) := by decide +kernel
theorem dX2_seekMostSun_113 : decode cX2_seekMostSun 113 = .ok (.getfield 19, 3) := by decide +kernel
theorem dX2_seekMostSun_116 : decode cX2_seekMostSun 116 = .ok (.if_icmp .le 19, 3) := by decide +kernel
theorem dX2_seekMostSun_119 : decode cX2_seekMostSun 119 = .ok (.aload_n 0, 1) := by decide +kernel
theorem dX2_seekMostSun_120 : decode cX2_seekMostSun 120 = .ok (.aload_n 0, 1) := by decide +kernel
theorem dX2_seekMostSun_121 : decode cX2_seekMostSun 121 = .ok (.getfield 15, 3) := by decide +kernel
theorem dX2_seekMostSun_124 : decode cX2_seekMostSun 124 = .ok (.iload_n 2, 1) := by decide +kernel
theorem dX2_seekMostSun_125 : decode cX2_seekMostSun 125 = .ok (.invokevirtual 39, 3) := by decide +kernel
theorem dX2_seekMostSun_128 : decode cX2_seekMostSun 128 = .ok (.iload 4, 2) := by decide +kernel
theorem dX2_seekMostSun_130 : decode cX2_seekMostSun 130 = .ok (.iload 6, 2) := by decide +kernel
theorem dX2_seekMostSun_132 : decode cX2_seekMostSun 132 = .ok (.invokevirtual 43, 3) := by decide +kernel
theorem dX2_seekMostSun_135 : decode cX2_seekMostSun 135 = .ok (.iinc 6 1, 3) := by decide +kernel
theorem dX2_seekMostSun_138 : decode cX2_seekMostSun 138 = .ok (.goto (-70), 3) := by decide +kernel
theorem dX2_seekMostSun_141 : decode cX2_seekMostSun 141 = .ok (.iinc 4 1, 3) := by decide +kernel
theorem dX2_seekMostSun_144 : decode cX2_seekMostSun 144 = .ok (.goto (-112), 3) := by decide +kernel
theorem dX2_seekMostSun_147 : decode cX2_seekMostSun 147 = .ok (.return_, 1) := by decide +kernel
theorem dX2_seekFewestCold_0 : decode cX2_seekFewestCold 0 = .ok (.aload_n 0, 1) := by decide +kernel
theorem dX2_seekFewestCold_1 : decode cX2_seekFewestCold 1 = .ok (.aload_n 1, 1) := by decide +kernel
theorem dX2_seekFewestCold_2 : decode cX2_seekFewestCold 2 = .ok (.iconst 0, 1) := by decide +kernel
theorem dX2_seekFewestCold_3 : decode cX2_seekFewestCold 3 = .ok (.iconst 0, 1) := by decide +kernel
theorem dX2_seekFewestCold_4 : decode cX2_seekFewestCold 4 = .ok (.invokevirtual 29, 3) := by decide +kernel
theorem dX2_seekFewestCold_7 : decode cX2_seekFewestCold 7 = .ok (.aload_n 0, 1) := by decide +kernel
theorem dX2_seekFewestCold_8 : decode cX2_seekFewestCold 8 = .ok (.getfield 15, 3) := by decide +kernel
theorem dX2_seekFewestCold_11 : decode cX2_seekFewestCold 11 = .ok (.iload_n 2, 1) := by decide +kernel
theorem dX2_seekFewestCold_12 : decode cX2_seekFewestCold 12 = .ok (.invokevirtual 33, 3) := by decide +kernel
theorem dX2_seekFewestCold_15 : decode cX2_seekFewestCold 15 = .ok (.aload_n 0, 1) := by decide +kernel
theorem dX2_seekFewestCold_16 : decode cX2_seekFewestCold 16 = .ok (.aload_n 0, 1) := by decide +kernel
theorem dX2_seekFewestCold_17 : decode cX2_seekFewestCold 17 = .ok (.getfield 15, 3) := by decide +kernel
theorem dX2_seekFewestCold_20 : decode cX2_seekFewestCold 20 = .ok (.invokevirtual 51, 3) := by decide +kernel
theorem dX2_seekFewestCold_23 : decode cX2_seekFewestCold 23 = .ok (.iconst 0, 1) := by decide +kernel
theorem dX2_seekFewestCold_24 : decode cX2_seekFewestCold 24 = .ok (.iconst 0, 1) := by decide +kernel
theorem dX2_seekFewestCold_25 : decode cX2_seekFewestCold 25 = .ok (.invokevirtual 43, 3) := by decide +kernel
theorem dX2_seekFewestCold_28 : decode cX2_seekFewestCold 28 = .ok (.iconst 1, 1) := by decide +kernel
theorem dX2_seekFewestCold_29 : decode cX2_seekFewestCold 29 = .ok (.istore_n 3, 1) := by decide +kernel
theorem dX2_seekFewestCold_30 : decode cX2_seekFewestCold 30 = .ok (.iload_n 3, 1) := by decide +kernel
theorem dX2_seekFewestCold_31 : decode cX2_seekFewestCold 31 = .ok (.bipush 64, 2) := by decide +kernel
theorem dX2_seekFewestCold_33 : decode cX2_seekFewestCold 33 = .ok (.if_icmp .ge 62, 3) := by decide +kernel
theorem dX2_seekFewestCold_36 : decode cX2_seekFewestCold 36 = .ok (.aload_n 0, 1) := by decide +kernel
theorem dX2_seekFewestCold_37 : decode cX2_seekFewestCold 37 = .ok (.iload_n 3, 1) := by decide +kernel
theorem dX2_seekFewestCold_38 : decode cX2_seekFewestCold 38 = .ok (.invokevirtual 47, 3) := by decide +kernel
theorem dX2_seekFewestCold_41 : decode cX2_seekFewestCold 41 = .ok (.ifCond .ne 6, 3) := by decide +kernel
theorem dX2_seekFewestCold_44 : decode cX2_seekFewestCold 44 = .ok (.goto 45, 3) := by decide +kernel
theorem dX2_seekFewestCold_47 : decode cX2_seekFewestCold 47 = .ok (.aload_n 0, 1) := by decide +kernel
theorem dX2_seekFewestCold_48 : decode cX2_seekFewestCold 48 = .ok (.aload_n 1, 1) := by decide +kernel
theorem dX2_seekFewestCold_49 : decode cX2_seekFewestCold 49 = .ok (.iconst 0, 1) := by decide +kernel
theorem dX2_seekFewestCold_50 : decode cX2_seekFewestCold 50 = .ok (.iload_n 3, 1) := by decide +kernel
theorem dX2_seekFewestCold_51 : decode cX2_seekFewestCold 51 = .ok (.invokevirtual 29, 3) := by decide +kernel
theorem dX2_seekFewestCold_54 : decode cX2_seekFewestCold 54 = .ok (.aload_n 0, 1) := by decide +kernel
theorem dX2_seekFewestCold_55 : decode cX2_seekFewestCold 55 = .ok (.getfield 15, 3) := by decide +kernel
theorem dX2_seekFewestCold_58 : decode cX2_seekFewestCold 58 = .ok (.iload_n 2, 1) := by decide +kernel
theorem dX2_seekFewestCold_59 : decode cX2_seekFewestCold 59 = .ok (.invokevirtual 33, 3) := by decide +kernel
theorem dX2_seekFewestCold_62 : decode cX2_seekFewestCold 62 = .ok (.aload_n 0, 1) := by decide +kernel
theorem dX2_seekFewestCold_63 : decode cX2_seekFewestCold 63 = .ok (.getfield 15, 3) := by decide +kernel
theorem dX2_seekFewestCold_66 : decode cX2_seekFewestCold 66 = .ok (.invokevirtual 51, 3) := by decide +kernel
theorem dX2_seekFewestCold_69 : decode cX2_seekFewestCold 69 = .ok (.aload_n 0, 1) := by decide +kernel
theorem dX2_seekFewestCold_70 : decode cX2_seekFewestCold 70 = .ok (.getfield 19, 3) := by decide +kernel
theorem dX2_seekFewestCold_73 : decode cX2_seekFewestCold 73 = .ok (.if_icmp .ge 16, 3) := by decide +kernel
theorem dX2_seekFewestCold_76 : decode cX2_seekFewestCold 76 = .ok (.aload_n 0, 1) := by decide +kernel
theorem dX2_seekFewestCold_77 : decode cX2_seekFewestCold 77 = .ok (.aload_n 0, 1) := by decide +kernel
theorem dX2_seekFewestCold_78 : decode cX2_seekFewestCold 78 = .ok (.getfield 15, 3) := by decide +kernel
theorem dX2_seekFewestCold_81 : decode cX2_seekFewestCold 81 = .ok (.invokevirtual 51, 3) := by decide +kernel
theorem dX2_seekFewestCold_84 : decode cX2_seekFewestCold 84 = .ok (.iconst 0, 1) := by decide +kernel
theorem dX2_seekFewestCold_85 : decode cX2_seekFewestCold 85 = .ok (.iload_n 3, 1) := by decide +kernel
theorem dX2_seekFewestCold_86 : decode cX2_seekFewestCold 86 = .ok (.invokevirtual 43, 3) := by decide +kernel
theorem dX2_seekFewestCold_89 : decode cX2_seekFewestCold 89 = .ok (.iinc 3 1, 3) := by decide +kernel
theorem dX2_seekFewestCold_92 : decode cX2_seekFewestCold 92 = .ok (.goto (-62), 3) := by decide +kernel
theorem dX2_seekFewestCold_95 : decode cX2_seekFewestCold 95 = .ok (.return_, 1) := by decide +kernel
theorem dX2_ownersByOneSwap_0 : decode cX2_ownersByOneSwap 0 = .ok (.iconst 0, 1) := by decide +kernel
theorem dX2_ownersByOneSwap_1 : decode cX2_ownersByOneSwap 1 = .ok (.istore 4, 2) := by decide +kernel
theorem dX2_ownersByOneSwap_3 : decode cX2_ownersByOneSwap 3 = .ok (.iconst 0, 1) := by decide +kernel
theorem dX2_ownersByOneSwap_4 : decode cX2_ownersByOneSwap 4 = .ok (.istore 5, 2) := by decide +kernel
theorem dX2_ownersByOneSwap_6 : decode cX2_ownersByOneSwap 6 = .ok (.iload 5, 2) := by decide +kernel
theorem dX2_ownersByOneSwap_8 : decode cX2_ownersByOneSwap 8 = .ok (.bipush 64, 2) := by decide +kernel
theorem dX2_ownersByOneSwap_10 : decode cX2_ownersByOneSwap 10 = .ok (.if_icmp .ge 69, 3) := by decide +kernel
theorem dX2_ownersByOneSwap_13 : decode cX2_ownersByOneSwap 13 = .ok (.iload 5, 2) := by decide +kernel
theorem dX2_ownersByOneSwap_15 : decode cX2_ownersByOneSwap 15 = .ok (.ifCond .eq 15, 3) := by decide +kernel
theorem dX2_ownersByOneSwap_18 : decode cX2_ownersByOneSwap 18 = .ok (.aload_n 0, 1) := by decide +kernel
theorem dX2_ownersByOneSwap_19 : decode cX2_ownersByOneSwap 19 = .ok (.iload 5, 2) := by decide +kernel
theorem dX2_ownersByOneSwap_21 : decode cX2_ownersByOneSwap 21 = .ok (.invokevirtual 47, 3) := by decide +kernel
theorem dX2_ownersByOneSwap_24 : decode cX2_ownersByOneSwap 24 = .ok (.ifCond .ne 6, 3) := by decide +kernel
theorem dX2_ownersByOneSwap_27 : decode cX2_ownersByOneSwap 27 = .ok (.goto 46, 3) := by decide +kernel
theorem dX2_ownersByOneSwap_30 : decode cX2_ownersByOneSwap 30 = .ok (.aload_n 0, 1) := by decide +kernel
theorem dX2_ownersByOneSwap_31 : decode cX2_ownersByOneSwap 31 = .ok (.aload_n 1, 1) := by decide +kernel
theorem dX2_ownersByOneSwap_32 : decode cX2_ownersByOneSwap 32 = .ok (.iconst 0, 1) := by decide +kernel
theorem dX2_ownersByOneSwap_33 : decode cX2_ownersByOneSwap 33 = .ok (.iload 5, 2) := by decide +kernel
theorem dX2_ownersByOneSwap_35 : decode cX2_ownersByOneSwap 35 = .ok (.invokevirtual 29, 3) := by decide +kernel
theorem dX2_ownersByOneSwap_38 : decode cX2_ownersByOneSwap 38 = .ok (.aload_n 0, 1) := by decide +kernel
theorem dX2_ownersByOneSwap_39 : decode cX2_ownersByOneSwap 39 = .ok (.getfield 15, 3) := by decide +kernel
theorem dX2_ownersByOneSwap_42 : decode cX2_ownersByOneSwap 42 = .ok (.iload_n 3, 1) := by decide +kernel
theorem dX2_ownersByOneSwap_43 : decode cX2_ownersByOneSwap 43 = .ok (.iconst 1, 1) := by decide +kernel
theorem dX2_ownersByOneSwap_44 : decode cX2_ownersByOneSwap 44 = .ok (.iadd, 1) := by decide +kernel
theorem dX2_ownersByOneSwap_45 : decode cX2_ownersByOneSwap 45 = .ok (.invokevirtual 33, 3) := by decide +kernel
theorem dX2_ownersByOneSwap_48 : decode cX2_ownersByOneSwap 48 = .ok (.iload 4, 2) := by decide +kernel
theorem dX2_ownersByOneSwap_50 : decode cX2_ownersByOneSwap 50 = .ok (.iconst 1, 1) := by decide +kernel
theorem dX2_ownersByOneSwap_51 : decode cX2_ownersByOneSwap 51 = .ok (.aload_n 0, 1) := by decide +kernel
theorem dX2_ownersByOneSwap_52 : decode cX2_ownersByOneSwap 52 = .ok (.getfield 15, 3) := by decide +kernel
theorem dX2_ownersByOneSwap_55 : decode cX2_ownersByOneSwap 55 = .ok (.invokevirtual 55, 3) := by decide +kernel
theorem dX2_ownersByOneSwap_58 : decode cX2_ownersByOneSwap 58 = .ok (.iload_n 2, 1) := by decide +kernel
theorem dX2_ownersByOneSwap_59 : decode cX2_ownersByOneSwap 59 = .ok (.aload_n 0, 1) := by decide +kernel
theorem dX2_ownersByOneSwap_60 : decode cX2_ownersByOneSwap 60 = .ok (.getfield 9, 3) := by decide +kernel
theorem dX2_ownersByOneSwap_63 : decode cX2_ownersByOneSwap 63 = .ok (.invokevirtual 59, 3) := by decide +kernel
theorem dX2_ownersByOneSwap_66 : decode cX2_ownersByOneSwap 66 = .ok (.invokevirtual 64, 3) := by decide +kernel
theorem dX2_ownersByOneSwap_69 : decode cX2_ownersByOneSwap 69 = .ok (.ishl, 1) := by decide +kernel
theorem dX2_ownersByOneSwap_70 : decode cX2_ownersByOneSwap 70 = .ok (.ior, 1) := by decide +kernel
theorem dX2_ownersByOneSwap_71 : decode cX2_ownersByOneSwap 71 = .ok (.istore 4, 2) := by decide +kernel
theorem dX2_ownersByOneSwap_73 : decode cX2_ownersByOneSwap 73 = .ok (.iinc 5 1, 3) := by decide +kernel
theorem dX2_ownersByOneSwap_76 : decode cX2_ownersByOneSwap 76 = .ok (.goto (-70), 3) := by decide +kernel
theorem dX2_ownersByOneSwap_79 : decode cX2_ownersByOneSwap 79 = .ok (.iload 4, 2) := by decide +kernel
theorem dX2_ownersByOneSwap_81 : decode cX2_ownersByOneSwap 81 = .ok (.ireturn, 1) := by decide +kernel
theorem dX2_isPair_0 : decode cX2_isPair 0 = .ok (.iload_n 1, 1) := by decide +kernel
theorem dX2_isPair_1 : decode cX2_isPair 1 = .ok (.bipush 8, 2) := by decide +kernel
theorem dX2_isPair_3 : decode cX2_isPair 3 = .ok (.idiv, 1) := by decide +kernel
theorem dX2_isPair_4 : decode cX2_isPair 4 = .ok (.iload_n 1, 1) := by decide +kernel
theorem dX2_isPair_5 : decode cX2_isPair 5 = .ok (.bipush 8, 2) := by decide +kernel
theorem dX2_isPair_7 : decode cX2_isPair 7 = .ok (.irem, 1) := by decide +kernel
theorem dX2_isPair_8 : decode cX2_isPair 8 = .ok (.if_icmp .ge 21, 3) := by decide +kernel
theorem dX2_isPair_11 : decode cX2_isPair 11 = .ok (.iload_n 1, 1) := by decide +kernel
theorem dX2_isPair_12 : decode cX2_isPair 12 = .ok (.bipush 8, 2) := by decide +kernel
theorem dX2_isPair_14 : decode cX2_isPair 14 = .ok (.irem, 1) := by decide +kernel
theorem dX2_isPair_15 : decode cX2_isPair 15 = .ok (.aload_n 0, 1) := by decide +kernel
theorem dX2_isPair_16 : decode cX2_isPair 16 = .ok (.getfield 9, 3) := by decide +kernel
theorem dX2_isPair_19 : decode cX2_isPair 19 = .ok (.invokevirtual 59, 3) := by decide +kernel
theorem dX2_isPair_22 : decode cX2_isPair 22 = .ok (.if_icmp .ge 7, 3) := by decide +kernel
theorem dX2_isPair_25 : decode cX2_isPair 25 = .ok (.iconst 1, 1) := by decide +kernel
theorem dX2_isPair_26 : decode cX2_isPair 26 = .ok (.goto 4, 3) := by decide +kernel
theorem dX2_isPair_29 : decode cX2_isPair 29 = .ok (.iconst 0, 1) := by decide +kernel
theorem dX2_isPair_30 : decode cX2_isPair 30 = .ok (.ireturn, 1) := by decide +kernel
theorem dX2_beginBy_0 : decode cX2_beginBy 0 = .ok (.aload_n 0, 1) := by decide +kernel
theorem dX2_beginBy_1 : decode cX2_beginBy 1 = .ok (.getfield 15, 3) := by decide +kernel
theorem dX2_beginBy_4 : decode cX2_beginBy 4 = .ok (.aload_n 1, 1) := by decide +kernel
theorem dX2_beginBy_5 : decode cX2_beginBy 5 = .ok (.invokevirtual 70, 3) := by decide +kernel
theorem dX2_beginBy_8 : decode cX2_beginBy 8 = .ok (.aload_n 0, 1) := by decide +kernel
theorem dX2_beginBy_9 : decode cX2_beginBy 9 = .ok (.getfield 15, 3) := by decide +kernel
theorem dX2_beginBy_12 : decode cX2_beginBy 12 = .ok (.invokevirtual 55, 3) := by decide +kernel
theorem dX2_beginBy_15 : decode cX2_beginBy 15 = .ok (.iload_n 2, 1) := by decide +kernel
theorem dX2_beginBy_16 : decode cX2_beginBy 16 = .ok (.bipush 8, 2) := by decide +kernel
theorem dX2_beginBy_18 : decode cX2_beginBy 18 = .ok (.idiv, 1) := by decide +kernel
theorem dX2_beginBy_19 : decode cX2_beginBy 19 = .ok (.iload_n 2, 1) := by decide +kernel
theorem dX2_beginBy_20 : decode cX2_beginBy 20 = .ok (.bipush 8, 2) := by decide +kernel
theorem dX2_beginBy_22 : decode cX2_beginBy 22 = .ok (.irem, 1) := by decide +kernel
theorem dX2_beginBy_23 : decode cX2_beginBy 23 = .ok (.invokevirtual 74, 3) := by decide +kernel
theorem dX2_beginBy_26 : decode cX2_beginBy 26 = .ok (.aload_n 0, 1) := by decide +kernel
theorem dX2_beginBy_27 : decode cX2_beginBy 27 = .ok (.getfield 15, 3) := by decide +kernel
theorem dX2_beginBy_30 : decode cX2_beginBy 30 = .ok (.invokevirtual 55, 3) := by decide +kernel
theorem dX2_beginBy_33 : decode cX2_beginBy 33 = .ok (.iload_n 3, 1) := by decide +kernel
theorem dX2_beginBy_34 : decode cX2_beginBy 34 = .ok (.bipush 8, 2) := by decide +kernel
theorem dX2_beginBy_36 : decode cX2_beginBy 36 = .ok (.idiv, 1) := by decide +kernel
theorem dX2_beginBy_37 : decode cX2_beginBy 37 = .ok (.iload_n 3, 1) := by decide +kernel
theorem dX2_beginBy_38 : decode cX2_beginBy 38 = .ok (.bipush 8, 2) := by decide +kernel
theorem dX2_beginBy_40 : decode cX2_beginBy 40 = .ok (.irem, 1) := by decide +kernel
theorem dX2_beginBy_41 : decode cX2_beginBy 41 = .ok (.invokevirtual 74, 3) := by decide +kernel
theorem dX2_beginBy_44 : decode cX2_beginBy 44 = .ok (.return_, 1) := by decide +kernel
theorem dX2_take_0 : decode cX2_take 0 = .ok (.aload_n 0, 1) := by decide +kernel
theorem dX2_take_1 : decode cX2_take 1 = .ok (.iload_n 1, 1) := by decide +kernel
theorem dX2_take_2 : decode cX2_take 2 = .ok (.putfield 19, 3) := by decide +kernel
theorem dX2_take_5 : decode cX2_take 5 = .ok (.aload_n 0, 1) := by decide +kernel
theorem dX2_take_6 : decode cX2_take 6 = .ok (.iload_n 2, 1) := by decide +kernel
theorem dX2_take_7 : decode cX2_take 7 = .ok (.ifCond .eq 7, 3) := by decide +kernel
theorem dX2_take_10 : decode cX2_take 10 = .ok (.iload_n 2, 1) := by decide +kernel
theorem dX2_take_11 : decode cX2_take 11 = .ok (.goto 13, 3) := by decide +kernel
theorem dX2_take_14 : decode cX2_take 14 = .ok (.iload_n 3, 1) := by decide +kernel
theorem dX2_take_15 : decode cX2_take 15 = .ok (.ifCond .eq 7, 3) := by decide +kernel
theorem dX2_take_18 : decode cX2_take 18 = .ok (.iload_n 3, 1) := by decide +kernel
theorem dX2_take_19 : decode cX2_take 19 = .ok (.goto 5, 3) := by decide +kernel
theorem dX2_take_22 : decode cX2_take 22 = .ok (.bipush (-4), 2) := by decide +kernel
theorem dX2_take_24 : decode cX2_take 24 = .ok (.putfield 23, 3) := by decide +kernel
theorem dX2_take_27 : decode cX2_take 27 = .ok (.aload_n 0, 1) := by decide +kernel
theorem dX2_take_28 : decode cX2_take 28 = .ok (.iload_n 2, 1) := by decide +kernel
theorem dX2_take_29 : decode cX2_take 29 = .ok (.ifCond .eq 7, 3) := by decide +kernel
theorem dX2_take_32 : decode cX2_take 32 = .ok (.iload_n 3, 1) := by decide +kernel
theorem dX2_take_33 : decode cX2_take 33 = .ok (.goto 5, 3) := by decide +kernel
theorem dX2_take_36 : decode cX2_take 36 = .ok (.bipush (-4), 2) := by decide +kernel
theorem dX2_take_38 : decode cX2_take 38 = .ok (.putfield 26, 3) := by decide +kernel
theorem dX2_take_41 : decode cX2_take 41 = .ok (.return_, 1) := by decide +kernel
theorem dX3_init_0 : decode cX3_init 0 = .ok (.aload_n 0, 1) := by decide +kernel
theorem dX3_init_1 : decode cX3_init 1 = .ok (.invokespecial 3, 3) := by decide +kernel
theorem dX3_init_4 : decode cX3_init 4 = .ok (.aload_n 0, 1) := by decide +kernel
theorem dX3_init_5 : decode cX3_init 5 = .ok (.bipush 8, 2) := by decide +kernel
theorem dX3_init_7 : decode cX3_init 7 = .ok (.newarray .int, 2) := by decide +kernel
theorem dX3_init_9 : decode cX3_init 9 = .ok (.putfield 9, 3) := by decide +kernel
theorem dX3_init_12 : decode cX3_init 12 = .ok (.aload_n 0, 1) := by decide +kernel
theorem dX3_init_13 : decode cX3_init 13 = .ok (.bipush 8, 2) := by decide +kernel
theorem dX3_init_15 : decode cX3_init 15 = .ok (.newarray .int, 2) := by decide +kernel
theorem dX3_init_17 : decode cX3_init 17 = .ok (.putfield 15, 3) := by decide +kernel
theorem dX3_init_20 : decode cX3_init 20 = .ok (.aload_n 0, 1) := by decide +kernel
theorem dX3_init_21 : decode cX3_init 21 = .ok (.bipush 8, 2) := by decide +kernel
theorem dX3_init_23 : decode cX3_init 23 = .ok (.newarray .int, 2) := by decide +kernel
theorem dX3_init_25 : decode cX3_init 25 = .ok (.putfield 18, 3) := by decide +kernel
theorem dX3_init_28 : decode cX3_init 28 = .ok (.return_, 1) := by decide +kernel
theorem dX3_isFull_0 : decode cX3_isFull 0 = .ok (.aload_n 0, 1) := by decide +kernel
theorem dX3_isFull_1 : decode cX3_isFull 1 = .ok (.getfield 21, 3) := by decide +kernel
theorem dX3_isFull_4 : decode cX3_isFull 4 = .ok (.bipush 8, 2) := by decide +kernel
theorem dX3_isFull_6 : decode cX3_isFull 6 = .ok (.if_icmp .lt 7, 3) := by decide +kernel
theorem dX3_isFull_9 : decode cX3_isFull 9 = .ok (.iconst 1, 1) := by decide +kernel
theorem dX3_isFull_10 : decode cX3_isFull 10 = .ok (.goto 4, 3) := by decide +kernel
theorem dX3_isFull_13 : decode cX3_isFull 13 = .ok (.iconst 0, 1) := by decide +kernel
theorem dX3_isFull_14 : decode cX3_isFull 14 = .ok (.ireturn, 1) := by decide +kernel
theorem dX3_size_0 : decode cX3_size 0 = .ok (.aload_n 0, 1) := by decide +kernel
theorem dX3_size_1 : decode cX3_size 1 = .ok (.getfield 21, 3) := by decide +kernel
theorem dX3_size_4 : decode cX3_size 4 = .ok (.ireturn, 1) := by decide +kernel
theorem dX3_clear_0 : decode cX3_clear 0 = .ok (.aload_n 0, 1) := by decide +kernel
theorem dX3_clear_1 : decode cX3_clear 1 = .ok (.iconst 0, 1) := by decide +kernel
theorem dX3_clear_2 : decode cX3_clear 2 = .ok (.putfield 21, 3) := by decide +kernel
theorem dX3_clear_5 : decode cX3_clear 5 = .ok (.return_, 1) := by decide +kernel
theorem dX3_add_0 : decode cX3_add 0 = .ok (.aload_n 0, 1) := by decide +kernel
theorem dX3_add_1 : decode cX3_add 1 = .ok (.getfield 21, 3) := by decide +kernel
theorem dX3_add_4 : decode cX3_add 4 = .ok (.istore 4, 2) := by decide +kernel
theorem dX3_add_6 : decode cX3_add 6 = .ok (.iload 4, 2) := by decide +kernel
theorem dX3_add_8 : decode cX3_add 8 = .ok (.ifCond .le 63, 3) := by decide +kernel
theorem dX3_add_11 : decode cX3_add 11 = .ok (.aload_n 0, 1) := by decide +kernel
theorem dX3_add_12 : decode cX3_add 12 = .ok (.getfield 18, 3) := by decide +kernel
theorem dX3_add_15 : decode cX3_add 15 = .ok (.iload 4, 2) := by decide +kernel
theorem dX3_add_17 : decode cX3_add 17 = .ok (.iconst 1, 1) := by decide +kernel
theorem dX3_add_18 : decode cX3_add 18 = .ok (.isub, 1) := by decide +kernel
theorem dX3_add_19 : decode cX3_add 19 = .ok (.invokestatic 25, 3) := by decide +kernel
theorem dX3_add_22 : decode cX3_add 22 = .ok (.iload_n 3, 1) := by decide +kernel
theorem dX3_add_23 : decode cX3_add 23 = .ok (.if_icmp .le 48, 3) := by decide +kernel
theorem dX3_add_26 : decode cX3_add 26 = .ok (.aload_n 0, 1) := by decide +kernel
theorem dX3_add_27 : decode cX3_add 27 = .ok (.iload 4, 2) := by decide +kernel
theorem dX3_add_29 : decode cX3_add 29 = .ok (.aload_n 0, 1) := by decide +kernel
theorem dX3_add_30 : decode cX3_add 30 = .ok (.getfield 9, 3) := by decide +kernel
theorem dX3_add_33 : decode cX3_add 33 = .ok (.iload 4, 2) := by decide +kernel
theorem dX3_add_35 : decode cX3_add 35 = .ok (.iconst 1, 1) := by decide +kernel
theorem dX3_add_36 : decode cX3_add 36 = .ok (.isub, 1) := by decide +kernel
theorem dX3_add_37 : decode cX3_add 37 = .ok (.invokestatic 25, 3) := by decide +kernel
theorem dX3_add_40 : decode cX3_add 40 = .ok (.aload_n 0, 1) := by decide +kernel
theorem dX3_add_41 : decode cX3_add 41 = .ok (.getfield 15, 3) := by decide +kernel
theorem dX3_add_44 : decode cX3_add 44 = .ok (.iload 4, 2) := by decide +kernel
theorem dX3_add_46 : decode cX3_add 46 = .ok (.iconst 1, 1) := by decide +kernel
theorem dX3_add_47 : decode cX3_add 47 = .ok (.isub, 1) := by decide +kernel
theorem dX3_add_48 : decode cX3_add 48 = .ok (.invokestatic 25, 3) := by decide +kernel
theorem dX3_add_51 : decode cX3_add 51 = .ok (.aload_n 0, 1) := by decide +kernel
theorem dX3_add_52 : decode cX3_add 52 = .ok (.getfield 18, 3) := by decide +kernel
theorem dX3_add_55 : decode cX3_add 55 = .ok (.iload 4, 2) := by decide +kernel
theorem dX3_add_57 : decode cX3_add 57 = .ok (.iconst 1, 1) := by decide +kernel
theorem dX3_add_58 : decode cX3_add 58 = .ok (.isub, 1) := by decide +kernel
theorem dX3_add_59 : decode cX3_add 59 = .ok (.invokestatic 25, 3) := by decide +kernel
theorem dX3_add_62 : decode cX3_add 62 = .ok (.invokevirtual 29, 3) := by decide +kernel
theorem dX3_add_65 : decode cX3_add 65 = .ok (.iinc 4 (-1), 3) := by decide +kernel
theorem dX3_add_68 : decode cX3_add 68 = .ok (.goto (-62), 3) := by decide +kernel
theorem dX3_add_71 : decode cX3_add 71 = .ok (.aload_n 0, 1) := by decide +kernel
theorem dX3_add_72 : decode cX3_add 72 = .ok (.iload 4, 2) := by decide +kernel
theorem dX3_add_74 : decode cX3_add 74 = .ok (.iload_n 1, 1) := by decide +kernel
theorem dX3_add_75 : decode cX3_add 75 = .ok (.iload_n 2, 1) := by decide +kernel
theorem dX3_add_76 : decode cX3_add 76 = .ok (.iload_n 3, 1) := by decide +kernel
theorem dX3_add_77 : decode cX3_add 77 = .ok (.invokevirtual 29, 3) := by decide +kernel
theorem dX3_add_80 : decode cX3_add 80 = .ok (.aload_n 0, 1) := by decide +kernel
theorem dX3_add_81 : decode cX3_add 81 = .ok (.dup, 1) := by decide +kernel
theorem dX3_add_82 : decode cX3_add 82 = .ok (.getfield 21, 3) := by decide +kernel
theorem dX3_add_85 : decode cX3_add 85 = .ok (.iconst 1, 1) := by decide +kernel
theorem dX3_add_86 : decode cX3_add 86 = .ok (.iadd, 1) := by decide +kernel
theorem dX3_add_87 : decode cX3_add 87 = .ok (.putfield 21, 3) := by decide +kernel
theorem dX3_add_90 : decode cX3_add 90 = .ok (.return_, 1) := by decide +kernel
theorem dX3_set_0 : decode cX3_set 0 = .ok (.aload_n 0, 1) := by decide +kernel
theorem dX3_set_1 : decode cX3_set 1 = .ok (.getfield 9, 3) := by decide +kernel
theorem dX3_set_4 : decode cX3_set 4 = .ok (.iload_n 1, 1) := by decide +kernel
theorem dX3_set_5 : decode cX3_set 5 = .ok (.iload_n 2, 1) := by decide +kernel
theorem dX3_set_6 : decode cX3_set 6 = .ok (.invokestatic 33, 3) := by decide +kernel
theorem dX3_set_9 : decode cX3_set 9 = .ok (.aload_n 0, 1) := by decide +kernel
theorem dX3_set_10 : decode cX3_set 10 = .ok (.getfield 15, 3) := by decide +kernel
theorem dX3_set_13 : decode cX3_set 13 = .ok (.iload_n 1, 1) := by decide +kernel
theorem dX3_set_14 : decode cX3_set 14 = .ok (.iload_n 3, 1) := by decide +kernel
theorem dX3_set_15 : decode cX3_set 15 = .ok (.invokestatic 33, 3) := by decide +kernel
theorem dX3_set_18 : decode cX3_set 18 = .ok (.aload_n 0, 1) := by decide +kernel
theorem dX3_set_19 : decode cX3_set 19 = .ok (.getfield 18, 3) := by decide +kernel
theorem dX3_set_22 : decode cX3_set 22 = .ok (.iload_n 1, 1) := by decide +kernel
theorem dX3_set_23 : decode cX3_set 23 = .ok (.iload 4, 2) := by decide +kernel
theorem dX3_set_25 : decode cX3_set 25 = .ok (.invokestatic 33, 3) := by decide +kernel
theorem dX3_set_28 : decode cX3_set 28 = .ok (.return_, 1) := by decide +kernel
theorem dX3_allHoldOn_0 : decode cX3_allHoldOn 0 = .ok (.iconst 0, 1) := by decide +kernel
theorem dX3_allHoldOn_1 : decode cX3_allHoldOn 1 = .ok (.istore_n 2, 1) := by decide +kernel
theorem dX3_allHoldOn_2 : decode cX3_allHoldOn 2 = .ok (.iconst 0, 1) := by decide +kernel
theorem dX3_allHoldOn_3 : decode cX3_allHoldOn 3 = .ok (.istore_n 3, 1) := by decide +kernel
theorem dX3_allHoldOn_4 : decode cX3_allHoldOn 4 = .ok (.iload_n 3, 1) := by decide +kernel
theorem dX3_allHoldOn_5 : decode cX3_allHoldOn 5 = .ok (.aload_n 0, 1) := by decide +kernel
theorem dX3_allHoldOn_6 : decode cX3_allHoldOn 6 = .ok (.getfield 21, 3) := by decide +kernel
theorem dX3_allHoldOn_9 : decode cX3_allHoldOn 9 = .ok (.if_icmp .ge 60, 3) := by decide +kernel
theorem dX3_allHoldOn_12 : decode cX3_allHoldOn 12 = .ok (.aload_n 0, 1) := by decide +kernel
theorem dX3_allHoldOn_13 : decode cX3_allHoldOn 13 = .ok (.getfield 18, 3) := by decide +kernel
theorem dX3_allHoldOn_16 : decode cX3_allHoldOn 16 = .ok (.iload_n 3, 1) := by decide +kernel
theorem dX3_allHoldOn_17 : decode cX3_allHoldOn 17 = .ok (.invokestatic 25, 3) := by decide +kernel
theorem dX3_allHoldOn_20 : decode cX3_allHoldOn 20 = .ok (.iconst 1, 1) := by decide +kernel
theorem dX3_allHoldOn_21 : decode cX3_allHoldOn 21 = .ok (.iadd, 1) := by decide +kernel
theorem dX3_allHoldOn_22 : decode cX3_allHoldOn 22 = .ok (.istore 4, 2) := by decide +kernel
theorem dX3_allHoldOn_24 : decode cX3_allHoldOn 24 = .ok (.aload_n 1, 1) := by decide +kernel
theorem dX3_allHoldOn_25 : decode cX3_allHoldOn 25 = .ok (.iload 4, 2) := by decide +kernel
theorem dX3_allHoldOn_27 : decode cX3_allHoldOn 27 = .ok (.iload_n 2, 1) := by decide +kernel
theorem dX3_allHoldOn_28 : decode cX3_allHoldOn 28 = .ok (.isub, 1) := by decide +kernel
theorem dX3_allHoldOn_29 : decode cX3_allHoldOn 29 = .ok (.invokevirtual 37, 3) := by decide +kernel
theorem dX3_allHoldOn_32 : decode cX3_allHoldOn 32 = .ok (.iload 4, 2) := by decide +kernel
theorem dX3_allHoldOn_34 : decode cX3_allHoldOn 34 = .ok (.istore_n 2, 1) := by decide +kernel
theorem dX3_allHoldOn_35 : decode cX3_allHoldOn 35 = .ok (.aload_n 1, 1) := by decide +kernel
theorem dX3_allHoldOn_36 : decode cX3_allHoldOn 36 = .ok (.invokevirtual 43, 3) := by decide +kernel
theorem dX3_allHoldOn_39 : decode cX3_allHoldOn 39 = .ok (.aload_n 0, 1) := by decide +kernel
theorem dX3_allHoldOn_40 : decode cX3_allHoldOn 40 = .ok (.getfield 9, 3) := by decide +kernel
theorem dX3_allHoldOn_43 : decode cX3_allHoldOn 43 = .ok (.iload_n 3, 1) := by decide +kernel
theorem dX3_allHoldOn_44 : decode cX3_allHoldOn 44 = .ok (.invokestatic 25, 3) := by decide +kernel
theorem dX3_allHoldOn_47 : decode cX3_allHoldOn 47 = .ok (.invokevirtual 47, 3) := by decide +kernel
theorem dX3_allHoldOn_50 : decode cX3_allHoldOn 50 = .ok (.aload_n 0, 1) := by decide +kernel
theorem dX3_allHoldOn_51 : decode cX3_allHoldOn 51 = .ok (.getfield 15, 3) := by decide +kernel
theorem dX3_allHoldOn_54 : decode cX3_allHoldOn 54 = .ok (.iload_n 3, 1) := by decide +kernel
theorem dX3_allHoldOn_55 : decode cX3_allHoldOn 55 = .ok (.invokestatic 25, 3) := by decide +kernel
theorem dX3_allHoldOn_58 : decode cX3_allHoldOn 58 = .ok (.if_icmp .eq 5, 3) := by decide +kernel
theorem dX3_allHoldOn_61 : decode cX3_allHoldOn 61 = .ok (.iconst 0, 1) := by decide +kernel
theorem dX3_allHoldOn_62 : decode cX3_allHoldOn 62 = .ok (.ireturn, 1) := by decide +kernel
theorem dX3_allHoldOn_63 : decode cX3_allHoldOn 63 = .ok (.iinc 3 1, 3) := by decide +kernel
theorem dX3_allHoldOn_66 : decode cX3_allHoldOn 66 = .ok (.goto (-62), 3) := by decide +kernel
theorem dX3_allHoldOn_69 : decode cX3_allHoldOn 69 = .ok (.iconst 1, 1) := by decide +kernel
theorem dX3_allHoldOn_70 : decode cX3_allHoldOn 70 = .ok (.ireturn, 1) := by decide +kernel
theorem dX4_init_0 : decode cX4_init 0 = .ok (.aload_n 0, 1) := by decide +kernel
theorem dX4_init_1 : decode cX4_init 1 = .ok (.invokespecial 3, 3) := by decide +kernel
theorem dX4_init_4 : decode cX4_init 4 = .ok (.aload_n 0, 1) := by decide +kernel
theorem dX4_init_5 : decode cX4_init 5 = .ok (.bipush 8, 2) := by decide +kernel
theorem dX4_init_7 : decode cX4_init 7 = .ok (.newarray .int, 2) := by decide +kernel
theorem dX4_init_9 : decode cX4_init 9 = .ok (.putfield 9, 3) := by decide +kernel
theorem dX4_init_12 : decode cX4_init 12 = .ok (.aload_n 0, 1) := by decide +kernel
theorem dX4_init_13 : decode cX4_init 13 = .ok (.bipush 8, 2) := by decide +kernel
theorem dX4_init_15 : decode cX4_init 15 = .ok (.newarray .int, 2) := by decide +kernel
theorem dX4_init_17 : decode cX4_init 17 = .ok (.putfield 15, 3) := by decide +kernel
theorem dX4_init_20 : decode cX4_init 20 = .ok (.return_, 1) := by decide +kernel
theorem dX4_beginAs_0 : decode cX4_beginAs 0 = .ok (.aload_n 0, 1) := by decide +kernel
theorem dX4_beginAs_1 : decode cX4_beginAs 1 = .ok (.iconst 0, 1) := by decide +kernel
theorem dX4_beginAs_2 : decode cX4_beginAs 2 = .ok (.putfield 18, 3) := by decide +kernel
theorem dX4_beginAs_5 : decode cX4_beginAs 5 = .ok (.iconst 0, 1) := by decide +kernel
theorem dX4_beginAs_6 : decode cX4_beginAs 6 = .ok (.istore_n 2, 1) := by decide +kernel
theorem dX4_beginAs_7 : decode cX4_beginAs 7 = .ok (.iload_n 2, 1) := by decide +kernel
theorem dX4_beginAs_8 : decode cX4_beginAs 8 = .ok (.bipush 8, 2) := by decide +kernel
theorem dX4_beginAs_10 : decode cX4_beginAs 10 = .ok (.if_icmp .ge 31, 3) := by decide +kernel
theorem dX4_beginAs_13 : decode cX4_beginAs 13 = .ok (.aload_n 0, 1) := by decide +kernel
theorem dX4_beginAs_14 : decode cX4_beginAs 14 = .ok (.getfield 9, 3) := by decide +kernel
theorem dX4_beginAs_17 : decode cX4_beginAs 17 = .ok (.iload_n 2, 1) := by decide +kernel
theorem dX4_beginAs_18 : decode cX4_beginAs 18 = .ok (.iload_n 2, 1) := by decide +kernel
theorem dX4_beginAs_19 : decode cX4_beginAs 19 = .ok (.invokestatic 22, 3) := by decide +kernel
theorem dX4_beginAs_22 : decode cX4_beginAs 22 = .ok (.aload_n 0, 1) := by decide +kernel
theorem dX4_beginAs_23 : decode cX4_beginAs 23 = .ok (.getfield 15, 3) := by decide +kernel
theorem dX4_beginAs_26 : decode cX4_beginAs 26 = .ok (.iload_n 2, 1) := by decide +kernel
theorem dX4_beginAs_27 : decode cX4_beginAs 27 = .ok (.aload_n 1, 1) := by decide +kernel
theorem dX4_beginAs_28 : decode cX4_beginAs 28 = .ok (.iload_n 2, 1) := by decide +kernel
theorem dX4_beginAs_29 : decode cX4_beginAs 29 = .ok (.invokevirtual 26, 3) := by decide +kernel
theorem dX4_beginAs_32 : decode cX4_beginAs 32 = .ok (.invokestatic 22, 3) := by decide +kernel
theorem dX4_beginAs_35 : decode cX4_beginAs 35 = .ok (.iinc 2 1, 3) := by decide +kernel
theorem dX4_beginAs_38 : decode cX4_beginAs 38 = .ok (.goto (-31), 3) := by decide +kernel
theorem dX4_beginAs_41 : decode cX4_beginAs 41 = .ok (.return_, 1) := by decide +kernel
theorem dX4_copyFrom_0 : decode cX4_copyFrom 0 = .ok (.aload_n 0, 1) := by decide +kernel
theorem dX4_copyFrom_1 : decode cX4_copyFrom 1 = .ok (.aload_n 1, 1) := by decide +kernel
theorem dX4_copyFrom_2 : decode cX4_copyFrom 2 = .ok (.getfield 18, 3) := by decide +kernel
theorem dX4_copyFrom_5 : decode cX4_copyFrom 5 = .ok (.putfield 18, 3) := by decide +kernel
theorem dX4_copyFrom_8 : decode cX4_copyFrom 8 = .ok (.aload_n 1, 1) := by decide +kernel
theorem dX4_copyFrom_9 : decode cX4_copyFrom 9 = .ok (.getfield 9, 3) := by decide +kernel
theorem dX4_copyFrom_12 : decode cX4_copyFrom 12 = .ok (.aload_n 0, 1) := by decide +kernel
theorem dX4_copyFrom_13 : decode cX4_copyFrom 13 = .ok (.getfield 9, 3) := by decide +kernel
theorem dX4_copyFrom_16 : decode cX4_copyFrom 16 = .ok (.invokestatic 32, 3) := by decide +kernel
theorem dX4_copyFrom_19 : decode cX4_copyFrom 19 = .ok (.aload_n 1, 1) := by decide +kernel
theorem dX4_copyFrom_20 : decode cX4_copyFrom 20 = .ok (.getfield 15, 3) := by decide +kernel
theorem dX4_copyFrom_23 : decode cX4_copyFrom 23 = .ok (.aload_n 0, 1) := by decide +kernel
theorem dX4_copyFrom_24 : decode cX4_copyFrom 24 = .ok (.getfield 15, 3) := by decide +kernel
theorem dX4_copyFrom_27 : decode cX4_copyFrom 27 = .ok (.invokestatic 32, 3) := by decide +kernel
theorem dX4_copyFrom_30 : decode cX4_copyFrom 30 = .ok (.return_, 1) := by decide +kernel
theorem dX4_day_0 : decode cX4_day 0 = .ok (.aload_n 0, 1) := by decide +kernel
theorem dX4_day_1 : decode cX4_day 1 = .ok (.getfield 18, 3) := by decide +kernel
theorem dX4_day_4 : decode cX4_day 4 = .ok (.ireturn, 1) := by decide +kernel
theorem dX4_addDays_0 : decode cX4_addDays 0 = .ok (.aload_n 0, 1) := by decide +kernel
theorem dX4_addDays_1 : decode cX4_addDays 1 = .ok (.dup, 1) := by decide +kernel
theorem dX4_addDays_2 : decode cX4_addDays 2 = .ok (.getfield 18, 3) := by decide +kernel
theorem dX4_addDays_5 : decode cX4_addDays 5 = .ok (.iload_n 1, 1) := by decide +kernel
theorem dX4_addDays_6 : decode cX4_addDays 6 = .ok (.iadd, 1) := by decide +kernel
theorem dX4_addDays_7 : decode cX4_addDays 7 = .ok (.putfield 18, 3) := by decide +kernel
theorem dX4_addDays_10 : decode cX4_addDays 10 = .ok (.return_, 1) := by decide +kernel
theorem dX4_roomOf_0 : decode cX4_roomOf 0 = .ok (.iload_n 1, 1) := by decide +kernel
theorem dX4_roomOf_1 : decode cX4_roomOf 1 = .ok (.ifCond .lt 21, 3) := by decide +kernel
theorem dX4_roomOf_4 : decode cX4_roomOf 4 = .ok (.iload_n 1, 1) := by decide +kernel
theorem dX4_roomOf_5 : decode cX4_roomOf 5 = .ok (.aload_n 0, 1) := by decide +kernel
theorem dX4_roomOf_6 : decode cX4_roomOf 6 = .ok (.getfield 9, 3) := by decide +kernel
theorem dX4_roomOf_9 : decode cX4_roomOf 9 = .ok (.arraylength, 1) := by decide +kernel
theorem dX4_roomOf_10 : decode cX4_roomOf 10 = .ok (.if_icmp .ge 12, 3) := by decide +kernel
theorem dX4_roomOf_13 : decode cX4_roomOf 13 = .ok (.aload_n 0, 1) := by decide +kernel
theorem dX4_roomOf_14 : decode cX4_roomOf 14 = .ok (.getfield 9, 3) := by decide +kernel
theorem dX4_roomOf_17 : decode cX4_roomOf 17 = .ok (.iload_n 1, 1) := by decide +kernel
theorem dX4_roomOf_18 : decode cX4_roomOf 18 = .ok (.iaload, 1) := by decide +kernel
theorem dX4_roomOf_19 : decode cX4_roomOf 19 = .ok (.goto 4, 3) := by decide +kernel
theorem dX4_roomOf_22 : decode cX4_roomOf 22 = .ok (.iconst 0, 1) := by decide +kernel
theorem dX4_roomOf_23 : decode cX4_roomOf 23 = .ok (.ireturn, 1) := by decide +kernel
theorem dX4_ownerOf_0 : decode cX4_ownerOf 0 = .ok (.iconst 0, 1) := by decide +kernel
theorem dX4_ownerOf_1 : decode cX4_ownerOf 1 = .ok (.istore_n 3, 1) := by decide +kernel
theorem dX4_ownerOf_2 : decode cX4_ownerOf 2 = .ok (.iload_n 3, 1) := by decide +kernel
theorem dX4_ownerOf_3 : decode cX4_ownerOf 3 = .ok (.iload_n 2, 1) := by decide +kernel
theorem dX4_ownerOf_4 : decode cX4_ownerOf 4 = .ok (.if_icmp .ge 23, 3) := by decide +kernel
theorem dX4_ownerOf_7 : decode cX4_ownerOf 7 = .ok (.aload_n 0, 1) := by decide +kernel
theorem dX4_ownerOf_8 : decode cX4_ownerOf 8 = .ok (.getfield 9, 3) := by decide +kernel
theorem dX4_ownerOf_11 : decode cX4_ownerOf 11 = .ok (.iload_n 3, 1) := by decide +kernel
theorem dX4_ownerOf_12 : decode cX4_ownerOf 12 = .ok (.invokestatic 36, 3) := by decide +kernel
theorem dX4_ownerOf_15 : decode cX4_ownerOf 15 = .ok (.iload_n 1, 1) := by decide +kernel
theorem dX4_ownerOf_16 : decode cX4_ownerOf 16 = .ok (.if_icmp .ne 5, 3) := by decide +kernel
theorem dX4_ownerOf_19 : decode cX4_ownerOf 19 = .ok (.iload_n 3, 1) := by decide +kernel
theorem dX4_ownerOf_20 : decode cX4_ownerOf 20 = .ok (.ireturn, 1) := by decide +kernel
theorem dX4_ownerOf_21 : decode cX4_ownerOf 21 = .ok (.iinc 3 1, 3) := by decide +kernel
theorem dX4_ownerOf_24 : decode cX4_ownerOf 24 = .ok (.goto (-22), 3) := by decide +kernel
theorem dX4_ownerOf_27 : decode cX4_ownerOf 27 = .ok (.bipush (-4), 2) := by decide +kernel
theorem dX4_ownerOf_29 : decode cX4_ownerOf 29 = .ok (.ireturn, 1) := by decide +kernel
theorem dX4_birthdayOf_0 : decode cX4_birthdayOf 0 = .ok (.aload_n 0, 1) := by decide +kernel
theorem dX4_birthdayOf_1 : decode cX4_birthdayOf 1 = .ok (.getfield 15, 3) := by decide +kernel
theorem dX4_birthdayOf_4 : decode cX4_birthdayOf 4 = .ok (.iload_n 1, 1) := by decide +kernel
theorem dX4_birthdayOf_5 : decode cX4_birthdayOf 5 = .ok (.invokestatic 36, 3) := by decide +kernel
theorem dX4_birthdayOf_8 : decode cX4_birthdayOf 8 = .ok (.ireturn, 1) := by decide +kernel
theorem dX4_setBirthday_0 : decode cX4_setBirthday 0 = .ok (.aload_n 0, 1) := by decide +kernel
theorem dX4_setBirthday_1 : decode cX4_setBirthday 1 = .ok (.getfield 15, 3) := by decide +kernel
theorem dX4_setBirthday_4 : decode cX4_setBirthday 4 = .ok (.iload_n 1, 1) := by decide +kernel
theorem dX4_setBirthday_5 : decode cX4_setBirthday 5 = .ok (.iload_n 2, 1) := by decide +kernel
theorem dX4_setBirthday_6 : decode cX4_setBirthday 6 = .ok (.invokestatic 22, 3) := by decide +kernel
theorem dX4_setBirthday_9 : decode cX4_setBirthday 9 = .ok (.return_, 1) := by decide +kernel
theorem dX4_exchange_0 : decode cX4_exchange 0 = .ok (.aload_n 0, 1) := by decide +kernel
theorem dX4_exchange_1 : decode cX4_exchange 1 = .ok (.getfield 9, 3) := by decide +kernel
theorem dX4_exchange_4 : decode cX4_exchange 4 = .ok (.iload_n 1, 1) := by decide +kernel
theorem dX4_exchange_5 : decode cX4_exchange 5 = .ok (.invokestatic 36, 3) := by decide +kernel
theorem dX4_exchange_8 : decode cX4_exchange 8 = .ok (.istore_n 3, 1) := by decide +kernel
theorem dX4_exchange_9 : decode cX4_exchange 9 = .ok (.aload_n 0, 1) := by decide +kernel
theorem dX4_exchange_10 : decode cX4_exchange 10 = .ok (.getfield 9, 3) := by decide +kernel
theorem dX4_exchange_13 : decode cX4_exchange 13 = .ok (.iload_n 1, 1) := by decide +kernel
theorem dX4_exchange_14 : decode cX4_exchange 14 = .ok (.aload_n 0, 1) := by decide +kernel
theorem dX4_exchange_15 : decode cX4_exchange 15 = .ok (.getfield 9, 3) := by decide +kernel
theorem dX4_exchange_18 : decode cX4_exchange 18 = .ok (.iload_n 2, 1) := by decide +kernel
theorem dX4_exchange_19 : decode cX4_exchange 19 = .ok (.invokestatic 36, 3) := by decide +kernel
theorem dX4_exchange_22 : decode cX4_exchange 22 = .ok (.invokestatic 22, 3) := by decide +kernel
theorem dX4_exchange_25 : decode cX4_exchange 25 = .ok (.aload_n 0, 1) := by decide +kernel
theorem dX4_exchange_26 : decode cX4_exchange 26 = .ok (.getfield 9, 3) := by decide +kernel
theorem dX4_exchange_29 : decode cX4_exchange 29 = .ok (.iload_n 2, 1) := by decide +kernel
theorem dX4_exchange_30 : decode cX4_exchange 30 = .ok (.iload_n 3, 1) := by decide +kernel
theorem dX4_exchange_31 : decode cX4_exchange 31 = .ok (.invokestatic 22, 3) := by decide +kernel
theorem dX4_exchange_34 : decode cX4_exchange 34 = .ok (.return_, 1) := by decide +kernel
theorem dX4_hasRoomsOf_0 : decode cX4_hasRoomsOf 0 = .ok (.iconst 0, 1) := by decide +kernel
theorem dX4_hasRoomsOf_1 : decode cX4_hasRoomsOf 1 = .ok (.istore_n 3, 1) := by decide +kernel
theorem dX4_hasRoomsOf_2 : decode cX4_hasRoomsOf 2 = .ok (.iload_n 3, 1) := by decide +kernel
theorem dX4_hasRoomsOf_3 : decode cX4_hasRoomsOf 3 = .ok (.iload_n 2, 1) := by decide +kernel
theorem dX4_hasRoomsOf_4 : decode cX4_hasRoomsOf 4 = .ok (.if_icmp .ge 24, 3) := by decide +kernel
theorem dX4_hasRoomsOf_7 : decode cX4_hasRoomsOf 7 = .ok (.aload_n 0, 1) := by decide +kernel
theorem dX4_hasRoomsOf_8 : decode cX4_hasRoomsOf 8 = .ok (.iload_n 3, 1) := by decide +kernel
theorem dX4_hasRoomsOf_9 : decode cX4_hasRoomsOf 9 = .ok (.invokevirtual 40, 3) := by decide +kernel
theorem dX4_hasRoomsOf_12 : decode cX4_hasRoomsOf 12 = .ok (.aload_n 1, 1) := by decide +kernel
theorem dX4_hasRoomsOf_13 : decode cX4_hasRoomsOf 13 = .ok (.iload_n 3, 1) := by decide +kernel
theorem dX4_hasRoomsOf_14 : decode cX4_hasRoomsOf 14 = .ok (.invokevirtual 40, 3) := by decide +kernel
theorem dX4_hasRoomsOf_17 : decode cX4_hasRoomsOf 17 = .ok (.if_icmp .eq 5, 3) := by decide +kernel
theorem dX4_hasRoomsOf_20 : decode cX4_hasRoomsOf 20 = .ok (.iconst 0, 1) := by decide +kernel
theorem dX4_hasRoomsOf_21 : decode cX4_hasRoomsOf 21 = .ok (.ireturn, 1) := by decide +kernel
theorem dX4_hasRoomsOf_22 : decode cX4_hasRoomsOf 22 = .ok (.iinc 3 1, 3) := by decide +kernel
theorem dX4_hasRoomsOf_25 : decode cX4_hasRoomsOf 25 = .ok (.goto (-23), 3) := by decide +kernel
theorem dX4_hasRoomsOf_28 : decode cX4_hasRoomsOf 28 = .ok (.iconst 1, 1) := by decide +kernel
theorem dX4_hasRoomsOf_29 : decode cX4_hasRoomsOf 29 = .ok (.ireturn, 1) := by decide +kernel
theorem dX4_daysToBirthdayOf_0 : decode cX4_daysToBirthdayOf 0 = .ok (.aload_n 0, 1) := by decide +kernel
theorem dX4_daysToBirthdayOf_1 : decode cX4_daysToBirthdayOf 1 = .ok (.iload_n 1, 1) := by decide +kernel
theorem dX4_daysToBirthdayOf_2 : decode cX4_daysToBirthdayOf 2 = .ok (.invokevirtual 43, 3) := by decide +kernel
theorem dX4_daysToBirthdayOf_5 : decode cX4_daysToBirthdayOf 5 = .ok (.aload_n 0, 1) := by decide +kernel
theorem dX4_daysToBirthdayOf_6 : decode cX4_daysToBirthdayOf 6 = .ok (.getfield 18, 3) := by decide +kernel
theorem dX4_daysToBirthdayOf_9 : decode cX4_daysToBirthdayOf 9 = .ok (.isub, 1) := by decide +kernel
theorem dX4_daysToBirthdayOf_10 : decode cX4_daysToBirthdayOf 10 = .ok (.bipush 60, 2) := by decide +kernel
theorem dX4_daysToBirthdayOf_12 : decode cX4_daysToBirthdayOf 12 = .ok (.invokestatic 46, 3) := by decide +kernel
theorem dX4_daysToBirthdayOf_15 : decode cX4_daysToBirthdayOf 15 = .ok (.ireturn, 1) := by decide +kernel
theorem dX5_init_0 : decode cX5_init 0 = .ok (.aload_n 0, 1) := by decide +kernel
theorem dX5_init_1 : decode cX5_init 1 = .ok (.invokespecial 3, 3) := by decide +kernel
theorem dX5_init_4 : decode cX5_init 4 = .ok (.aload_n 0, 1) := by decide +kernel
theorem dX5_init_5 : decode cX5_init 5 = .ok (.sipush 200, 3) := by decide +kernel
theorem dX5_init_8 : decode cX5_init 8 = .ok (.newarray .char, 2) := by decide +kernel
theorem dX5_init_10 : decode cX5_init 10 = .ok (.putfield 9, 3) := by decide +kernel
theorem dX5_init_13 : decode cX5_init 13 = .ok (.aload_n 0, 1) := by decide +kernel
theorem dX5_init_14 : decode cX5_init 14 = .ok (.iconst 3, 1) := by decide +kernel
theorem dX5_init_15 : decode cX5_init 15 = .ok (.newarray .int, 2) := by decide +kernel
theorem dX5_init_17 : decode cX5_init 17 = .ok (.putfield 15, 3) := by decide +kernel
theorem dX5_init_20 : decode cX5_init 20 = .ok (.return_, 1) := by decide +kernel
theorem dX5_isFull_0 : decode cX5_isFull 0 = .ok (.aload_n 0, 1) := by decide +kernel
theorem dX5_isFull_1 : decode cX5_isFull 1 = .ok (.getfield 19, 3) := by decide +kernel
theorem dX5_isFull_4 : decode cX5_isFull 4 = .ok (.sipush 200, 3) := by decide +kernel
theorem dX5_isFull_7 : decode cX5_isFull 7 = .ok (.if_icmp .lt 7, 3) := by decide +kernel
theorem dX5_isFull_10 : decode cX5_isFull 10 = .ok (.iconst 1, 1) := by decide +kernel
theorem dX5_isFull_11 : decode cX5_isFull 11 = .ok (.goto 4, 3) := by decide +kernel
theorem dX5_isFull_14 : decode cX5_isFull 14 = .ok (.iconst 0, 1) := by decide +kernel
theorem dX5_isFull_15 : decode cX5_isFull 15 = .ok (.ireturn, 1) := by decide +kernel
theorem dX5_size_0 : decode cX5_size 0 = .ok (.aload_n 0, 1) := by decide +kernel
theorem dX5_size_1 : decode cX5_size 1 = .ok (.getfield 19, 3) := by decide +kernel
theorem dX5_size_4 : decode cX5_size 4 = .ok (.ireturn, 1) := by decide +kernel
theorem dX5_add_0 : decode cX5_add 0 = .ok (.aload_n 0, 1) := by decide +kernel
theorem dX5_add_1 : decode cX5_add 1 = .ok (.getfield 19, 3) := by decide +kernel
theorem dX5_add_4 : decode cX5_add 4 = .ok (.ifCond .lt 35, 3) := by decide +kernel
theorem dX5_add_7 : decode cX5_add 7 = .ok (.aload_n 0, 1) := by decide +kernel
theorem dX5_add_8 : decode cX5_add 8 = .ok (.getfield 19, 3) := by decide +kernel
theorem dX5_add_11 : decode cX5_add 11 = .ok (.aload_n 0, 1) := by decide +kernel
theorem dX5_add_12 : decode cX5_add 12 = .ok (.getfield 9, 3) := by decide +kernel
theorem dX5_add_15 : decode cX5_add 15 = .ok (.arraylength, 1) := by decide +kernel
theorem dX5_add_16 : decode cX5_add 16 = .ok (.if_icmp .ge 23, 3) := by decide +kernel
theorem dX5_add_19 : decode cX5_add 19 = .ok (.aload_n 0, 1) := by decide +kernel
theorem dX5_add_20 : decode cX5_add 20 = .ok (.getfield 9, 3) := by decide +kernel
theorem dX5_add_23 : decode cX5_add 23 = .ok (.aload_n 0, 1) := by decide +kernel
theorem dX5_add_24 : decode cX5_add 24 = .ok (.getfield 19, 3) := by decide +kernel
theorem dX5_add_27 : decode cX5_add 27 = .ok (.iload_n 1, 1) := by decide +kernel
theorem dX5_add_28 : decode cX5_add 28 = .ok (.castore, 1) := by decide +kernel
theorem dX5_add_29 : decode cX5_add 29 = .ok (.aload_n 0, 1) := by decide +kernel
theorem dX5_add_30 : decode cX5_add 30 = .ok (.dup, 1) := by decide +kernel
theorem dX5_add_31 : decode cX5_add 31 = .ok (.getfield 19, 3) := by decide +kernel
theorem dX5_add_34 : decode cX5_add 34 = .ok (.iconst 1, 1) := by decide +kernel
theorem dX5_add_35 : decode cX5_add 35 = .ok (.iadd, 1) := by decide +kernel
theorem dX5_add_36 : decode cX5_add 36 = .ok (.putfield 19, 3) := by decide +kernel
theorem dX5_add_39 : decode cX5_add 39 = .ok (.return_, 1) := by decide +kernel
theorem dX5_clear_0 : decode cX5_clear 0 = .ok (.aload_n 0, 1) := by decide +kernel
theorem dX5_clear_1 : decode cX5_clear 1 = .ok (.iconst 0, 1) := by decide +kernel
theorem dX5_clear_2 : decode cX5_clear 2 = .ok (.putfield 19, 3) := by decide +kernel
theorem dX5_clear_5 : decode cX5_clear 5 = .ok (.return_, 1) := by decide +kernel
theorem dX5_readInto_0 : decode cX5_readInto 0 = .ok (.aload_n 1, 1) := by decide +kernel
theorem dX5_readInto_1 : decode cX5_readInto 1 = .ok (.invokevirtual 23, 3) := by decide +kernel
theorem dX5_readInto_4 : decode cX5_readInto 4 = .ok (.aload_n 0, 1) := by decide +kernel
theorem dX5_readInto_5 : decode cX5_readInto 5 = .ok (.iconst 0, 1) := by decide +kernel
theorem dX5_readInto_6 : decode cX5_readInto 6 = .ok (.putfield 28, 3) := by decide +kernel
theorem dX5_readInto_9 : decode cX5_readInto 9 = .ok (.iconst 0, 1) := by decide +kernel
theorem dX5_readInto_10 : decode cX5_readInto 10 = .ok (.istore_n 2, 1) := by decide +kernel
theorem dX5_readInto_11 : decode cX5_readInto 11 = .ok (.iload_n 2, 1) := by decide +kernel
theorem dX5_readInto_12 : decode cX5_readInto 12 = .ok (.sipush 200, 3) := by decide +kernel
theorem dX5_readInto_15 : decode cX5_readInto 15 = .ok (.if_icmp .ge 35, 3) := by decide +kernel
theorem dX5_readInto_18 : decode cX5_readInto 18 = .ok (.aload_n 0, 1) := by decide +kernel
theorem dX5_readInto_19 : decode cX5_readInto 19 = .ok (.getfield 28, 3) := by decide +kernel
theorem dX5_readInto_22 : decode cX5_readInto 22 = .ok (.aload_n 0, 1) := by decide +kernel
theorem dX5_readInto_23 : decode cX5_readInto 23 = .ok (.getfield 19, 3) := by decide +kernel
theorem dX5_readInto_26 : decode cX5_readInto 26 = .ok (.if_icmp .ge 24, 3) := by decide +kernel
theorem dX5_readInto_29 : decode cX5_readInto 29 = .ok (.aload_n 0, 1) := by decide +kernel
theorem dX5_readInto_30 : decode cX5_readInto 30 = .ok (.getfield 28, 3) := by decide +kernel
theorem dX5_readInto_33 : decode cX5_readInto 33 = .ok (.istore_n 3, 1) := by decide +kernel
theorem dX5_readInto_34 : decode cX5_readInto 34 = .ok (.aload_n 0, 1) := by decide +kernel
theorem dX5_readInto_35 : decode cX5_readInto 35 = .ok (.aload_n 1, 1) := by decide +kernel
theorem dX5_readInto_36 : decode cX5_readInto 36 = .ok (.invokevirtual 31, 3) := by decide +kernel
theorem dX5_readInto_39 : decode cX5_readInto 39 = .ok (.ifCond .ne 5, 3) := by decide +kernel
theorem dX5_readInto_42 : decode cX5_readInto 42 = .ok (.iload_n 3, 1) := by decide +kernel
theorem dX5_readInto_43 : decode cX5_readInto 43 = .ok (.ireturn, 1) := by decide +kernel
theorem dX5_readInto_44 : decode cX5_readInto 44 = .ok (.iinc 2 1, 3) := by decide +kernel
theorem dX5_readInto_47 : decode cX5_readInto 47 = .ok (.goto (-36), 3) := by decide +kernel
theorem dX5_readInto_50 : decode cX5_readInto 50 = .ok (.bipush (-4), 2) := by decide +kernel
theorem dX5_readInto_52 : decode cX5_readInto 52 = .ok (.ireturn, 1) := by decide +kernel
theorem dX5_readItem_0 : decode cX5_readItem 0 = .ok (.aload_n 0, 1) := by decide +kernel
theorem dX5_readItem_1 : decode cX5_readItem 1 = .ok (.invokevirtual 35, 3) := by decide +kernel
theorem dX5_readItem_4 : decode cX5_readItem 4 = .ok (.istore_n 2, 1) := by decide +kernel
theorem dX5_readItem_5 : decode cX5_readItem 5 = .ok (.aload_n 0, 1) := by decide +kernel
theorem dX5_readItem_6 : decode cX5_readItem 6 = .ok (.dup, 1) := by decide +kernel
theorem dX5_readItem_7 : decode cX5_readItem 7 = .ok (.getfield 28, 3) := by decide +kernel
theorem dX5_readItem_10 : decode cX5_readItem 10 = .ok (.iconst 1, 1) := by decide +kernel
theorem dX5_readItem_11 : decode cX5_readItem 11 = .ok (.iadd, 1) := by decide +kernel
theorem dX5_readItem_12 : decode cX5_readItem 12 = .ok (.putfield 28, 3) := by decide +kernel
theorem dX5_readItem_15 : decode cX5_readItem 15 = .ok (.iload_n 2, 1) := by decide +kernel
theorem dX5_readItem_16 : decode cX5_readItem 16 = .ok (.bipush 99, 2) := by decide +kernel
theorem dX5_readItem_18 : decode cX5_readItem 18 = .ok (.if_icmp .ne 48, 3) := by decide +kernel
theorem dX5_readItem_21 : decode cX5_readItem 21 = .ok (.aload_n 0, 1) := by decide +kernel
theorem dX5_readItem_22 : decode cX5_readItem 22 = .ok (.iconst 3, 1) := by decide +kernel
theorem dX5_readItem_23 : decode cX5_readItem 23 = .ok (.invokevirtual 39, 3) := by decide +kernel
theorem dX5_readItem_26 : decode cX5_readItem 26 = .ok (.ifCond .eq 38, 3) := by decide +kernel
theorem dX5_readItem_29 : decode cX5_readItem 29 = .ok (.aload_n 1, 1) := by decide +kernel
theorem dX5_readItem_30 : decode cX5_readItem 30 = .ok (.aload_n 0, 1) := by decide +kernel
theorem dX5_readItem_31 : decode cX5_readItem 31 = .ok (.getfield 15, 3) := by decide +kernel
theorem dX5_readItem_34 : decode cX5_readItem 34 = .ok (.iconst 0, 1) := by decide +kernel
theorem dX5_readItem_35 : decode cX5_readItem 35 = .ok (.invokestatic 43, 3) := by decide +kernel
theorem dX5_readItem_38 : decode cX5_readItem 38 = .ok (.aload_n 0, 1) := by decide +kernel
theorem dX5_readItem_39 : decode cX5_readItem 39 = .ok (.getfield 15, 3) := by decide +kernel
theorem dX5_readItem_42 : decode cX5_readItem 42 = .ok (.iconst 1, 1) := by decide +kernel
theorem dX5_readItem_43 : decode cX5_readItem 43 = .ok (.invokestatic 43, 3) := by decide +kernel
theorem dX5_readItem_46 : decode cX5_readItem 46 = .ok (.aload_n 0, 1) := by decide +kernel
theorem dX5_readItem_47 : decode cX5_readItem 47 = .ok (.getfield 15, 3) := by decide +kernel
theorem dX5_readItem_50 : decode cX5_readItem 50 = .ok (.iconst 2, 1) := by decide +kernel
theorem dX5_readItem_51 : decode cX5_readItem 51 = .ok (.invokestatic 43, 3) := by decide +kernel
theorem dX5_readItem_54 : decode cX5_readItem 54 = .ok (.invokevirtual 47, 3) := by decide +kernel
theorem dX5_readItem_57 : decode cX5_readItem 57 = .ok (.ifCond .eq 7, 3) := by decide +kernel
theorem dX5_readItem_60 : decode cX5_readItem 60 = .ok (.iconst 1, 1) := by decide +kernel
theorem dX5_readItem_61 : decode cX5_readItem 61 = .ok (.goto 4, 3) := by decide +kernel
theorem dX5_readItem_64 : decode cX5_readItem 64 = .ok (.iconst 0, 1) := by decide +kernel
theorem dX5_readItem_65 : decode cX5_readItem 65 = .ok (.ireturn, 1) := by decide +kernel
theorem dX5_readItem_66 : decode cX5_readItem 66 = .ok (.iload_n 2, 1) := by decide +kernel
theorem dX5_readItem_67 : decode cX5_readItem 67 = .ok (.bipush 114, 2) := by decide +kernel
theorem dX5_readItem_69 : decode cX5_readItem 69 = .ok (.if_icmp .ne 40, 3) := by decide +kernel
theorem dX5_readItem_72 : decode cX5_readItem 72 = .ok (.aload_n 0, 1) := by decide +kernel
theorem dX5_readItem_73 : decode cX5_readItem 73 = .ok (.iconst 2, 1) := by decide +kernel
theorem dX5_readItem_74 : decode cX5_readItem 74 = .ok (.invokevirtual 39, 3) := by decide +kernel
theorem dX5_readItem_77 : decode cX5_readItem 77 = .ok (.ifCond .eq 30, 3) := by decide +kernel
theorem dX5_readItem_80 : decode cX5_readItem 80 = .ok (.aload_n 1, 1) := by decide +kernel
theorem dX5_readItem_81 : decode cX5_readItem 81 = .ok (.aload_n 0, 1) := by decide +kernel
theorem dX5_readItem_82 : decode cX5_readItem 82 = .ok (.getfield 15, 3) := by decide +kernel
theorem dX5_readItem_85 : decode cX5_readItem 85 = .ok (.iconst 0, 1) := by decide +kernel
theorem dX5_readItem_86 : decode cX5_readItem 86 = .ok (.invokestatic 43, 3) := by decide +kernel
theorem dX5_readItem_89 : decode cX5_readItem 89 = .ok (.aload_n 0, 1) := by decide +kernel
theorem dX5_readItem_90 : decode cX5_readItem 90 = .ok (.getfield 15, 3) := by decide +kernel
theorem dX5_readItem_93 : decode cX5_readItem 93 = .ok (.iconst 1, 1) := by decide +kernel
theorem dX5_readItem_94 : decode cX5_readItem 94 = .ok (.invokestatic 43, 3) := by decide +kernel
theorem dX5_readItem_97 : decode cX5_readItem 97 = .ok (.invokevirtual 51, 3) := by decide +kernel
theorem dX5_readItem_100 : decode cX5_readItem 100 = .ok (.ifCond .eq 7, 3) := by decide +kernel
theorem dX5_readItem_103 : decode cX5_readItem 103 = .ok (.iconst 1, 1) := by decide +kernel
theorem dX5_readItem_104 : decode cX5_readItem 104 = .ok (.goto 4, 3) := by decide +kernel
end
section
theorem dX5_readItem_107 : decode cX5_readItem 107 = .ok (.iconst 0, 1) := by decide +kernel
theorem dX5_readItem_108 : decode cX5_readItem 108 = .ok (.ireturn, 1) := by decide +kernel
theorem dX5_readItem_109 : decode cX5_readItem 109 = .ok (.iconst 0, 1) := by decide +kernel
theorem dX5_readItem_110 : decode cX5_readItem 110 = .ok (.ireturn, 1) := by decide +kernel
theorem dX5_readNumbers_0 : decode cX5_readNumbers 0 = .ok (.iconst 0, 1) := by decide +kernel
theorem dX5_readNumbers_1 : decode cX5_readNumbers 1 = .ok (.istore_n 2, 1) := by decide +kernel
theorem dX5_readNumbers_2 : decode cX5_readNumbers 2 = .ok (.iload_n 2, 1) := by decide +kernel
theorem dX5_readNumbers_3 : decode cX5_readNumbers 3 = .ok (.iload_n 1, 1) := by decide +kernel
theorem dX5_readNumbers_4 : decode cX5_readNumbers 4 = .ok (.if_icmp .ge 64, 3) := by decide +kernel
theorem dX5_readNumbers_7 : decode cX5_readNumbers 7 = .ok (.aload_n 0, 1) := by decide +kernel
theorem dX5_readNumbers_8 : decode cX5_readNumbers 8 = .ok (.invokevirtual 55, 3) := by decide +kernel
theorem dX5_readNumbers_11 : decode cX5_readNumbers 11 = .ok (.istore_n 3, 1) := by decide +kernel
theorem dX5_readNumbers_12 : decode cX5_readNumbers 12 = .ok (.iload_n 2, 1) := by decide +kernel
theorem dX5_readNumbers_13 : decode cX5_readNumbers 13 = .ok (.iload_n 1, 1) := by decide +kernel
theorem dX5_readNumbers_14 : decode cX5_readNumbers 14 = .ok (.iconst 1, 1) := by decide +kernel
theorem dX5_readNumbers_15 : decode cX5_readNumbers 15 = .ok (.isub, 1) := by decide +kernel
theorem dX5_readNumbers_16 : decode cX5_readNumbers 16 = .ok (.if_icmp .ne 8, 3) := by decide +kernel
theorem dX5_readNumbers_19 : decode cX5_readNumbers 19 = .ok (.bipush 59, 2) := by decide +kernel
theorem dX5_readNumbers_21 : decode cX5_readNumbers 21 = .ok (.goto 5, 3) := by decide +kernel
theorem dX5_readNumbers_24 : decode cX5_readNumbers 24 = .ok (.bipush 44, 2) := by decide +kernel
theorem dX5_readNumbers_26 : decode cX5_readNumbers 26 = .ok (.istore 4, 2) := by decide +kernel
theorem dX5_readNumbers_28 : decode cX5_readNumbers 28 = .ok (.iload_n 3, 1) := by decide +kernel
theorem dX5_readNumbers_29 : decode cX5_readNumbers 29 = .ok (.ifCond .lt 12, 3) := by decide +kernel
theorem dX5_readNumbers_32 : decode cX5_readNumbers 32 = .ok (.aload_n 0, 1) := by decide +kernel
theorem dX5_readNumbers_33 : decode cX5_readNumbers 33 = .ok (.invokevirtual 35, 3) := by decide +kernel
theorem dX5_readNumbers_36 : decode cX5_readNumbers 36 = .ok (.iload 4, 2) := by decide +kernel
theorem dX5_readNumbers_38 : decode cX5_readNumbers 38 = .ok (.if_icmp .eq 5, 3) := by decide +kernel
theorem dX5_readNumbers_41 : decode cX5_readNumbers 41 = .ok (.iconst 0, 1) := by decide +kernel
theorem dX5_readNumbers_42 : decode cX5_readNumbers 42 = .ok (.ireturn, 1) := by decide +kernel
theorem dX5_readNumbers_43 : decode cX5_readNumbers 43 = .ok (.aload_n 0, 1) := by decide +kernel
theorem dX5_readNumbers_44 : decode cX5_readNumbers 44 = .ok (.getfield 15, 3) := by decide +kernel
theorem dX5_readNumbers_47 : decode cX5_readNumbers 47 = .ok (.iload_n 2, 1) := by decide +kernel
theorem dX5_readNumbers_48 : decode cX5_readNumbers 48 = .ok (.iload_n 3, 1) := by decide +kernel
theorem dX5_readNumbers_49 : decode cX5_readNumbers 49 = .ok (.invokestatic 59, 3) := by decide +kernel
theorem dX5_readNumbers_52 : decode cX5_readNumbers 52 = .ok (.aload_n 0, 1) := by decide +kernel
theorem dX5_readNumbers_53 : decode cX5_readNumbers 53 = .ok (.dup, 1) := by decide +kernel
theorem dX5_readNumbers_54 : decode cX5_readNumbers 54 = .ok (.getfield 28, 3) := by decide +kernel
theorem dX5_readNumbers_57 : decode cX5_readNumbers 57 = .ok (.iconst 1, 1) := by decide +kernel
theorem dX5_readNumbers_58 : decode cX5_readNumbers 58 = .ok (.iadd, 1) := by decide +kernel
theorem dX5_readNumbers_59 : decode cX5_readNumbers 59 = .ok (.putfield 28, 3) := by decide +kernel
theorem dX5_readNumbers_62 : decode cX5_readNumbers 62 = .ok (.iinc 2 1, 3) := by decide +kernel
theorem dX5_readNumbers_65 : decode cX5_readNumbers 65 = .ok (.goto (-63), 3) := by decide +kernel
theorem dX5_readNumbers_68 : decode cX5_readNumbers 68 = .ok (.iconst 1, 1) := by decide +kernel
theorem dX5_readNumbers_69 : decode cX5_readNumbers 69 = .ok (.ireturn, 1) := by decide +kernel
theorem dX5_readNumber_0 : decode cX5_readNumber 0 = .ok (.iconst (-1), 1) := by decide +kernel
theorem dX5_readNumber_1 : decode cX5_readNumber 1 = .ok (.istore_n 1, 1) := by decide +kernel
theorem dX5_readNumber_2 : decode cX5_readNumber 2 = .ok (.iconst 0, 1) := by decide +kernel
theorem dX5_readNumber_3 : decode cX5_readNumber 3 = .ok (.istore_n 2, 1) := by decide +kernel
theorem dX5_readNumber_4 : decode cX5_readNumber 4 = .ok (.iload_n 2, 1) := by decide +kernel
theorem dX5_readNumber_5 : decode cX5_readNumber 5 = .ok (.iconst 2, 1) := by decide +kernel
theorem dX5_readNumber_6 : decode cX5_readNumber 6 = .ok (.if_icmp .ge 46, 3) := by decide +kernel
theorem dX5_readNumber_9 : decode cX5_readNumber 9 = .ok (.aload_n 0, 1) := by decide +kernel
theorem dX5_readNumber_10 : decode cX5_readNumber 10 = .ok (.invokevirtual 35, 3) := by decide +kernel
theorem dX5_readNumber_13 : decode cX5_readNumber 13 = .ok (.invokestatic 63, 3) := by decide +kernel
theorem dX5_readNumber_16 : decode cX5_readNumber 16 = .ok (.ifCond .eq 36, 3) := by decide +kernel
theorem dX5_readNumber_19 : decode cX5_readNumber 19 = .ok (.bipush 10, 2) := by decide +kernel
theorem dX5_readNumber_21 : decode cX5_readNumber 21 = .ok (.iconst 0, 1) := by decide +kernel
theorem dX5_readNumber_22 : decode cX5_readNumber 22 = .ok (.iload_n 1, 1) := by decide +kernel
theorem dX5_readNumber_23 : decode cX5_readNumber 23 = .ok (.invokestatic 67, 3) := by decide +kernel
theorem dX5_readNumber_26 : decode cX5_readNumber 26 = .ok (.imul, 1) := by decide +kernel
theorem dX5_readNumber_27 : decode cX5_readNumber 27 = .ok (.aload_n 0, 1) := by decide +kernel
theorem dX5_readNumber_28 : decode cX5_readNumber 28 = .ok (.invokevirtual 35, 3) := by decide +kernel
theorem dX5_readNumber_31 : decode cX5_readNumber 31 = .ok (.bipush 48, 2) := by decide +kernel
theorem dX5_readNumber_33 : decode cX5_readNumber 33 = .ok (.isub, 1) := by decide +kernel
theorem dX5_readNumber_34 : decode cX5_readNumber 34 = .ok (.iadd, 1) := by decide +kernel
theorem dX5_readNumber_35 : decode cX5_readNumber 35 = .ok (.istore_n 1, 1) := by decide +kernel
theorem dX5_readNumber_36 : decode cX5_readNumber 36 = .ok (.aload_n 0, 1) := by decide +kernel
theorem dX5_readNumber_37 : decode cX5_readNumber 37 = .ok (.dup, 1) := by decide +kernel
theorem dX5_readNumber_38 : decode cX5_readNumber 38 = .ok (.getfield 28, 3) := by decide +kernel
theorem dX5_readNumber_41 : decode cX5_readNumber 41 = .ok (.iconst 1, 1) := by decide +kernel
theorem dX5_readNumber_42 : decode cX5_readNumber 42 = .ok (.iadd, 1) := by decide +kernel
theorem dX5_readNumber_43 : decode cX5_readNumber 43 = .ok (.putfield 28, 3) := by decide +kernel
theorem dX5_readNumber_46 : decode cX5_readNumber 46 = .ok (.iinc 2 1, 3) := by decide +kernel
theorem dX5_readNumber_49 : decode cX5_readNumber 49 = .ok (.goto (-45), 3) := by decide +kernel
theorem dX5_readNumber_52 : decode cX5_readNumber 52 = .ok (.iload_n 1, 1) := by decide +kernel
theorem dX5_readNumber_53 : decode cX5_readNumber 53 = .ok (.ireturn, 1) := by decide +kernel
theorem dX5_isFigure_0 : decode cX5_isFigure 0 = .ok (.iload_n 0, 1) := by decide +kernel
theorem dX5_isFigure_1 : decode cX5_isFigure 1 = .ok (.bipush 48, 2) := by decide +kernel
theorem dX5_isFigure_3 : decode cX5_isFigure 3 = .ok (.if_icmp .lt 13, 3) := by decide +kernel
theorem dX5_isFigure_6 : decode cX5_isFigure 6 = .ok (.iload_n 0, 1) := by decide +kernel
theorem dX5_isFigure_7 : decode cX5_isFigure 7 = .ok (.bipush 57, 2) := by decide +kernel
theorem dX5_isFigure_9 : decode cX5_isFigure 9 = .ok (.if_icmp .gt 7, 3) := by decide +kernel
theorem dX5_isFigure_12 : decode cX5_isFigure 12 = .ok (.iconst 1, 1) := by decide +kernel
theorem dX5_isFigure_13 : decode cX5_isFigure 13 = .ok (.goto 4, 3) := by decide +kernel
theorem dX5_isFigure_16 : decode cX5_isFigure 16 = .ok (.iconst 0, 1) := by decide +kernel
theorem dX5_isFigure_17 : decode cX5_isFigure 17 = .ok (.ireturn, 1) := by decide +kernel
theorem dX5_letterHere_0 : decode cX5_letterHere 0 = .ok (.aload_n 0, 1) := by decide +kernel
theorem dX5_letterHere_1 : decode cX5_letterHere 1 = .ok (.getfield 28, 3) := by decide +kernel
theorem dX5_letterHere_4 : decode cX5_letterHere 4 = .ok (.ifCond .lt 38, 3) := by decide +kernel
theorem dX5_letterHere_7 : decode cX5_letterHere 7 = .ok (.aload_n 0, 1) := by decide +kernel
theorem dX5_letterHere_8 : decode cX5_letterHere 8 = .ok (.getfield 28, 3) := by decide +kernel
theorem dX5_letterHere_11 : decode cX5_letterHere 11 = .ok (.aload_n 0, 1) := by decide +kernel
theorem dX5_letterHere_12 : decode cX5_letterHere 12 = .ok (.getfield 19, 3) := by decide +kernel
theorem dX5_letterHere_15 : decode cX5_letterHere 15 = .ok (.if_icmp .ge 27, 3) := by decide +kernel
theorem dX5_letterHere_18 : decode cX5_letterHere 18 = .ok (.aload_n 0, 1) := by decide +kernel
theorem dX5_letterHere_19 : decode cX5_letterHere 19 = .ok (.getfield 28, 3) := by decide +kernel
theorem dX5_letterHere_22 : decode cX5_letterHere 22 = .ok (.aload_n 0, 1) := by decide +kernel
theorem dX5_letterHere_23 : decode cX5_letterHere 23 = .ok (.getfield 9, 3) := by decide +kernel
theorem dX5_letterHere_26 : decode cX5_letterHere 26 = .ok (.arraylength, 1) := by decide +kernel
theorem dX5_letterHere_27 : decode cX5_letterHere 27 = .ok (.if_icmp .ge 15, 3) := by decide +kernel
theorem dX5_letterHere_30 : decode cX5_letterHere 30 = .ok (.aload_n 0, 1) := by decide +kernel
theorem dX5_letterHere_31 : decode cX5_letterHere 31 = .ok (.getfield 9, 3) := by decide +kernel
theorem dX5_letterHere_34 : decode cX5_letterHere 34 = .ok (.aload_n 0, 1) := by decide +kernel
theorem dX5_letterHere_35 : decode cX5_letterHere 35 = .ok (.getfield 28, 3) := by decide +kernel
theorem dX5_letterHere_38 : decode cX5_letterHere 38 = .ok (.caload, 1) := by decide +kernel
theorem dX5_letterHere_39 : decode cX5_letterHere 39 = .ok (.goto 4, 3) := by decide +kernel
theorem dX5_letterHere_42 : decode cX5_letterHere 42 = .ok (.iconst 0, 1) := by decide +kernel
theorem dX5_letterHere_43 : decode cX5_letterHere 43 = .ok (.ireturn, 1) := by decide +kernel
theorem dX6_init_0 : decode cX6_init 0 = .ok (.aload_n 0, 1) := by decide +kernel
theorem dX6_init_1 : decode cX6_init 1 = .ok (.invokespecial 3, 3) := by decide +kernel
theorem dX6_init_4 : decode cX6_init 4 = .ok (.aload_n 0, 1) := by decide +kernel
theorem dX6_init_5 : decode cX6_init 5 = .ok (.new 9, 3) := by decide +kernel
theorem dX6_init_8 : decode cX6_init 8 = .ok (.dup, 1) := by decide +kernel
theorem dX6_init_9 : decode cX6_init 9 = .ok (.invokespecial 11, 3) := by decide +kernel
theorem dX6_init_12 : decode cX6_init 12 = .ok (.putfield 12, 3) := by decide +kernel
theorem dX6_init_15 : decode cX6_init 15 = .ok (.aload_n 0, 1) := by decide +kernel
theorem dX6_init_16 : decode cX6_init 16 = .ok (.bipush 8, 2) := by decide +kernel
theorem dX6_init_18 : decode cX6_init 18 = .ok (.newarray .int, 2) := by decide +kernel
theorem dX6_init_20 : decode cX6_init 20 = .ok (.putfield 18, 3) := by decide +kernel
theorem dX6_init_23 : decode cX6_init 23 = .ok (.aload_n 0, 1) := by decide +kernel
theorem dX6_init_24 : decode cX6_init 24 = .ok (.bipush 8, 2) := by decide +kernel
theorem dX6_init_26 : decode cX6_init 26 = .ok (.newarray .int, 2) := by decide +kernel
theorem dX6_init_28 : decode cX6_init 28 = .ok (.putfield 22, 3) := by decide +kernel
theorem dX6_init_31 : decode cX6_init 31 = .ok (.aload_n 0, 1) := by decide +kernel
theorem dX6_init_32 : decode cX6_init 32 = .ok (.aload_n 1, 1) := by decide +kernel
theorem dX6_init_33 : decode cX6_init 33 = .ok (.putfield 25, 3) := by decide +kernel
theorem dX6_init_36 : decode cX6_init 36 = .ok (.return_, 1) := by decide +kernel
theorem dX6_begin_0 : decode cX6_begin 0 = .ok (.aload_n 0, 1) := by decide +kernel
theorem dX6_begin_1 : decode cX6_begin 1 = .ok (.getfield 12, 3) := by decide +kernel
theorem dX6_begin_4 : decode cX6_begin 4 = .ok (.aload_n 1, 1) := by decide +kernel
theorem dX6_begin_5 : decode cX6_begin 5 = .ok (.invokevirtual 29, 3) := by decide +kernel
theorem dX6_begin_8 : decode cX6_begin 8 = .ok (.aload_n 0, 1) := by decide +kernel
theorem dX6_begin_9 : decode cX6_begin 9 = .ok (.invokevirtual 33, 3) := by decide +kernel
theorem dX6_begin_12 : decode cX6_begin 12 = .ok (.aload_n 0, 1) := by decide +kernel
theorem dX6_begin_13 : decode cX6_begin 13 = .ok (.invokevirtual 36, 3) := by decide +kernel
theorem dX6_begin_16 : decode cX6_begin 16 = .ok (.return_, 1) := by decide +kernel
theorem dX6_beginWith_0 : decode cX6_beginWith 0 = .ok (.aload_n 0, 1) := by decide +kernel
theorem dX6_beginWith_1 : decode cX6_beginWith 1 = .ok (.getfield 12, 3) := by decide +kernel
theorem dX6_beginWith_4 : decode cX6_beginWith 4 = .ok (.aload_n 1, 1) := by decide +kernel
theorem dX6_beginWith_5 : decode cX6_beginWith 5 = .ok (.invokevirtual 29, 3) := by decide +kernel
theorem dX6_beginWith_8 : decode cX6_beginWith 8 = .ok (.aload_n 0, 1) := by decide +kernel
theorem dX6_beginWith_9 : decode cX6_beginWith 9 = .ok (.getfield 12, 3) := by decide +kernel
theorem dX6_beginWith_12 : decode cX6_beginWith 12 = .ok (.iload_n 2, 1) := by decide +kernel
theorem dX6_beginWith_13 : decode cX6_beginWith 13 = .ok (.iload_n 3, 1) := by decide +kernel
theorem dX6_beginWith_14 : decode cX6_beginWith 14 = .ok (.invokevirtual 39, 3) := by decide +kernel
theorem dX6_beginWith_17 : decode cX6_beginWith 17 = .ok (.aload_n 0, 1) := by decide +kernel
theorem dX6_beginWith_18 : decode cX6_beginWith 18 = .ok (.invokevirtual 33, 3) := by decide +kernel
theorem dX6_beginWith_21 : decode cX6_beginWith 21 = .ok (.aload_n 0, 1) := by decide +kernel
theorem dX6_beginWith_22 : decode cX6_beginWith 22 = .ok (.invokevirtual 36, 3) := by decide +kernel
theorem dX6_beginWith_25 : decode cX6_beginWith 25 = .ok (.return_, 1) := by decide +kernel
theorem dX6_standing_0 : decode cX6_standing 0 = .ok (.aload_n 0, 1) := by decide +kernel
theorem dX6_standing_1 : decode cX6_standing 1 = .ok (.getfield 12, 3) := by decide +kernel
theorem dX6_standing_4 : decode cX6_standing 4 = .ok (.areturn, 1) := by decide +kernel
theorem dX6_listed_0 : decode cX6_listed 0 = .ok (.aload_n 0, 1) := by decide +kernel
theorem dX6_listed_1 : decode cX6_listed 1 = .ok (.getfield 18, 3) := by decide +kernel
theorem dX6_listed_4 : decode cX6_listed 4 = .ok (.iload_n 1, 1) := by decide +kernel
theorem dX6_listed_5 : decode cX6_listed 5 = .ok (.invokestatic 43, 3) := by decide +kernel
theorem dX6_listed_8 : decode cX6_listed 8 = .ok (.ireturn, 1) := by decide +kernel
theorem dX6_placeOf_0 : decode cX6_placeOf 0 = .ok (.iconst 0, 1) := by decide +kernel
theorem dX6_placeOf_1 : decode cX6_placeOf 1 = .ok (.istore_n 2, 1) := by decide +kernel
theorem dX6_placeOf_2 : decode cX6_placeOf 2 = .ok (.iload_n 2, 1) := by decide +kernel
theorem dX6_placeOf_3 : decode cX6_placeOf 3 = .ok (.aload_n 0, 1) := by decide +kernel
theorem dX6_placeOf_4 : decode cX6_placeOf 4 = .ok (.getfield 25, 3) := by decide +kernel
theorem dX6_placeOf_7 : decode cX6_placeOf 7 = .ok (.invokevirtual 47, 3) := by decide +kernel
theorem dX6_placeOf_10 : decode cX6_placeOf 10 = .ok (.if_icmp .ge 23, 3) := by decide +kernel
theorem dX6_placeOf_13 : decode cX6_placeOf 13 = .ok (.aload_n 0, 1) := by decide +kernel
theorem dX6_placeOf_14 : decode cX6_placeOf 14 = .ok (.getfield 18, 3) := by decide +kernel
theorem dX6_placeOf_17 : decode cX6_placeOf 17 = .ok (.iload_n 2, 1) := by decide +kernel
theorem dX6_placeOf_18 : decode cX6_placeOf 18 = .ok (.invokestatic 43, 3) := by decide +kernel
theorem dX6_placeOf_21 : decode cX6_placeOf 21 = .ok (.iload_n 1, 1) := by decide +kernel
theorem dX6_placeOf_22 : decode cX6_placeOf 22 = .ok (.if_icmp .ne 5, 3) := by decide +kernel
theorem dX6_placeOf_25 : decode cX6_placeOf 25 = .ok (.iload_n 2, 1) := by decide +kernel
theorem dX6_placeOf_26 : decode cX6_placeOf 26 = .ok (.ireturn, 1) := by decide +kernel
theorem dX6_placeOf_27 : decode cX6_placeOf 27 = .ok (.iinc 2 1, 3) := by decide +kernel
theorem dX6_placeOf_30 : decode cX6_placeOf 30 = .ok (.goto (-28), 3) := by decide +kernel
theorem dX6_placeOf_33 : decode cX6_placeOf 33 = .ok (.bipush (-4), 2) := by decide +kernel
theorem dX6_placeOf_35 : decode cX6_placeOf 35 = .ok (.ireturn, 1) := by decide +kernel
theorem dX6_sunTogether_0 : decode cX6_sunTogether 0 = .ok (.aload_n 0, 1) := by decide +kernel
theorem dX6_sunTogether_1 : decode cX6_sunTogether 1 = .ok (.getfield 22, 3) := by decide +kernel
theorem dX6_sunTogether_4 : decode cX6_sunTogether 4 = .ok (.iload_n 1, 1) := by decide +kernel
theorem dX6_sunTogether_5 : decode cX6_sunTogether 5 = .ok (.invokestatic 43, 3) := by decide +kernel
theorem dX6_sunTogether_8 : decode cX6_sunTogether 8 = .ok (.ireturn, 1) := by decide +kernel
theorem dX6_coldTogether_0 : decode cX6_coldTogether 0 = .ok (.aload_n 0, 1) := by decide +kernel
theorem dX6_coldTogether_1 : decode cX6_coldTogether 1 = .ok (.getfield 53, 3) := by decide +kernel
theorem dX6_coldTogether_4 : decode cX6_coldTogether 4 = .ok (.ireturn, 1) := by decide +kernel
theorem dX6_coldBits_0 : decode cX6_coldBits 0 = .ok (.iconst 0, 1) := by decide +kernel
theorem dX6_coldBits_1 : decode cX6_coldBits 1 = .ok (.istore_n 1, 1) := by decide +kernel
theorem dX6_coldBits_2 : decode cX6_coldBits 2 = .ok (.iconst 0, 1) := by decide +kernel
theorem dX6_coldBits_3 : decode cX6_coldBits 3 = .ok (.istore_n 2, 1) := by decide +kernel
theorem dX6_coldBits_4 : decode cX6_coldBits 4 = .ok (.iload_n 2, 1) := by decide +kernel
theorem dX6_coldBits_5 : decode cX6_coldBits 5 = .ok (.aload_n 0, 1) := by decide +kernel
theorem dX6_coldBits_6 : decode cX6_coldBits 6 = .ok (.getfield 25, 3) := by decide +kernel
theorem dX6_coldBits_9 : decode cX6_coldBits 9 = .ok (.invokevirtual 47, 3) := by decide +kernel
theorem dX6_coldBits_12 : decode cX6_coldBits 12 = .ok (.if_icmp .ge 31, 3) := by decide +kernel
theorem dX6_coldBits_15 : decode cX6_coldBits 15 = .ok (.aload_n 0, 1) := by decide +kernel
theorem dX6_coldBits_16 : decode cX6_coldBits 16 = .ok (.iload_n 2, 1) := by decide +kernel
theorem dX6_coldBits_17 : decode cX6_coldBits 17 = .ok (.invokevirtual 57, 3) := by decide +kernel
theorem dX6_coldBits_20 : decode cX6_coldBits 20 = .ok (.aload_n 0, 1) := by decide +kernel
theorem dX6_coldBits_21 : decode cX6_coldBits 21 = .ok (.getfield 25, 3) := by decide +kernel
theorem dX6_coldBits_24 : decode cX6_coldBits 24 = .ok (.iload_n 2, 1) := by decide +kernel
theorem dX6_coldBits_25 : decode cX6_coldBits 25 = .ok (.invokevirtual 61, 3) := by decide +kernel
theorem dX6_coldBits_28 : decode cX6_coldBits 28 = .ok (.if_icmp .ge 9, 3) := by decide +kernel
theorem dX6_coldBits_31 : decode cX6_coldBits 31 = .ok (.iload_n 1, 1) := by decide +kernel
theorem dX6_coldBits_32 : decode cX6_coldBits 32 = .ok (.iconst 1, 1) := by decide +kernel
theorem dX6_coldBits_33 : decode cX6_coldBits 33 = .ok (.iload_n 2, 1) := by decide +kernel
theorem dX6_coldBits_34 : decode cX6_coldBits 34 = .ok (.ishl, 1) := by decide +kernel
theorem dX6_coldBits_35 : decode cX6_coldBits 35 = .ok (.ior, 1) := by decide +kernel
theorem dX6_coldBits_36 : decode cX6_coldBits 36 = .ok (.istore_n 1, 1) := by decide +kernel
theorem dX6_coldBits_37 : decode cX6_coldBits 37 = .ok (.iinc 2 1, 3) := by decide +kernel
theorem dX6_coldBits_40 : decode cX6_coldBits 40 = .ok (.goto (-36), 3) := by decide +kernel
theorem dX6_coldBits_43 : decode cX6_coldBits 43 = .ok (.iload_n 1, 1) := by decide +kernel
theorem dX6_coldBits_44 : decode cX6_coldBits 44 = .ok (.ireturn, 1) := by decide +kernel
theorem dX6_go_0 : decode cX6_go 0 = .ok (.iconst 0, 1) := by decide +kernel
theorem dX6_go_1 : decode cX6_go 1 = .ok (.istore_n 2, 1) := by decide +kernel
theorem dX6_go_2 : decode cX6_go 2 = .ok (.iconst 0, 1) := by decide +kernel
theorem dX6_go_3 : decode cX6_go 3 = .ok (.istore_n 3, 1) := by decide +kernel
theorem dX6_go_4 : decode cX6_go 4 = .ok (.iload_n 3, 1) := by decide +kernel
theorem dX6_go_5 : decode cX6_go 5 = .ok (.iload_n 1, 1) := by decide +kernel
theorem dX6_go_6 : decode cX6_go 6 = .ok (.if_icmp .ge 50, 3) := by decide +kernel
theorem dX6_go_9 : decode cX6_go 9 = .ok (.iload_n 2, 1) := by decide +kernel
theorem dX6_go_10 : decode cX6_go 10 = .ok (.iload_n 1, 1) := by decide +kernel
theorem dX6_go_11 : decode cX6_go 11 = .ok (.if_icmp .ge 45, 3) := by decide +kernel
theorem dX6_go_14 : decode cX6_go 14 = .ok (.aload_n 0, 1) := by decide +kernel
theorem dX6_go_15 : decode cX6_go 15 = .ok (.invokevirtual 64, 3) := by decide +kernel
theorem dX6_go_18 : decode cX6_go 18 = .ok (.iload_n 1, 1) := by decide +kernel
theorem dX6_go_19 : decode cX6_go 19 = .ok (.iload_n 2, 1) := by decide +kernel
theorem dX6_go_20 : decode cX6_go 20 = .ok (.isub, 1) := by decide +kernel
theorem dX6_go_21 : decode cX6_go 21 = .ok (.aload_n 0, 1) := by decide +kernel
theorem dX6_go_22 : decode cX6_go 22 = .ok (.invokevirtual 67, 3) := by decide +kernel
theorem dX6_go_25 : decode cX6_go 25 = .ok (.invokestatic 70, 3) := by decide +kernel
theorem dX6_go_28 : decode cX6_go 28 = .ok (.istore 4, 2) := by decide +kernel
theorem dX6_go_30 : decode cX6_go 30 = .ok (.aload_n 0, 1) := by decide +kernel
theorem dX6_go_31 : decode cX6_go 31 = .ok (.iload 4, 2) := by decide +kernel
theorem dX6_go_33 : decode cX6_go 33 = .ok (.invokevirtual 76, 3) := by decide +kernel
theorem dX6_go_36 : decode cX6_go 36 = .ok (.aload_n 0, 1) := by decide +kernel
theorem dX6_go_37 : decode cX6_go 37 = .ok (.getfield 12, 3) := by decide +kernel
theorem dX6_go_40 : decode cX6_go 40 = .ok (.iload 4, 2) := by decide +kernel
theorem dX6_go_42 : decode cX6_go 42 = .ok (.invokevirtual 80, 3) := by decide +kernel
theorem dX6_go_45 : decode cX6_go 45 = .ok (.iload_n 2, 1) := by decide +kernel
theorem dX6_go_46 : decode cX6_go 46 = .ok (.iload 4, 2) := by decide +kernel
theorem dX6_go_48 : decode cX6_go 48 = .ok (.iadd, 1) := by decide +kernel
theorem dX6_go_49 : decode cX6_go 49 = .ok (.istore_n 2, 1) := by decide +kernel
theorem dX6_go_50 : decode cX6_go 50 = .ok (.iinc 3 1, 3) := by decide +kernel
theorem dX6_go_53 : decode cX6_go 53 = .ok (.goto (-49), 3) := by decide +kernel
theorem dX6_go_56 : decode cX6_go 56 = .ok (.return_, 1) := by decide +kernel
theorem dX6_goBehind_0 : decode cX6_goBehind 0 = .ok (.aload_n 0, 1) := by decide +kernel
theorem dX6_goBehind_1 : decode cX6_goBehind 1 = .ok (.iload_n 1, 1) := by decide +kernel
theorem dX6_goBehind_2 : decode cX6_goBehind 2 = .ok (.invokevirtual 83, 3) := by decide +kernel
theorem dX6_goBehind_5 : decode cX6_goBehind 5 = .ok (.aload_n 0, 1) := by decide +kernel
theorem dX6_goBehind_6 : decode cX6_goBehind 6 = .ok (.invokevirtual 64, 3) := by decide +kernel
theorem dX6_goBehind_9 : decode cX6_goBehind 9 = .ok (.return_, 1) := by decide +kernel
theorem dX6_makeList_0 : decode cX6_makeList 0 = .ok (.iconst 0, 1) := by decide +kernel
theorem dX6_makeList_1 : decode cX6_makeList 1 = .ok (.istore_n 1, 1) := by decide +kernel
theorem dX6_makeList_2 : decode cX6_makeList 2 = .ok (.iload_n 1, 1) := by decide +kernel
theorem dX6_makeList_3 : decode cX6_makeList 3 = .ok (.aload_n 0, 1) := by decide +kernel
theorem dX6_makeList_4 : decode cX6_makeList 4 = .ok (.getfield 25, 3) := by decide +kernel
theorem dX6_makeList_7 : decode cX6_makeList 7 = .ok (.invokevirtual 47, 3) := by decide +kernel
theorem dX6_makeList_10 : decode cX6_makeList 10 = .ok (.if_icmp .ge 76, 3) := by decide +kernel
theorem dX6_makeList_13 : decode cX6_makeList 13 = .ok (.iload_n 1, 1) := by decide +kernel
theorem dX6_makeList_14 : decode cX6_makeList 14 = .ok (.istore_n 2, 1) := by decide +kernel
theorem dX6_makeList_15 : decode cX6_makeList 15 = .ok (.iload_n 2, 1) := by decide +kernel
theorem dX6_makeList_16 : decode cX6_makeList 16 = .ok (.ifCond .le 55, 3) := by decide +kernel
theorem dX6_makeList_19 : decode cX6_makeList 19 = .ok (.aload_n 0, 1) := by decide +kernel
theorem dX6_makeList_20 : decode cX6_makeList 20 = .ok (.getfield 12, 3) := by decide +kernel
theorem dX6_makeList_23 : decode cX6_makeList 23 = .ok (.aload_n 0, 1) := by decide +kernel
theorem dX6_makeList_24 : decode cX6_makeList 24 = .ok (.getfield 18, 3) := by decide +kernel
theorem dX6_makeList_27 : decode cX6_makeList 27 = .ok (.iload_n 2, 1) := by decide +kernel
theorem dX6_makeList_28 : decode cX6_makeList 28 = .ok (.iconst 1, 1) := by decide +kernel
theorem dX6_makeList_29 : decode cX6_makeList 29 = .ok (.isub, 1) := by decide +kernel
theorem dX6_makeList_30 : decode cX6_makeList 30 = .ok (.invokestatic 43, 3) := by decide +kernel
theorem dX6_makeList_33 : decode cX6_makeList 33 = .ok (.invokevirtual 86, 3) := by decide +kernel
theorem dX6_makeList_36 : decode cX6_makeList 36 = .ok (.aload_n 0, 1) := by decide +kernel
theorem dX6_makeList_37 : decode cX6_makeList 37 = .ok (.getfield 12, 3) := by decide +kernel
theorem dX6_makeList_40 : decode cX6_makeList 40 = .ok (.iload_n 1, 1) := by decide +kernel
theorem dX6_makeList_41 : decode cX6_makeList 41 = .ok (.invokevirtual 86, 3) := by decide +kernel
theorem dX6_makeList_44 : decode cX6_makeList 44 = .ok (.if_icmp .le 27, 3) := by decide +kernel
theorem dX6_makeList_47 : decode cX6_makeList 47 = .ok (.aload_n 0, 1) := by decide +kernel
theorem dX6_makeList_48 : decode cX6_makeList 48 = .ok (.getfield 18, 3) := by decide +kernel
theorem dX6_makeList_51 : decode cX6_makeList 51 = .ok (.iload_n 2, 1) := by decide +kernel
theorem dX6_makeList_52 : decode cX6_makeList 52 = .ok (.aload_n 0, 1) := by decide +kernel
theorem dX6_makeList_53 : decode cX6_makeList 53 = .ok (.getfield 18, 3) := by decide +kernel
theorem dX6_makeList_56 : decode cX6_makeList 56 = .ok (.iload_n 2, 1) := by decide +kernel
theorem dX6_makeList_57 : decode cX6_makeList 57 = .ok (.iconst 1, 1) := by decide +kernel
theorem dX6_makeList_58 : decode cX6_makeList 58 = .ok (.isub, 1) := by decide +kernel
theorem dX6_makeList_59 : decode cX6_makeList 59 = .ok (.invokestatic 43, 3) := by decide +kernel
theorem dX6_makeList_62 : decode cX6_makeList 62 = .ok (.invokestatic 89, 3) := by decide +kernel
theorem dX6_makeList_65 : decode cX6_makeList 65 = .ok (.iinc 2 (-1), 3) := by decide +kernel
theorem dX6_makeList_68 : decode cX6_makeList 68 = .ok (.goto (-53), 3) := by decide +kernel
theorem dX6_makeList_71 : decode cX6_makeList 71 = .ok (.aload_n 0, 1) := by decide +kernel
theorem dX6_makeList_72 : decode cX6_makeList 72 = .ok (.getfield 18, 3) := by decide +kernel
theorem dX6_makeList_75 : decode cX6_makeList 75 = .ok (.iload_n 2, 1) := by decide +kernel
theorem dX6_makeList_76 : decode cX6_makeList 76 = .ok (.iload_n 1, 1) := by decide +kernel
theorem dX6_makeList_77 : decode cX6_makeList 77 = .ok (.invokestatic 89, 3) := by decide +kernel
theorem dX6_makeList_80 : decode cX6_makeList 80 = .ok (.iinc 1 1, 3) := by decide +kernel
theorem dX6_makeList_83 : decode cX6_makeList 83 = .ok (.goto (-81), 3) := by decide +kernel
theorem dX6_makeList_86 : decode cX6_makeList 86 = .ok (.return_, 1) := by decide +kernel
theorem dX6_clearCounts_0 : decode cX6_clearCounts 0 = .ok (.aload_n 0, 1) := by decide +kernel
theorem dX6_clearCounts_1 : decode cX6_clearCounts 1 = .ok (.iconst 0, 1) := by decide +kernel
theorem dX6_clearCounts_2 : decode cX6_clearCounts 2 = .ok (.putfield 53, 3) := by decide +kernel
theorem dX6_clearCounts_5 : decode cX6_clearCounts 5 = .ok (.iconst 0, 1) := by decide +kernel
theorem dX6_clearCounts_6 : decode cX6_clearCounts 6 = .ok (.istore_n 1, 1) := by decide +kernel
theorem dX6_clearCounts_7 : decode cX6_clearCounts 7 = .ok (.iload_n 1, 1) := by decide +kernel
theorem dX6_clearCounts_8 : decode cX6_clearCounts 8 = .ok (.aload_n 0, 1) := by decide +kernel
theorem dX6_clearCounts_9 : decode cX6_clearCounts 9 = .ok (.getfield 22, 3) := by decide +kernel
theorem dX6_clearCounts_12 : decode cX6_clearCounts 12 = .ok (.arraylength, 1) := by decide +kernel
theorem dX6_clearCounts_13 : decode cX6_clearCounts 13 = .ok (.if_icmp .ge 16, 3) := by decide +kernel
theorem dX6_clearCounts_16 : decode cX6_clearCounts 16 = .ok (.aload_n 0, 1) := by decide +kernel
theorem dX6_clearCounts_17 : decode cX6_clearCounts 17 = .ok (.getfield 22, 3) := by decide +kernel
theorem dX6_clearCounts_20 : decode cX6_clearCounts 20 = .ok (.iload_n 1, 1) := by decide +kernel
theorem dX6_clearCounts_21 : decode cX6_clearCounts 21 = .ok (.iconst 0, 1) := by decide +kernel
theorem dX6_clearCounts_22 : decode cX6_clearCounts 22 = .ok (.iastore, 1) := by decide +kernel
theorem dX6_clearCounts_23 : decode cX6_clearCounts 23 = .ok (.iinc 1 1, 3) := by decide +kernel
theorem dX6_clearCounts_26 : decode cX6_clearCounts 26 = .ok (.goto (-19), 3) := by decide +kernel
theorem dX6_clearCounts_29 : decode cX6_clearCounts 29 = .ok (.return_, 1) := by decide +kernel
theorem dX6_changeRooms_0 : decode cX6_changeRooms 0 = .ok (.aload_n 0, 1) := by decide +kernel
theorem dX6_changeRooms_1 : decode cX6_changeRooms 1 = .ok (.getfield 12, 3) := by decide +kernel
theorem dX6_changeRooms_4 : decode cX6_changeRooms 4 = .ok (.invokevirtual 93, 3) := by decide +kernel
theorem dX6_changeRooms_7 : decode cX6_changeRooms 7 = .ok (.bipush 60, 2) := by decide +kernel
theorem dX6_changeRooms_9 : decode cX6_changeRooms 9 = .ok (.irem, 1) := by decide +kernel
theorem dX6_changeRooms_10 : decode cX6_changeRooms 10 = .ok (.istore_n 1, 1) := by decide +kernel
theorem dX6_changeRooms_11 : decode cX6_changeRooms 11 = .ok (.iconst 0, 1) := by decide +kernel
theorem dX6_changeRooms_12 : decode cX6_changeRooms 12 = .ok (.istore_n 2, 1) := by decide +kernel
theorem dX6_changeRooms_13 : decode cX6_changeRooms 13 = .ok (.iload_n 2, 1) := by decide +kernel
theorem dX6_changeRooms_14 : decode cX6_changeRooms 14 = .ok (.aload_n 0, 1) := by decide +kernel
theorem dX6_changeRooms_15 : decode cX6_changeRooms 15 = .ok (.getfield 25, 3) := by decide +kernel
theorem dX6_changeRooms_18 : decode cX6_changeRooms 18 = .ok (.invokevirtual 47, 3) := by decide +kernel
theorem dX6_changeRooms_21 : decode cX6_changeRooms 21 = .ok (.if_icmp .ge 36, 3) := by decide +kernel
theorem dX6_changeRooms_24 : decode cX6_changeRooms 24 = .ok (.aload_n 0, 1) := by decide +kernel
theorem dX6_changeRooms_25 : decode cX6_changeRooms 25 = .ok (.getfield 18, 3) := by decide +kernel
theorem dX6_changeRooms_28 : decode cX6_changeRooms 28 = .ok (.iload_n 2, 1) := by decide +kernel
theorem dX6_changeRooms_29 : decode cX6_changeRooms 29 = .ok (.invokestatic 43, 3) := by decide +kernel
theorem dX6_changeRooms_32 : decode cX6_changeRooms 32 = .ok (.istore_n 3, 1) := by decide +kernel
theorem dX6_changeRooms_33 : decode cX6_changeRooms 33 = .ok (.aload_n 0, 1) := by decide +kernel
theorem dX6_changeRooms_34 : decode cX6_changeRooms 34 = .ok (.getfield 12, 3) := by decide +kernel
theorem dX6_changeRooms_37 : decode cX6_changeRooms 37 = .ok (.iload_n 3, 1) := by decide +kernel
theorem dX6_changeRooms_38 : decode cX6_changeRooms 38 = .ok (.invokevirtual 86, 3) := by decide +kernel
theorem dX6_changeRooms_41 : decode cX6_changeRooms 41 = .ok (.iload_n 1, 1) := by decide +kernel
theorem dX6_changeRooms_42 : decode cX6_changeRooms 42 = .ok (.if_icmp .ne 9, 3) := by decide +kernel
theorem dX6_changeRooms_45 : decode cX6_changeRooms 45 = .ok (.aload_n 0, 1) := by decide +kernel
theorem dX6_changeRooms_46 : decode cX6_changeRooms 46 = .ok (.iload_n 3, 1) := by decide +kernel
theorem dX6_changeRooms_47 : decode cX6_changeRooms 47 = .ok (.iload_n 2, 1) := by decide +kernel
theorem dX6_changeRooms_48 : decode cX6_changeRooms 48 = .ok (.invokevirtual 96, 3) := by decide +kernel
theorem dX6_changeRooms_51 : decode cX6_changeRooms 51 = .ok (.iinc 2 1, 3) := by decide +kernel
theorem dX6_changeRooms_54 : decode cX6_changeRooms 54 = .ok (.goto (-41), 3) := by decide +kernel
theorem dX6_changeRooms_57 : decode cX6_changeRooms 57 = .ok (.return_, 1) := by decide +kernel
theorem dX6_changeRoomOf_0 : decode cX6_changeRoomOf 0 = .ok (.aload_n 0, 1) := by decide +kernel
theorem dX6_changeRoomOf_1 : decode cX6_changeRoomOf 1 = .ok (.getfield 25, 3) := by decide +kernel
theorem dX6_changeRoomOf_4 : decode cX6_changeRoomOf 4 = .ok (.iload_n 1, 1) := by decide +kernel
theorem dX6_changeRoomOf_5 : decode cX6_changeRoomOf 5 = .ok (.invokevirtual 99, 3) := by decide +kernel
theorem dX6_changeRoomOf_8 : decode cX6_changeRoomOf 8 = .ok (.istore_n 3, 1) := by decide +kernel
theorem dX6_changeRoomOf_9 : decode cX6_changeRoomOf 9 = .ok (.aload_n 0, 1) := by decide +kernel
theorem dX6_changeRoomOf_10 : decode cX6_changeRoomOf 10 = .ok (.getfield 18, 3) := by decide +kernel
theorem dX6_changeRoomOf_13 : decode cX6_changeRoomOf 13 = .ok (.iload_n 3, 1) := by decide +kernel
theorem dX6_changeRoomOf_14 : decode cX6_changeRoomOf 14 = .ok (.iconst 2, 1) := by decide +kernel
theorem dX6_changeRoomOf_15 : decode cX6_changeRoomOf 15 = .ok (.if_icmp .ne 9, 3) := by decide +kernel
theorem dX6_changeRoomOf_18 : decode cX6_changeRoomOf 18 = .ok (.iload_n 2, 1) := by decide +kernel
theorem dX6_changeRoomOf_19 : decode cX6_changeRoomOf 19 = .ok (.iconst 2, 1) := by decide +kernel
theorem dX6_changeRoomOf_20 : decode cX6_changeRoomOf 20 = .ok (.iadd, 1) := by decide +kernel
theorem dX6_changeRoomOf_21 : decode cX6_changeRoomOf 21 = .ok (.goto 6, 3) := by decide +kernel
theorem dX6_changeRoomOf_24 : decode cX6_changeRoomOf 24 = .ok (.iload_n 2, 1) := by decide +kernel
theorem dX6_changeRoomOf_25 : decode cX6_changeRoomOf 25 = .ok (.iconst 1, 1) := by decide +kernel
theorem dX6_changeRoomOf_26 : decode cX6_changeRoomOf 26 = .ok (.iadd, 1) := by decide +kernel
theorem dX6_changeRoomOf_27 : decode cX6_changeRoomOf 27 = .ok (.aload_n 0, 1) := by decide +kernel
theorem dX6_changeRoomOf_28 : decode cX6_changeRoomOf 28 = .ok (.getfield 25, 3) := by decide +kernel
theorem dX6_changeRoomOf_31 : decode cX6_changeRoomOf 31 = .ok (.invokevirtual 47, 3) := by decide +kernel
theorem dX6_changeRoomOf_34 : decode cX6_changeRoomOf 34 = .ok (.invokestatic 102, 3) := by decide +kernel
theorem dX6_changeRoomOf_37 : decode cX6_changeRoomOf 37 = .ok (.invokestatic 43, 3) := by decide +kernel
theorem dX6_changeRoomOf_40 : decode cX6_changeRoomOf 40 = .ok (.istore 4, 2) := by decide +kernel
theorem dX6_changeRoomOf_42 : decode cX6_changeRoomOf 42 = .ok (.iload_n 3, 1) := by decide +kernel
theorem dX6_changeRoomOf_43 : decode cX6_changeRoomOf 43 = .ok (.iconst 1, 1) := by decide +kernel
theorem dX6_changeRoomOf_44 : decode cX6_changeRoomOf 44 = .ok (.if_icmp .ne 19, 3) := by decide +kernel
theorem dX6_changeRoomOf_47 : decode cX6_changeRoomOf 47 = .ok (.aload_n 0, 1) := by decide +kernel
theorem dX6_changeRoomOf_48 : decode cX6_changeRoomOf 48 = .ok (.getfield 12, 3) := by decide +kernel
theorem dX6_changeRoomOf_51 : decode cX6_changeRoomOf 51 = .ok (.invokevirtual 93, 3) := by decide +kernel
theorem dX6_changeRoomOf_54 : decode cX6_changeRoomOf 54 = .ok (.bipush 60, 2) := by decide +kernel
theorem dX6_changeRoomOf_56 : decode cX6_changeRoomOf 56 = .ok (.idiv, 1) := by decide +kernel
theorem dX6_changeRoomOf_57 : decode cX6_changeRoomOf 57 = .ok (.iconst 4, 1) := by decide +kernel
theorem dX6_changeRoomOf_58 : decode cX6_changeRoomOf 58 = .ok (.irem, 1) := by decide +kernel
theorem dX6_changeRoomOf_59 : decode cX6_changeRoomOf 59 = .ok (.ifCond .eq 4, 3) := by decide +kernel
theorem dX6_changeRoomOf_62 : decode cX6_changeRoomOf 62 = .ok (.return_, 1) := by decide +kernel
theorem dX6_changeRoomOf_63 : decode cX6_changeRoomOf 63 = .ok (.iload_n 3, 1) := by decide +kernel
theorem dX6_changeRoomOf_64 : decode cX6_changeRoomOf 64 = .ok (.iconst 3, 1) := by decide +kernel
theorem dX6_changeRoomOf_65 : decode cX6_changeRoomOf 65 = .ok (.if_icmp .ne 18, 3) := by decide +kernel
theorem dX6_changeRoomOf_68 : decode cX6_changeRoomOf 68 = .ok (.aload_n 0, 1) := by decide +kernel
theorem dX6_changeRoomOf_69 : decode cX6_changeRoomOf 69 = .ok (.iload 4, 2) := by decide +kernel
theorem dX6_changeRoomOf_71 : decode cX6_changeRoomOf 71 = .ok (.invokevirtual 57, 3) := by decide +kernel
theorem dX6_changeRoomOf_74 : decode cX6_changeRoomOf 74 = .ok (.aload_n 0, 1) := by decide +kernel
theorem dX6_changeRoomOf_75 : decode cX6_changeRoomOf 75 = .ok (.iload_n 1, 1) := by decide +kernel
theorem dX6_changeRoomOf_76 : decode cX6_changeRoomOf 76 = .ok (.invokevirtual 57, 3) := by decide +kernel
theorem dX6_changeRoomOf_79 : decode cX6_changeRoomOf 79 = .ok (.if_icmp .gt 4, 3) := by decide +kernel
theorem dX6_changeRoomOf_82 : decode cX6_changeRoomOf 82 = .ok (.return_, 1) := by decide +kernel
theorem dX6_changeRoomOf_83 : decode cX6_changeRoomOf 83 = .ok (.aload_n 0, 1) := by decide +kernel
theorem dX6_changeRoomOf_84 : decode cX6_changeRoomOf 84 = .ok (.getfield 12, 3) := by decide +kernel
theorem dX6_changeRoomOf_87 : decode cX6_changeRoomOf 87 = .ok (.iload_n 1, 1) := by decide +kernel
theorem dX6_changeRoomOf_88 : decode cX6_changeRoomOf 88 = .ok (.iload 4, 2) := by decide +kernel
theorem dX6_changeRoomOf_90 : decode cX6_changeRoomOf 90 = .ok (.invokevirtual 105, 3) := by decide +kernel
theorem dX6_changeRoomOf_93 : decode cX6_changeRoomOf 93 = .ok (.return_, 1) := by decide +kernel
theorem dX6_sunNow_0 : decode cX6_sunNow 0 = .ok (.aload_n 0, 1) := by decide +kernel
theorem dX6_sunNow_1 : decode cX6_sunNow 1 = .ok (.getfield 25, 3) := by decide +kernel
theorem dX6_sunNow_4 : decode cX6_sunNow 4 = .ok (.aload_n 0, 1) := by decide +kernel
theorem dX6_sunNow_5 : decode cX6_sunNow 5 = .ok (.getfield 12, 3) := by decide +kernel
theorem dX6_sunNow_8 : decode cX6_sunNow 8 = .ok (.invokevirtual 93, 3) := by decide +kernel
theorem dX6_sunNow_11 : decode cX6_sunNow 11 = .ok (.invokevirtual 108, 3) := by decide +kernel
theorem dX6_sunNow_14 : decode cX6_sunNow 14 = .ok (.aload_n 0, 1) := by decide +kernel
theorem dX6_sunNow_15 : decode cX6_sunNow 15 = .ok (.getfield 12, 3) := by decide +kernel
theorem dX6_sunNow_18 : decode cX6_sunNow 18 = .ok (.iload_n 1, 1) := by decide +kernel
theorem dX6_sunNow_19 : decode cX6_sunNow 19 = .ok (.invokevirtual 112, 3) := by decide +kernel
theorem dX6_sunNow_22 : decode cX6_sunNow 22 = .ok (.invokestatic 43, 3) := by decide +kernel
theorem dX6_sunNow_25 : decode cX6_sunNow 25 = .ok (.ireturn, 1) := by decide +kernel
theorem dX6_daysAlike_0 : decode cX6_daysAlike 0 = .ok (.bipush 30, 2) := by decide +kernel
theorem dX6_daysAlike_2 : decode cX6_daysAlike 2 = .ok (.aload_n 0, 1) := by decide +kernel
theorem dX6_daysAlike_3 : decode cX6_daysAlike 3 = .ok (.getfield 12, 3) := by decide +kernel
theorem dX6_daysAlike_6 : decode cX6_daysAlike 6 = .ok (.invokevirtual 93, 3) := by decide +kernel
theorem dX6_daysAlike_9 : decode cX6_daysAlike 9 = .ok (.bipush 30, 2) := by decide +kernel
theorem dX6_daysAlike_11 : decode cX6_daysAlike 11 = .ok (.irem, 1) := by decide +kernel
theorem dX6_daysAlike_12 : decode cX6_daysAlike 12 = .ok (.isub, 1) := by decide +kernel
theorem dX6_daysAlike_13 : decode cX6_daysAlike 13 = .ok (.istore_n 1, 1) := by decide +kernel
theorem dX6_daysAlike_14 : decode cX6_daysAlike 14 = .ok (.iconst 0, 1) := by decide +kernel
theorem dX6_daysAlike_15 : decode cX6_daysAlike 15 = .ok (.istore_n 2, 1) := by decide +kernel
theorem dX6_daysAlike_16 : decode cX6_daysAlike 16 = .ok (.iload_n 2, 1) := by decide +kernel
theorem dX6_daysAlike_17 : decode cX6_daysAlike 17 = .ok (.aload_n 0, 1) := by decide +kernel
theorem dX6_daysAlike_18 : decode cX6_daysAlike 18 = .ok (.getfield 25, 3) := by decide +kernel
theorem dX6_daysAlike_21 : decode cX6_daysAlike 21 = .ok (.invokevirtual 47, 3) := by decide +kernel
theorem dX6_daysAlike_24 : decode cX6_daysAlike 24 = .ok (.if_icmp .ge 29, 3) := by decide +kernel
theorem dX6_daysAlike_27 : decode cX6_daysAlike 27 = .ok (.aload_n 0, 1) := by decide +kernel
theorem dX6_daysAlike_28 : decode cX6_daysAlike 28 = .ok (.getfield 12, 3) := by decide +kernel
theorem dX6_daysAlike_31 : decode cX6_daysAlike 31 = .ok (.iload_n 2, 1) := by decide +kernel
theorem dX6_daysAlike_32 : decode cX6_daysAlike 32 = .ok (.invokevirtual 115, 3) := by decide +kernel
theorem dX6_daysAlike_35 : decode cX6_daysAlike 35 = .ok (.istore_n 3, 1) := by decide +kernel
theorem dX6_daysAlike_36 : decode cX6_daysAlike 36 = .ok (.iload_n 3, 1) := by decide +kernel
theorem dX6_daysAlike_37 : decode cX6_daysAlike 37 = .ok (.ifCond .le 10, 3) := by decide +kernel
theorem dX6_daysAlike_40 : decode cX6_daysAlike 40 = .ok (.iload_n 3, 1) := by decide +kernel
theorem dX6_daysAlike_41 : decode cX6_daysAlike 41 = .ok (.iload_n 1, 1) := by decide +kernel
theorem dX6_daysAlike_42 : decode cX6_daysAlike 42 = .ok (.if_icmp .ge 5, 3) := by decide +kernel
theorem dX6_daysAlike_45 : decode cX6_daysAlike 45 = .ok (.iload_n 3, 1) := by decide +kernel
theorem dX6_daysAlike_46 : decode cX6_daysAlike 46 = .ok (.istore_n 1, 1) := by decide +kernel
theorem dX6_daysAlike_47 : decode cX6_daysAlike 47 = .ok (.iinc 2 1, 3) := by decide +kernel
theorem dX6_daysAlike_50 : decode cX6_daysAlike 50 = .ok (.goto (-34), 3) := by decide +kernel
theorem dX6_daysAlike_53 : decode cX6_daysAlike 53 = .ok (.iconst 1, 1) := by decide +kernel
theorem dX6_daysAlike_54 : decode cX6_daysAlike 54 = .ok (.iload_n 1, 1) := by decide +kernel
theorem dX6_daysAlike_55 : decode cX6_daysAlike 55 = .ok (.invokestatic 118, 3) := by decide +kernel
theorem dX6_daysAlike_58 : decode cX6_daysAlike 58 = .ok (.ireturn, 1) := by decide +kernel
theorem dX6_countDays_0 : decode cX6_countDays 0 = .ok (.iconst 0, 1) := by decide +kernel
theorem dX6_countDays_1 : decode cX6_countDays 1 = .ok (.istore_n 2, 1) := by decide +kernel
theorem dX6_countDays_2 : decode cX6_countDays 2 = .ok (.iload_n 2, 1) := by decide +kernel
theorem dX6_countDays_3 : decode cX6_countDays 3 = .ok (.aload_n 0, 1) := by decide +kernel
theorem dX6_countDays_4 : decode cX6_countDays 4 = .ok (.getfield 25, 3) := by decide +kernel
theorem dX6_countDays_7 : decode cX6_countDays 7 = .ok (.invokevirtual 47, 3) := by decide +kernel
theorem dX6_countDays_10 : decode cX6_countDays 10 = .ok (.if_icmp .ge 57, 3) := by decide +kernel
theorem dX6_countDays_13 : decode cX6_countDays 13 = .ok (.aload_n 0, 1) := by decide +kernel
theorem dX6_countDays_14 : decode cX6_countDays 14 = .ok (.iload_n 2, 1) := by decide +kernel
theorem dX6_countDays_15 : decode cX6_countDays 15 = .ok (.invokevirtual 57, 3) := by decide +kernel
theorem dX6_countDays_18 : decode cX6_countDays 18 = .ok (.istore_n 3, 1) := by decide +kernel
theorem dX6_countDays_19 : decode cX6_countDays 19 = .ok (.aload_n 0, 1) := by decide +kernel
theorem dX6_countDays_20 : decode cX6_countDays 20 = .ok (.getfield 22, 3) := by decide +kernel
theorem dX6_countDays_23 : decode cX6_countDays 23 = .ok (.iload_n 2, 1) := by decide +kernel
theorem dX6_countDays_24 : decode cX6_countDays 24 = .ok (.aload_n 0, 1) := by decide +kernel
theorem dX6_countDays_25 : decode cX6_countDays 25 = .ok (.getfield 22, 3) := by decide +kernel
theorem dX6_countDays_28 : decode cX6_countDays 28 = .ok (.iload_n 2, 1) := by decide +kernel
theorem dX6_countDays_29 : decode cX6_countDays 29 = .ok (.invokestatic 43, 3) := by decide +kernel
theorem dX6_countDays_32 : decode cX6_countDays 32 = .ok (.iload_n 3, 1) := by decide +kernel
theorem dX6_countDays_33 : decode cX6_countDays 33 = .ok (.iload_n 1, 1) := by decide +kernel
theorem dX6_countDays_34 : decode cX6_countDays 34 = .ok (.imul, 1) := by decide +kernel
theorem dX6_countDays_35 : decode cX6_countDays 35 = .ok (.iadd, 1) := by decide +kernel
theorem dX6_countDays_36 : decode cX6_countDays 36 = .ok (.invokestatic 89, 3) := by decide +kernel
theorem dX6_countDays_39 : decode cX6_countDays 39 = .ok (.iload_n 3, 1) := by decide +kernel
theorem dX6_countDays_40 : decode cX6_countDays 40 = .ok (.aload_n 0, 1) := by decide +kernel
theorem dX6_countDays_41 : decode cX6_countDays 41 = .ok (.getfield 25, 3) := by decide +kernel
theorem dX6_countDays_44 : decode cX6_countDays 44 = .ok (.iload_n 2, 1) := by decide +kernel
theorem dX6_countDays_45 : decode cX6_countDays 45 = .ok (.invokevirtual 61, 3) := by decide +kernel
theorem dX6_countDays_48 : decode cX6_countDays 48 = .ok (.if_icmp .ge 13, 3) := by decide +kernel
theorem dX6_countDays_51 : decode cX6_countDays 51 = .ok (.aload_n 0, 1) := by decide +kernel
theorem dX6_countDays_52 : decode cX6_countDays 52 = .ok (.dup, 1) := by decide +kernel
theorem dX6_countDays_53 : decode cX6_countDays 53 = .ok (.getfield 53, 3) := by decide +kernel
theorem dX6_countDays_56 : decode cX6_countDays 56 = .ok (.iload_n 1, 1) := by decide +kernel
theorem dX6_countDays_57 : decode cX6_countDays 57 = .ok (.iadd, 1) := by decide +kernel
theorem dX6_countDays_58 : decode cX6_countDays 58 = .ok (.putfield 53, 3) := by decide +kernel
theorem dX6_countDays_61 : decode cX6_countDays 61 = .ok (.iinc 2 1, 3) := by decide +kernel
theorem dX6_countDays_64 : decode cX6_countDays 64 = .ok (.goto (-62), 3) := by decide +kernel
theorem dX6_countDays_67 : decode cX6_countDays 67 = .ok (.return_, 1) := by decide +kernel
theorem dX7_init_0 : decode cX7_init 0 = .ok (.aload_n 0, 1) := by decide +kernel
theorem dX7_init_1 : decode cX7_init 1 = .ok (.invokespecial 3, 3) := by decide +kernel
theorem dX7_init_4 : decode cX7_init 4 = .ok (.aload_n 0, 1) := by decide +kernel
theorem dX7_init_5 : decode cX7_init 5 = .ok (.new 9, 3) := by decide +kernel
theorem dX7_init_8 : decode cX7_init 8 = .ok (.dup, 1) := by decide +kernel
theorem dX7_init_9 : decode cX7_init 9 = .ok (.invokespecial 11, 3) := by decide +kernel
theorem dX7_init_12 : decode cX7_init 12 = .ok (.putfield 12, 3) := by decide +kernel
theorem dX7_init_15 : decode cX7_init 15 = .ok (.aload_n 0, 1) := by decide +kernel
theorem dX7_init_16 : decode cX7_init 16 = .ok (.new 16, 3) := by decide +kernel
theorem dX7_init_19 : decode cX7_init 19 = .ok (.dup, 1) := by decide +kernel
theorem dX7_init_20 : decode cX7_init 20 = .ok (.invokespecial 18, 3) := by decide +kernel
theorem dX7_init_23 : decode cX7_init 23 = .ok (.putfield 19, 3) := by decide +kernel
theorem dX7_init_26 : decode cX7_init 26 = .ok (.aload_n 0, 1) := by decide +kernel
theorem dX7_init_27 : decode cX7_init 27 = .ok (.new 16, 3) := by decide +kernel
theorem dX7_init_30 : decode cX7_init 30 = .ok (.dup, 1) := by decide +kernel
theorem dX7_init_31 : decode cX7_init 31 = .ok (.invokespecial 18, 3) := by decide +kernel
theorem dX7_init_34 : decode cX7_init 34 = .ok (.putfield 23, 3) := by decide +kernel
theorem dX7_init_37 : decode cX7_init 37 = .ok (.aload_n 0, 1) := by decide +kernel
theorem dX7_init_38 : decode cX7_init 38 = .ok (.new 26, 3) := by decide +kernel
theorem dX7_init_41 : decode cX7_init 41 = .ok (.dup, 1) := by decide +kernel
theorem dX7_init_42 : decode cX7_init 42 = .ok (.invokespecial 28, 3) := by decide +kernel
theorem dX7_init_45 : decode cX7_init 45 = .ok (.putfield 29, 3) := by decide +kernel
theorem dX7_init_48 : decode cX7_init 48 = .ok (.aload_n 0, 1) := by decide +kernel
theorem dX7_init_49 : decode cX7_init 49 = .ok (.new 26, 3) := by decide +kernel
theorem dX7_init_52 : decode cX7_init 52 = .ok (.dup, 1) := by decide +kernel
theorem dX7_init_53 : decode cX7_init 53 = .ok (.invokespecial 28, 3) := by decide +kernel
theorem dX7_init_56 : decode cX7_init 56 = .ok (.putfield 33, 3) := by decide +kernel
theorem dX7_init_59 : decode cX7_init 59 = .ok (.aload_n 0, 1) := by decide +kernel
theorem dX7_init_60 : decode cX7_init 60 = .ok (.new 36, 3) := by decide +kernel
theorem dX7_init_63 : decode cX7_init 63 = .ok (.dup, 1) := by decide +kernel
theorem dX7_init_64 : decode cX7_init 64 = .ok (.bipush 8, 2) := by decide +kernel
theorem dX7_init_66 : decode cX7_init 66 = .ok (.invokespecial 38, 3) := by decide +kernel
theorem dX7_init_69 : decode cX7_init 69 = .ok (.putfield 41, 3) := by decide +kernel
theorem dX7_init_72 : decode cX7_init 72 = .ok (.aload_n 0, 1) := by decide +kernel
theorem dX7_init_73 : decode cX7_init 73 = .ok (.new 36, 3) := by decide +kernel
theorem dX7_init_76 : decode cX7_init 76 = .ok (.dup, 1) := by decide +kernel
theorem dX7_init_77 : decode cX7_init 77 = .ok (.iconst 2, 1) := by decide +kernel
theorem dX7_init_78 : decode cX7_init 78 = .ok (.invokespecial 38, 3) := by decide +kernel
theorem dX7_init_81 : decode cX7_init 81 = .ok (.putfield 45, 3) := by decide +kernel
theorem dX7_init_84 : decode cX7_init 84 = .ok (.aload_n 0, 1) := by decide +kernel
theorem dX7_init_85 : decode cX7_init 85 = .ok (.new 48, 3) := by decide +kernel
theorem dX7_init_88 : decode cX7_init 88 = .ok (.dup, 1) := by decide +kernel
theorem dX7_init_89 : decode cX7_init 89 = .ok (.invokespecial 50, 3) := by decide +kernel
theorem dX7_init_92 : decode cX7_init 92 = .ok (.putfield 51, 3) := by decide +kernel
theorem dX7_init_95 : decode cX7_init 95 = .ok (.aload_n 0, 1) := by decide +kernel
theorem dX7_init_96 : decode cX7_init 96 = .ok (.new 55, 3) := by decide +kernel
theorem dX7_init_99 : decode cX7_init 99 = .ok (.dup, 1) := by decide +kernel
theorem dX7_init_100 : decode cX7_init 100 = .ok (.aload_n 0, 1) := by decide +kernel
theorem dX7_init_101 : decode cX7_init 101 = .ok (.getfield 19, 3) := by decide +kernel
theorem dX7_init_104 : decode cX7_init 104 = .ok (.invokespecial 57, 3) := by decide +kernel
theorem dX7_init_107 : decode cX7_init 107 = .ok (.putfield 60, 3) := by decide +kernel
theorem dX7_init_110 : decode cX7_init 110 = .ok (.aload_n 0, 1) := by decide +kernel
theorem dX7_init_111 : decode cX7_init 111 = .ok (.new 64, 3) := by decide +kernel
theorem dX7_init_114 : decode cX7_init 114 = .ok (.dup, 1) := by decide +kernel
theorem dX7_init_115 : decode cX7_init 115 = .ok (.aload_n 0, 1) := by decide +kernel
theorem dX7_init_116 : decode cX7_init 116 = .ok (.getfield 19, 3) := by decide +kernel
theorem dX7_init_119 : decode cX7_init 119 = .ok (.aload_n 0, 1) := by decide +kernel
theorem dX7_init_120 : decode cX7_init 120 = .ok (.getfield 60, 3) := by decide +kernel
theorem dX7_init_123 : decode cX7_init 123 = .ok (.invokespecial 66, 3) := by decide +kernel
theorem dX7_init_126 : decode cX7_init 126 = .ok (.putfield 69, 3) := by decide +kernel
theorem dX7_init_129 : decode cX7_init 129 = .ok (.iconst 0, 1) := by decide +kernel
theorem dX7_init_130 : decode cX7_init 130 = .ok (.istore_n 1, 1) := by decide +kernel
theorem dX7_init_131 : decode cX7_init 131 = .ok (.iload_n 1, 1) := by decide +kernel
theorem dX7_init_132 : decode cX7_init 132 = .ok (.ldc 73, 2) := by decide +kernel
theorem dX7_init_134 : decode cX7_init 134 = .ok (.invokevirtual 75, 3) := by decide +kernel
theorem dX7_init_137 : decode cX7_init 137 = .ok (.if_icmp .ge 22, 3) := by decide +kernel
theorem dX7_init_140 : decode cX7_init 140 = .ok (.aload_n 0, 1) := by decide +kernel
theorem dX7_init_141 : decode cX7_init 141 = .ok (.getfield 12, 3) := by decide +kernel
theorem dX7_init_144 : decode cX7_init 144 = .ok (.ldc 73, 2) := by decide +kernel
theorem dX7_init_146 : decode cX7_init 146 = .ok (.iload_n 1, 1) := by decide +kernel
theorem dX7_init_147 : decode cX7_init 147 = .ok (.invokevirtual 81, 3) := by decide +kernel
theorem dX7_init_150 : decode cX7_init 150 = .ok (.invokevirtual 85, 3) := by decide +kernel
theorem dX7_init_153 : decode cX7_init 153 = .ok (.iinc 1 1, 3) := by decide +kernel
theorem dX7_init_156 : decode cX7_init 156 = .ok (.goto (-25), 3) := by decide +kernel
theorem dX7_init_159 : decode cX7_init 159 = .ok (.aload_n 0, 1) := by decide +kernel
theorem dX7_init_160 : decode cX7_init 160 = .ok (.getfield 12, 3) := by decide +kernel
theorem dX7_init_163 : decode cX7_init 163 = .ok (.aload_n 0, 1) := by decide +kernel
theorem dX7_init_164 : decode cX7_init 164 = .ok (.getfield 23, 3) := by decide +kernel
theorem dX7_init_167 : decode cX7_init 167 = .ok (.invokevirtual 89, 3) := by decide +kernel
theorem dX7_init_170 : decode cX7_init 170 = .ok (.pop, 1) := by decide +kernel
theorem dX7_init_171 : decode cX7_init 171 = .ok (.aload_n 0, 1) := by decide +kernel
theorem dX7_init_172 : decode cX7_init 172 = .ok (.invokevirtual 93, 3) := by decide +kernel
theorem dX7_init_175 : decode cX7_init 175 = .ok (.aload_n 0, 1) := by decide +kernel
theorem dX7_init_176 : decode cX7_init 176 = .ok (.getfield 12, 3) := by decide +kernel
theorem dX7_init_179 : decode cX7_init 179 = .ok (.invokevirtual 96, 3) := by decide +kernel
theorem dX7_init_182 : decode cX7_init 182 = .ok (.return_, 1) := by decide +kernel
theorem dX7_write_0 : decode cX7_write 0 = .ok (.iload_n 1, 1) := by decide +kernel
theorem dX7_write_1 : decode cX7_write 1 = .ok (.bipush 32, 2) := by decide +kernel
theorem dX7_write_3 : decode cX7_write 3 = .ok (.bipush 126, 2) := by decide +kernel
theorem dX7_write_5 : decode cX7_write 5 = .ok (.invokestatic 99, 3) := by decide +kernel
theorem dX7_write_8 : decode cX7_write 8 = .ok (.ifCond .ne 5, 3) := by decide +kernel
theorem dX7_write_11 : decode cX7_write 11 = .ok (.iconst (-1), 1) := by decide +kernel
theorem dX7_write_12 : decode cX7_write 12 = .ok (.ireturn, 1) := by decide +kernel
theorem dX7_write_13 : decode cX7_write 13 = .ok (.aload_n 0, 1) := by decide +kernel
theorem dX7_write_14 : decode cX7_write 14 = .ok (.getfield 12, 3) := by decide +kernel
theorem dX7_write_17 : decode cX7_write 17 = .ok (.invokevirtual 103, 3) := by decide +kernel
theorem dX7_write_20 : decode cX7_write 20 = .ok (.ifCond .eq 6, 3) := by decide +kernel
theorem dX7_write_23 : decode cX7_write 23 = .ok (.bipush (-3), 2) := by decide +kernel
theorem dX7_write_25 : decode cX7_write 25 = .ok (.ireturn, 1) := by decide +kernel
theorem dX7_write_26 : decode cX7_write 26 = .ok (.aload_n 0, 1) := by decide +kernel
theorem dX7_write_27 : decode cX7_write 27 = .ok (.getfield 12, 3) := by decide +kernel
theorem dX7_write_30 : decode cX7_write 30 = .ok (.iload_n 1, 1) := by decide +kernel
theorem dX7_write_31 : decode cX7_write 31 = .ok (.i2c, 1) := by decide +kernel
theorem dX7_write_32 : decode cX7_write 32 = .ok (.invokevirtual 85, 3) := by decide +kernel
theorem dX7_write_35 : decode cX7_write 35 = .ok (.aload_n 0, 1) := by decide +kernel
theorem dX7_write_36 : decode cX7_write 36 = .ok (.getfield 12, 3) := by decide +kernel
theorem dX7_write_39 : decode cX7_write 39 = .ok (.invokevirtual 107, 3) := by decide +kernel
theorem dX7_write_42 : decode cX7_write 42 = .ok (.ireturn, 1) := by decide +kernel
theorem dX7_wipe_0 : decode cX7_wipe 0 = .ok (.aload_n 0, 1) := by decide +kernel
theorem dX7_wipe_1 : decode cX7_wipe 1 = .ok (.getfield 12, 3) := by decide +kernel
theorem dX7_wipe_4 : decode cX7_wipe 4 = .ok (.invokevirtual 107, 3) := by decide +kernel
theorem dX7_wipe_7 : decode cX7_wipe 7 = .ok (.istore_n 1, 1) := by decide +kernel
theorem dX7_wipe_8 : decode cX7_wipe 8 = .ok (.aload_n 0, 1) := by decide +kernel
theorem dX7_wipe_9 : decode cX7_wipe 9 = .ok (.getfield 12, 3) := by decide +kernel
theorem dX7_wipe_12 : decode cX7_wipe 12 = .ok (.invokevirtual 96, 3) := by decide +kernel
theorem dX7_wipe_15 : decode cX7_wipe 15 = .ok (.iload_n 1, 1) := by decide +kernel
theorem dX7_wipe_16 : decode cX7_wipe 16 = .ok (.ireturn, 1) := by decide +kernel
theorem dX7_fault_0 : decode cX7_fault 0 = .ok (.aload_n 0, 1) := by decide +kernel
theorem dX7_fault_1 : decode cX7_fault 1 = .ok (.getfield 12, 3) := by decide +kernel
theorem dX7_fault_4 : decode cX7_fault 4 = .ok (.aload_n 0, 1) := by decide +kernel
theorem dX7_fault_5 : decode cX7_fault 5 = .ok (.getfield 23, 3) := by decide +kernel
theorem dX7_fault_8 : decode cX7_fault 8 = .ok (.invokevirtual 89, 3) := by decide +kernel
theorem dX7_fault_11 : decode cX7_fault 11 = .ok (.ireturn, 1) := by decide +kernel
theorem dX7_lay_0 : decode cX7_lay 0 = .ok (.aload_n 0, 1) := by decide +kernel
theorem dX7_lay_1 : decode cX7_lay 1 = .ok (.getfield 12, 3) := by decide +kernel
theorem dX7_lay_4 : decode cX7_lay 4 = .ok (.aload_n 0, 1) := by decide +kernel
theorem dX7_lay_5 : decode cX7_lay 5 = .ok (.getfield 23, 3) := by decide +kernel
theorem dX7_lay_8 : decode cX7_lay 8 = .ok (.invokevirtual 89, 3) := by decide +kernel
theorem dX7_lay_11 : decode cX7_lay 11 = .ok (.bipush (-4), 2) := by decide +kernel
theorem dX7_lay_13 : decode cX7_lay 13 = .ok (.if_icmp .ne 13, 3) := by decide +kernel
theorem dX7_lay_16 : decode cX7_lay 16 = .ok (.aload_n 0, 1) := by decide +kernel
theorem dX7_lay_17 : decode cX7_lay 17 = .ok (.getfield 23, 3) := by decide +kernel
theorem dX7_lay_20 : decode cX7_lay 20 = .ok (.invokevirtual 110, 3) := by decide +kernel
theorem dX7_lay_23 : decode cX7_lay 23 = .ok (.ifCond .ne 6, 3) := by decide +kernel
theorem dX7_lay_26 : decode cX7_lay 26 = .ok (.bipush (-2), 2) := by decide +kernel
theorem dX7_lay_28 : decode cX7_lay 28 = .ok (.ireturn, 1) := by decide +kernel
theorem dX7_lay_29 : decode cX7_lay 29 = .ok (.aload_n 0, 1) := by decide +kernel
theorem dX7_lay_30 : decode cX7_lay 30 = .ok (.invokevirtual 93, 3) := by decide +kernel
theorem dX7_lay_33 : decode cX7_lay 33 = .ok (.aload_n 0, 1) := by decide +kernel
theorem dX7_lay_34 : decode cX7_lay 34 = .ok (.getfield 19, 3) := by decide +kernel
theorem dX7_lay_37 : decode cX7_lay 37 = .ok (.invokevirtual 113, 3) := by decide +kernel
theorem dX7_lay_40 : decode cX7_lay 40 = .ok (.ireturn, 1) := by decide +kernel
theorem dX7_cousin_0 : decode cX7_cousin 0 = .ok (.aload_n 0, 1) := by decide +kernel
theorem dX7_cousin_1 : decode cX7_cousin 1 = .ok (.iload_n 1, 1) := by decide +kernel
theorem dX7_cousin_2 : decode cX7_cousin 2 = .ok (.invokevirtual 116, 3) := by decide +kernel
theorem dX7_cousin_5 : decode cX7_cousin 5 = .ok (.ifCond .eq 12, 3) := by decide +kernel
theorem dX7_cousin_8 : decode cX7_cousin 8 = .ok (.iload_n 2, 1) := by decide +kernel
theorem dX7_cousin_9 : decode cX7_cousin 9 = .ok (.iconst 0, 1) := by decide +kernel
theorem dX7_cousin_10 : decode cX7_cousin 10 = .ok (.iconst 4, 1) := by decide +kernel
theorem dX7_cousin_11 : decode cX7_cousin 11 = .ok (.invokestatic 99, 3) := by decide +kernel
theorem dX7_cousin_14 : decode cX7_cousin 14 = .ok (.ifCond .ne 5, 3) := by decide +kernel
theorem dX7_cousin_17 : decode cX7_cousin 17 = .ok (.iconst (-1), 1) := by decide +kernel
theorem dX7_cousin_18 : decode cX7_cousin 18 = .ok (.ireturn, 1) := by decide +kernel
theorem dX7_cousin_19 : decode cX7_cousin 19 = .ok (.iload_n 2, 1) := by decide +kernel
theorem dX7_cousin_20 : decode cX7_cousin 20 = .ok (.tableswitch 68 0 3 #[32, 41, 50, 59], 32) := by decide +kernel
theorem dX7_cousin_52 : decode cX7_cousin 52 = .ok (.aload_n 0, 1) := by decide +kernel
theorem dX7_cousin_53 : decode cX7_cousin 53 = .ok (.getfield 19, 3) := by decide +kernel
theorem dX7_cousin_56 : decode cX7_cousin 56 = .ok (.iload_n 1, 1) := by decide +kernel
theorem dX7_cousin_57 : decode cX7_cousin 57 = .ok (.invokevirtual 120, 3) := by decide +kernel
theorem dX7_cousin_60 : decode cX7_cousin 60 = .ok (.ireturn, 1) := by decide +kernel
theorem dX7_cousin_61 : decode cX7_cousin 61 = .ok (.aload_n 0, 1) := by decide +kernel
theorem dX7_cousin_62 : decode cX7_cousin 62 = .ok (.getfield 29, 3) := by decide +kernel
theorem dX7_cousin_65 : decode cX7_cousin 65 = .ok (.iload_n 1, 1) := by decide +kernel
theorem dX7_cousin_66 : decode cX7_cousin 66 = .ok (.invokevirtual 124, 3) := by decide +kernel
theorem dX7_cousin_69 : decode cX7_cousin 69 = .ok (.ireturn, 1) := by decide +kernel
theorem dX7_cousin_70 : decode cX7_cousin 70 = .ok (.aload_n 0, 1) := by decide +kernel
theorem dX7_cousin_71 : decode cX7_cousin 71 = .ok (.getfield 19, 3) := by decide +kernel
theorem dX7_cousin_74 : decode cX7_cousin 74 = .ok (.iload_n 1, 1) := by decide +kernel
theorem dX7_cousin_75 : decode cX7_cousin 75 = .ok (.invokevirtual 127, 3) := by decide +kernel
theorem dX7_cousin_78 : decode cX7_cousin 78 = .ok (.ireturn, 1) := by decide +kernel
theorem dX7_cousin_79 : decode cX7_cousin 79 = .ok (.aload_n 0, 1) := by decide +kernel
theorem dX7_cousin_80 : decode cX7_cousin 80 = .ok (.getfield 29, 3) := by decide +kernel
theorem dX7_cousin_83 : decode cX7_cousin 83 = .ok (.iload_n 1, 1) := by decide +kernel
theorem dX7_cousin_84 : decode cX7_cousin 84 = .ok (.invokevirtual 130, 3) := by decide +kernel
theorem dX7_cousin_87 : decode cX7_cousin 87 = .ok (.ireturn, 1) := by decide +kernel
theorem dX7_cousin_88 : decode cX7_cousin 88 = .ok (.aload_n 0, 1) := by decide +kernel
theorem dX7_cousin_89 : decode cX7_cousin 89 = .ok (.getfield 60, 3) := by decide +kernel
theorem dX7_cousin_92 : decode cX7_cousin 92 = .ok (.aload_n 0, 1) := by decide +kernel
theorem dX7_cousin_93 : decode cX7_cousin 93 = .ok (.getfield 29, 3) := by decide +kernel
theorem dX7_cousin_96 : decode cX7_cousin 96 = .ok (.invokevirtual 133, 3) := by decide +kernel
theorem dX7_cousin_99 : decode cX7_cousin 99 = .ok (.aload_n 0, 1) := by decide +kernel
theorem dX7_cousin_100 : decode cX7_cousin 100 = .ok (.getfield 60, 3) := by decide +kernel
theorem dX7_cousin_103 : decode cX7_cousin 103 = .ok (.iload_n 1, 1) := by decide +kernel
theorem dX7_cousin_104 : decode cX7_cousin 104 = .ok (.invokevirtual 137, 3) := by decide +kernel
theorem dX7_cousin_107 : decode cX7_cousin 107 = .ok (.ireturn, 1) := by decide +kernel
theorem dX7_room_0 : decode cX7_room 0 = .ok (.aload_n 0, 1) := by decide +kernel
theorem dX7_room_1 : decode cX7_room 1 = .ok (.iload_n 1, 1) := by decide +kernel
theorem dX7_room_2 : decode cX7_room 2 = .ok (.invokevirtual 140, 3) := by decide +kernel
theorem dX7_room_5 : decode cX7_room 5 = .ok (.ifCond .eq 12, 3) := by decide +kernel
theorem dX7_room_8 : decode cX7_room 8 = .ok (.iload_n 2, 1) := by decide +kernel
theorem dX7_room_9 : decode cX7_room 9 = .ok (.iconst 0, 1) := by decide +kernel
theorem dX7_room_10 : decode cX7_room 10 = .ok (.iconst 2, 1) := by decide +kernel
theorem dX7_room_11 : decode cX7_room 11 = .ok (.invokestatic 99, 3) := by decide +kernel
theorem dX7_room_14 : decode cX7_room 14 = .ok (.ifCond .ne 5, 3) := by decide +kernel
theorem dX7_room_17 : decode cX7_room 17 = .ok (.iconst (-1), 1) := by decide +kernel
theorem dX7_room_18 : decode cX7_room 18 = .ok (.ireturn, 1) := by decide +kernel
theorem dX7_room_19 : decode cX7_room 19 = .ok (.iload_n 2, 1) := by decide +kernel
theorem dX7_room_20 : decode cX7_room 20 = .ok (.lookupswitch 46 #[(0, 28), (1, 37)], 28) := by decide +kernel
theorem dX7_room_48 : decode cX7_room 48 = .ok (.aload_n 0, 1) := by decide +kernel
theorem dX7_room_49 : decode cX7_room 49 = .ok (.getfield 19, 3) := by decide +kernel
theorem dX7_room_52 : decode cX7_room 52 = .ok (.iload_n 1, 1) := by decide +kernel
theorem dX7_room_53 : decode cX7_room 53 = .ok (.invokevirtual 143, 3) := by decide +kernel
theorem dX7_room_56 : decode cX7_room 56 = .ok (.ireturn, 1) := by decide +kernel
theorem dX7_room_57 : decode cX7_room 57 = .ok (.aload_n 0, 1) := by decide +kernel
theorem dX7_room_58 : decode cX7_room 58 = .ok (.getfield 19, 3) := by decide +kernel
theorem dX7_room_61 : decode cX7_room 61 = .ok (.iload_n 1, 1) := by decide +kernel
theorem dX7_room_62 : decode cX7_room 62 = .ok (.invokevirtual 146, 3) := by decide +kernel
theorem dX7_room_65 : decode cX7_room 65 = .ok (.ireturn, 1) := by decide +kernel
theorem dX7_room_66 : decode cX7_room 66 = .ok (.aload_n 0, 1) := by decide +kernel
theorem dX7_room_67 : decode cX7_room 67 = .ok (.getfield 29, 3) := by decide +kernel
theorem dX7_room_70 : decode cX7_room 70 = .ok (.iload_n 1, 1) := by decide +kernel
theorem dX7_room_71 : decode cX7_room 71 = .ok (.aload_n 0, 1) := by decide +kernel
theorem dX7_room_72 : decode cX7_room 72 = .ok (.getfield 19, 3) := by decide +kernel
theorem dX7_room_75 : decode cX7_room 75 = .ok (.invokevirtual 113, 3) := by decide +kernel
theorem dX7_room_78 : decode cX7_room 78 = .ok (.invokevirtual 149, 3) := by decide +kernel
theorem dX7_room_81 : decode cX7_room 81 = .ok (.ireturn, 1) := by decide +kernel
theorem dX7_pass_0 : decode cX7_pass 0 = .ok (.iload_n 1, 1) := by decide +kernel
theorem dX7_pass_1 : decode cX7_pass 1 = .ok (.iconst 1, 1) := by decide +kernel
theorem dX7_pass_2 : decode cX7_pass 2 = .ok (.bipush 120, 2) := by decide +kernel
theorem dX7_pass_4 : decode cX7_pass 4 = .ok (.invokestatic 99, 3) := by decide +kernel
theorem dX7_pass_7 : decode cX7_pass 7 = .ok (.ifCond .ne 5, 3) := by decide +kernel
theorem dX7_pass_10 : decode cX7_pass 10 = .ok (.iconst (-1), 1) := by decide +kernel
theorem dX7_pass_11 : decode cX7_pass 11 = .ok (.ireturn, 1) := by decide +kernel
theorem dX7_pass_12 : decode cX7_pass 12 = .ok (.aload_n 0, 1) := by decide +kernel
theorem dX7_pass_13 : decode cX7_pass 13 = .ok (.getfield 29, 3) := by decide +kernel
theorem dX7_pass_16 : decode cX7_pass 16 = .ok (.invokevirtual 153, 3) := by decide +kernel
theorem dX7_pass_19 : decode cX7_pass 19 = .ok (.iload_n 1, 1) := by decide +kernel
theorem dX7_pass_20 : decode cX7_pass 20 = .ok (.iadd, 1) := by decide +kernel
theorem dX7_pass_21 : decode cX7_pass 21 = .ok (.sipush 9999, 3) := by decide +kernel
theorem dX7_pass_24 : decode cX7_pass 24 = .ok (.if_icmp .le 6, 3) := by decide +kernel
theorem dX7_pass_27 : decode cX7_pass 27 = .ok (.bipush (-2), 2) := by decide +kernel
theorem dX7_pass_29 : decode cX7_pass 29 = .ok (.ireturn, 1) := by decide +kernel
theorem dX7_pass_30 : decode cX7_pass 30 = .ok (.aload_n 0, 1) := by decide +kernel
theorem dX7_pass_31 : decode cX7_pass 31 = .ok (.getfield 41, 3) := by decide +kernel
theorem dX7_pass_34 : decode cX7_pass 34 = .ok (.aload_n 0, 1) := by decide +kernel
theorem dX7_pass_35 : decode cX7_pass 35 = .ok (.getfield 29, 3) := by decide +kernel
theorem dX7_pass_38 : decode cX7_pass 38 = .ok (.invokevirtual 156, 3) := by decide +kernel
theorem dX7_pass_41 : decode cX7_pass 41 = .ok (.aload_n 0, 1) := by decide +kernel
theorem dX7_pass_42 : decode cX7_pass 42 = .ok (.getfield 60, 3) := by decide +kernel
theorem dX7_pass_45 : decode cX7_pass 45 = .ok (.aload_n 0, 1) := by decide +kernel
theorem dX7_pass_46 : decode cX7_pass 46 = .ok (.getfield 29, 3) := by decide +kernel
theorem dX7_pass_49 : decode cX7_pass 49 = .ok (.invokevirtual 133, 3) := by decide +kernel
theorem dX7_pass_52 : decode cX7_pass 52 = .ok (.aload_n 0, 1) := by decide +kernel
theorem dX7_pass_53 : decode cX7_pass 53 = .ok (.getfield 60, 3) := by decide +kernel
theorem dX7_pass_56 : decode cX7_pass 56 = .ok (.iload_n 1, 1) := by decide +kernel
theorem dX7_pass_57 : decode cX7_pass 57 = .ok (.invokevirtual 159, 3) := by decide +kernel
theorem dX7_pass_60 : decode cX7_pass 60 = .ok (.aload_n 0, 1) := by decide +kernel
theorem dX7_pass_61 : decode cX7_pass 61 = .ok (.getfield 29, 3) := by decide +kernel
theorem dX7_pass_64 : decode cX7_pass 64 = .ok (.aload_n 0, 1) := by decide +kernel
theorem dX7_pass_65 : decode cX7_pass 65 = .ok (.getfield 60, 3) := by decide +kernel
theorem dX7_pass_68 : decode cX7_pass 68 = .ok (.invokevirtual 162, 3) := by decide +kernel
theorem dX7_pass_71 : decode cX7_pass 71 = .ok (.invokevirtual 166, 3) := by decide +kernel
theorem dX7_pass_74 : decode cX7_pass 74 = .ok (.aload_n 0, 1) := by decide +kernel
theorem dX7_pass_75 : decode cX7_pass 75 = .ok (.getfield 29, 3) := by decide +kernel
theorem dX7_pass_78 : decode cX7_pass 78 = .ok (.invokevirtual 153, 3) := by decide +kernel
theorem dX7_pass_81 : decode cX7_pass 81 = .ok (.ireturn, 1) := by decide +kernel
theorem dX7_swap_0 : decode cX7_swap 0 = .ok (.aload_n 0, 1) := by decide +kernel
theorem dX7_swap_1 : decode cX7_swap 1 = .ok (.iload_n 1, 1) := by decide +kernel
theorem dX7_swap_2 : decode cX7_swap 2 = .ok (.invokevirtual 116, 3) := by decide +kernel
theorem dX7_swap_5 : decode cX7_swap 5 = .ok (.ifCond .eq 16, 3) := by decide +kernel
theorem dX7_swap_8 : decode cX7_swap 8 = .ok (.aload_n 0, 1) := by decide +kernel
theorem dX7_swap_9 : decode cX7_swap 9 = .ok (.iload_n 2, 1) := by decide +kernel
theorem dX7_swap_10 : decode cX7_swap 10 = .ok (.invokevirtual 116, 3) := by decide +kernel
theorem dX7_swap_13 : decode cX7_swap 13 = .ok (.ifCond .eq 8, 3) := by decide +kernel
theorem dX7_swap_16 : decode cX7_swap 16 = .ok (.iload_n 1, 1) := by decide +kernel
theorem dX7_swap_17 : decode cX7_swap 17 = .ok (.iload_n 2, 1) := by decide +kernel
theorem dX7_swap_18 : decode cX7_swap 18 = .ok (.if_icmp .ne 5, 3) := by decide +kernel
theorem dX7_swap_21 : decode cX7_swap 21 = .ok (.iconst (-1), 1) := by decide +kernel
theorem dX7_swap_22 : decode cX7_swap 22 = .ok (.ireturn, 1) := by decide +kernel
theorem dX7_swap_23 : decode cX7_swap 23 = .ok (.aload_n 0, 1) := by decide +kernel
theorem dX7_swap_24 : decode cX7_swap 24 = .ok (.getfield 41, 3) := by decide +kernel
theorem dX7_swap_27 : decode cX7_swap 27 = .ok (.aload_n 0, 1) := by decide +kernel
theorem dX7_swap_28 : decode cX7_swap 28 = .ok (.getfield 29, 3) := by decide +kernel
theorem dX7_swap_31 : decode cX7_swap 31 = .ok (.invokevirtual 156, 3) := by decide +kernel
theorem dX7_swap_34 : decode cX7_swap 34 = .ok (.aload_n 0, 1) := by decide +kernel
theorem dX7_swap_35 : decode cX7_swap 35 = .ok (.getfield 29, 3) := by decide +kernel
theorem dX7_swap_38 : decode cX7_swap 38 = .ok (.iload_n 1, 1) := by decide +kernel
theorem dX7_swap_39 : decode cX7_swap 39 = .ok (.iload_n 2, 1) := by decide +kernel
theorem dX7_swap_40 : decode cX7_swap 40 = .ok (.invokevirtual 169, 3) := by decide +kernel
theorem dX7_swap_43 : decode cX7_swap 43 = .ok (.aload_n 0, 1) := by decide +kernel
theorem dX7_swap_44 : decode cX7_swap 44 = .ok (.getfield 29, 3) := by decide +kernel
theorem dX7_swap_47 : decode cX7_swap 47 = .ok (.iload_n 1, 1) := by decide +kernel
theorem dX7_swap_48 : decode cX7_swap 48 = .ok (.invokevirtual 130, 3) := by decide +kernel
theorem dX7_swap_51 : decode cX7_swap 51 = .ok (.ireturn, 1) := by decide +kernel
theorem dX7_alter_0 : decode cX7_alter 0 = .ok (.aload_n 0, 1) := by decide +kernel
theorem dX7_alter_1 : decode cX7_alter 1 = .ok (.iload_n 1, 1) := by decide +kernel
theorem dX7_alter_2 : decode cX7_alter 2 = .ok (.invokevirtual 116, 3) := by decide +kernel
theorem dX7_alter_5 : decode cX7_alter 5 = .ok (.ifCond .eq 13, 3) := by decide +kernel
theorem dX7_alter_8 : decode cX7_alter 8 = .ok (.iload_n 2, 1) := by decide +kernel
theorem dX7_alter_9 : decode cX7_alter 9 = .ok (.iconst 0, 1) := by decide +kernel
theorem dX7_alter_10 : decode cX7_alter 10 = .ok (.bipush 59, 2) := by decide +kernel
theorem dX7_alter_12 : decode cX7_alter 12 = .ok (.invokestatic 99, 3) := by decide +kernel
theorem dX7_alter_15 : decode cX7_alter 15 = .ok (.ifCond .ne 5, 3) := by decide +kernel
theorem dX7_alter_18 : decode cX7_alter 18 = .ok (.iconst (-1), 1) := by decide +kernel
theorem dX7_alter_19 : decode cX7_alter 19 = .ok (.ireturn, 1) := by decide +kernel
theorem dX7_alter_20 : decode cX7_alter 20 = .ok (.aload_n 0, 1) := by decide +kernel
theorem dX7_alter_21 : decode cX7_alter 21 = .ok (.getfield 29, 3) := by decide +kernel
theorem dX7_alter_24 : decode cX7_alter 24 = .ok (.iload_n 1, 1) := by decide +kernel
theorem dX7_alter_25 : decode cX7_alter 25 = .ok (.invokevirtual 124, 3) := by decide +kernel
theorem dX7_alter_28 : decode cX7_alter 28 = .ok (.istore_n 3, 1) := by decide +kernel
theorem dX7_alter_29 : decode cX7_alter 29 = .ok (.aload_n 0, 1) := by decide +kernel
theorem dX7_alter_30 : decode cX7_alter 30 = .ok (.getfield 41, 3) := by decide +kernel
theorem dX7_alter_33 : decode cX7_alter 33 = .ok (.aload_n 0, 1) := by decide +kernel
theorem dX7_alter_34 : decode cX7_alter 34 = .ok (.getfield 29, 3) := by decide +kernel
theorem dX7_alter_37 : decode cX7_alter 37 = .ok (.invokevirtual 156, 3) := by decide +kernel
theorem dX7_alter_40 : decode cX7_alter 40 = .ok (.aload_n 0, 1) := by decide +kernel
theorem dX7_alter_41 : decode cX7_alter 41 = .ok (.getfield 29, 3) := by decide +kernel
theorem dX7_alter_44 : decode cX7_alter 44 = .ok (.iload_n 1, 1) := by decide +kernel
theorem dX7_alter_45 : decode cX7_alter 45 = .ok (.iload_n 2, 1) := by decide +kernel
theorem dX7_alter_46 : decode cX7_alter 46 = .ok (.invokevirtual 173, 3) := by decide +kernel
theorem dX7_alter_49 : decode cX7_alter 49 = .ok (.iload_n 3, 1) := by decide +kernel
theorem dX7_alter_50 : decode cX7_alter 50 = .ok (.ireturn, 1) := by decide +kernel
theorem dX7_undo_0 : decode cX7_undo 0 = .ok (.aload_n 0, 1) := by decide +kernel
theorem dX7_undo_1 : decode cX7_undo 1 = .ok (.getfield 41, 3) := by decide +kernel
theorem dX7_undo_4 : decode cX7_undo 4 = .ok (.aload_n 0, 1) := by decide +kernel
theorem dX7_undo_5 : decode cX7_undo 5 = .ok (.getfield 29, 3) := by decide +kernel
theorem dX7_undo_8 : decode cX7_undo 8 = .ok (.invokevirtual 176, 3) := by decide +kernel
theorem dX7_undo_11 : decode cX7_undo 11 = .ok (.ifCond .ne 6, 3) := by decide +kernel
theorem dX7_undo_14 : decode cX7_undo 14 = .ok (.bipush (-2), 2) := by decide +kernel
theorem dX7_undo_16 : decode cX7_undo 16 = .ok (.ireturn, 1) := by decide +kernel
theorem dX7_undo_17 : decode cX7_undo 17 = .ok (.aload_n 0, 1) := by decide +kernel
theorem dX7_undo_18 : decode cX7_undo 18 = .ok (.getfield 41, 3) := by decide +kernel
theorem dX7_undo_21 : decode cX7_undo 21 = .ok (.invokevirtual 180, 3) := by decide +kernel
theorem dX7_undo_24 : decode cX7_undo 24 = .ok (.ireturn, 1) := by decide +kernel
theorem dX7_has_0 : decode cX7_has 0 = .ok (.aload_n 0, 1) := by decide +kernel
theorem dX7_has_1 : decode cX7_has 1 = .ok (.iload_n 1, 1) := by decide +kernel
theorem dX7_has_2 : decode cX7_has 2 = .ok (.invokevirtual 116, 3) := by decide +kernel
theorem dX7_has_5 : decode cX7_has 5 = .ok (.ifCond .eq 13, 3) := by decide +kernel
theorem dX7_has_8 : decode cX7_has 8 = .ok (.iload_n 2, 1) := by decide +kernel
theorem dX7_has_9 : decode cX7_has 9 = .ok (.iconst 0, 1) := by decide +kernel
theorem dX7_has_10 : decode cX7_has 10 = .ok (.bipush 120, 2) := by decide +kernel
theorem dX7_has_12 : decode cX7_has 12 = .ok (.invokestatic 99, 3) := by decide +kernel
theorem dX7_has_15 : decode cX7_has 15 = .ok (.ifCond .ne 5, 3) := by decide +kernel
theorem dX7_has_18 : decode cX7_has 18 = .ok (.iconst (-1), 1) := by decide +kernel
theorem dX7_has_19 : decode cX7_has 19 = .ok (.ireturn, 1) := by decide +kernel
theorem dX7_has_20 : decode cX7_has 20 = .ok (.aload_n 0, 1) := by decide +kernel
theorem dX7_has_21 : decode cX7_has 21 = .ok (.getfield 60, 3) := by decide +kernel
theorem dX7_has_24 : decode cX7_has 24 = .ok (.aload_n 0, 1) := by decide +kernel
theorem dX7_has_25 : decode cX7_has 25 = .ok (.getfield 29, 3) := by decide +kernel
theorem dX7_has_28 : decode cX7_has 28 = .ok (.invokevirtual 133, 3) := by decide +kernel
theorem dX7_has_31 : decode cX7_has 31 = .ok (.aload_n 0, 1) := by decide +kernel
theorem dX7_has_32 : decode cX7_has 32 = .ok (.getfield 60, 3) := by decide +kernel
theorem dX7_has_35 : decode cX7_has 35 = .ok (.iload_n 2, 1) := by decide +kernel
theorem dX7_has_36 : decode cX7_has 36 = .ok (.iconst 1, 1) := by decide +kernel
theorem dX7_has_37 : decode cX7_has 37 = .ok (.iadd, 1) := by decide +kernel
theorem dX7_has_38 : decode cX7_has 38 = .ok (.invokevirtual 159, 3) := by decide +kernel
theorem dX7_has_41 : decode cX7_has 41 = .ok (.aload_n 0, 1) := by decide +kernel
theorem dX7_has_42 : decode cX7_has 42 = .ok (.getfield 60, 3) := by decide +kernel
theorem dX7_has_45 : decode cX7_has 45 = .ok (.invokevirtual 162, 3) := by decide +kernel
theorem dX7_has_48 : decode cX7_has 48 = .ok (.iload_n 1, 1) := by decide +kernel
theorem dX7_has_49 : decode cX7_has 49 = .ok (.invokevirtual 130, 3) := by decide +kernel
theorem dX7_has_52 : decode cX7_has 52 = .ok (.ireturn, 1) := by decide +kernel
theorem dX7_whose_0 : decode cX7_whose 0 = .ok (.aload_n 0, 1) := by decide +kernel
theorem dX7_whose_1 : decode cX7_whose 1 = .ok (.iload_n 1, 1) := by decide +kernel
theorem dX7_whose_2 : decode cX7_whose 2 = .ok (.invokevirtual 140, 3) := by decide +kernel
theorem dX7_whose_5 : decode cX7_whose 5 = .ok (.ifCond .eq 13, 3) := by decide +kernel
theorem dX7_whose_8 : decode cX7_whose 8 = .ok (.iload_n 2, 1) := by decide +kernel
theorem dX7_whose_9 : decode cX7_whose 9 = .ok (.iconst 0, 1) := by decide +kernel
theorem dX7_whose_10 : decode cX7_whose 10 = .ok (.bipush 120, 2) := by decide +kernel
theorem dX7_whose_12 : decode cX7_whose 12 = .ok (.invokestatic 99, 3) := by decide +kernel
theorem dX7_whose_15 : decode cX7_whose 15 = .ok (.ifCond .ne 5, 3) := by decide +kernel
theorem dX7_whose_18 : decode cX7_whose 18 = .ok (.iconst (-1), 1) := by decide +kernel
theorem dX7_whose_19 : decode cX7_whose 19 = .ok (.ireturn, 1) := by decide +kernel
theorem dX7_whose_20 : decode cX7_whose 20 = .ok (.aload_n 0, 1) := by decide +kernel
theorem dX7_whose_21 : decode cX7_whose 21 = .ok (.getfield 60, 3) := by decide +kernel
theorem dX7_whose_24 : decode cX7_whose 24 = .ok (.aload_n 0, 1) := by decide +kernel
theorem dX7_whose_25 : decode cX7_whose 25 = .ok (.getfield 29, 3) := by decide +kernel
theorem dX7_whose_28 : decode cX7_whose 28 = .ok (.invokevirtual 133, 3) := by decide +kernel
theorem dX7_whose_31 : decode cX7_whose 31 = .ok (.aload_n 0, 1) := by decide +kernel
theorem dX7_whose_32 : decode cX7_whose 32 = .ok (.getfield 60, 3) := by decide +kernel
theorem dX7_whose_35 : decode cX7_whose 35 = .ok (.iload_n 2, 1) := by decide +kernel
theorem dX7_whose_36 : decode cX7_whose 36 = .ok (.iconst 1, 1) := by decide +kernel
theorem dX7_whose_37 : decode cX7_whose 37 = .ok (.iadd, 1) := by decide +kernel
theorem dX7_whose_38 : decode cX7_whose 38 = .ok (.invokevirtual 159, 3) := by decide +kernel
theorem dX7_whose_41 : decode cX7_whose 41 = .ok (.aload_n 0, 1) := by decide +kernel
theorem dX7_whose_42 : decode cX7_whose 42 = .ok (.getfield 60, 3) := by decide +kernel
theorem dX7_whose_45 : decode cX7_whose 45 = .ok (.invokevirtual 162, 3) := by decide +kernel
theorem dX7_whose_48 : decode cX7_whose 48 = .ok (.iload_n 1, 1) := by decide +kernel
theorem dX7_whose_49 : decode cX7_whose 49 = .ok (.aload_n 0, 1) := by decide +kernel
theorem dX7_whose_50 : decode cX7_whose 50 = .ok (.getfield 19, 3) := by decide +kernel
theorem dX7_whose_53 : decode cX7_whose 53 = .ok (.invokevirtual 113, 3) := by decide +kernel
theorem dX7_whose_56 : decode cX7_whose 56 = .ok (.invokevirtual 149, 3) := by decide +kernel
theorem dX7_whose_59 : decode cX7_whose 59 = .ok (.ireturn, 1) := by decide +kernel
theorem dX7_sun_0 : decode cX7_sun 0 = .ok (.aload_n 0, 1) := by decide +kernel
theorem dX7_sun_1 : decode cX7_sun 1 = .ok (.iload_n 1, 1) := by decide +kernel
theorem dX7_sun_2 : decode cX7_sun 2 = .ok (.invokevirtual 116, 3) := by decide +kernel
theorem dX7_sun_5 : decode cX7_sun 5 = .ok (.ifCond .eq 13, 3) := by decide +kernel
theorem dX7_sun_8 : decode cX7_sun 8 = .ok (.iload_n 2, 1) := by decide +kernel
theorem dX7_sun_9 : decode cX7_sun 9 = .ok (.iconst 1, 1) := by decide +kernel
theorem dX7_sun_10 : decode cX7_sun 10 = .ok (.bipush 120, 2) := by decide +kernel
theorem dX7_sun_12 : decode cX7_sun 12 = .ok (.invokestatic 99, 3) := by decide +kernel
theorem dX7_sun_15 : decode cX7_sun 15 = .ok (.ifCond .ne 5, 3) := by decide +kernel
theorem dX7_sun_18 : decode cX7_sun 18 = .ok (.iconst (-1), 1) := by decide +kernel
theorem dX7_sun_19 : decode cX7_sun 19 = .ok (.ireturn, 1) := by decide +kernel
theorem dX7_sun_20 : decode cX7_sun 20 = .ok (.aload_n 0, 1) := by decide +kernel
theorem dX7_sun_21 : decode cX7_sun 21 = .ok (.getfield 60, 3) := by decide +kernel
theorem dX7_sun_24 : decode cX7_sun 24 = .ok (.aload_n 0, 1) := by decide +kernel
theorem dX7_sun_25 : decode cX7_sun 25 = .ok (.getfield 29, 3) := by decide +kernel
theorem dX7_sun_28 : decode cX7_sun 28 = .ok (.invokevirtual 133, 3) := by decide +kernel
theorem dX7_sun_31 : decode cX7_sun 31 = .ok (.aload_n 0, 1) := by decide +kernel
theorem dX7_sun_32 : decode cX7_sun 32 = .ok (.getfield 60, 3) := by decide +kernel
theorem dX7_sun_35 : decode cX7_sun 35 = .ok (.iload_n 2, 1) := by decide +kernel
theorem dX7_sun_36 : decode cX7_sun 36 = .ok (.invokevirtual 159, 3) := by decide +kernel
theorem dX7_sun_39 : decode cX7_sun 39 = .ok (.aload_n 0, 1) := by decide +kernel
theorem dX7_sun_40 : decode cX7_sun 40 = .ok (.getfield 60, 3) := by decide +kernel
theorem dX7_sun_43 : decode cX7_sun 43 = .ok (.iload_n 1, 1) := by decide +kernel
theorem dX7_sun_44 : decode cX7_sun 44 = .ok (.invokevirtual 181, 3) := by decide +kernel
theorem dX7_sun_47 : decode cX7_sun 47 = .ok (.ireturn, 1) := by decide +kernel
theorem dX7_cold_0 : decode cX7_cold 0 = .ok (.iload_n 1, 1) := by decide +kernel
theorem dX7_cold_1 : decode cX7_cold 1 = .ok (.iconst 0, 1) := by decide +kernel
theorem dX7_cold_2 : decode cX7_cold 2 = .ok (.bipush 120, 2) := by decide +kernel
theorem dX7_cold_4 : decode cX7_cold 4 = .ok (.invokestatic 99, 3) := by decide +kernel
theorem dX7_cold_7 : decode cX7_cold 7 = .ok (.ifCond .ne 5, 3) := by decide +kernel
theorem dX7_cold_10 : decode cX7_cold 10 = .ok (.iconst (-1), 1) := by decide +kernel
theorem dX7_cold_11 : decode cX7_cold 11 = .ok (.ireturn, 1) := by decide +kernel
theorem dX7_cold_12 : decode cX7_cold 12 = .ok (.aload_n 0, 1) := by decide +kernel
theorem dX7_cold_13 : decode cX7_cold 13 = .ok (.getfield 60, 3) := by decide +kernel
theorem dX7_cold_16 : decode cX7_cold 16 = .ok (.aload_n 0, 1) := by decide +kernel
theorem dX7_cold_17 : decode cX7_cold 17 = .ok (.getfield 29, 3) := by decide +kernel
theorem dX7_cold_20 : decode cX7_cold 20 = .ok (.invokevirtual 133, 3) := by decide +kernel
theorem dX7_cold_23 : decode cX7_cold 23 = .ok (.aload_n 0, 1) := by decide +kernel
theorem dX7_cold_24 : decode cX7_cold 24 = .ok (.getfield 60, 3) := by decide +kernel
theorem dX7_cold_27 : decode cX7_cold 27 = .ok (.iload_n 1, 1) := by decide +kernel
theorem dX7_cold_28 : decode cX7_cold 28 = .ok (.invokevirtual 184, 3) := by decide +kernel
theorem dX7_cold_31 : decode cX7_cold 31 = .ok (.aload_n 0, 1) := by decide +kernel
theorem dX7_cold_32 : decode cX7_cold 32 = .ok (.getfield 60, 3) := by decide +kernel
theorem dX7_cold_35 : decode cX7_cold 35 = .ok (.invokevirtual 187, 3) := by decide +kernel
theorem dX7_cold_38 : decode cX7_cold 38 = .ok (.ireturn, 1) := by decide +kernel
theorem dX7_want_0 : decode cX7_want 0 = .ok (.iload_n 1, 1) := by decide +kernel
theorem dX7_want_1 : decode cX7_want 1 = .ok (.iconst 1, 1) := by decide +kernel
theorem dX7_want_2 : decode cX7_want 2 = .ok (.bipush 120, 2) := by decide +kernel
theorem dX7_want_4 : decode cX7_want 4 = .ok (.invokestatic 99, 3) := by decide +kernel
theorem dX7_want_7 : decode cX7_want 7 = .ok (.ifCond .ne 5, 3) := by decide +kernel
theorem dX7_want_10 : decode cX7_want 10 = .ok (.iconst (-1), 1) := by decide +kernel
theorem dX7_want_11 : decode cX7_want 11 = .ok (.ireturn, 1) := by decide +kernel
theorem dX7_want_12 : decode cX7_want 12 = .ok (.aload_n 0, 1) := by decide +kernel
theorem dX7_want_13 : decode cX7_want 13 = .ok (.getfield 60, 3) := by decide +kernel
theorem dX7_want_16 : decode cX7_want 16 = .ok (.aload_n 0, 1) := by decide +kernel
theorem dX7_want_17 : decode cX7_want 17 = .ok (.getfield 29, 3) := by decide +kernel
theorem dX7_want_20 : decode cX7_want 20 = .ok (.invokevirtual 133, 3) := by decide +kernel
theorem dX7_want_23 : decode cX7_want 23 = .ok (.aload_n 0, 1) := by decide +kernel
theorem dX7_want_24 : decode cX7_want 24 = .ok (.getfield 60, 3) := by decide +kernel
theorem dX7_want_27 : decode cX7_want 27 = .ok (.iload_n 1, 1) := by decide +kernel
theorem dX7_want_28 : decode cX7_want 28 = .ok (.invokevirtual 159, 3) := by decide +kernel
theorem dX7_want_31 : decode cX7_want 31 = .ok (.aload_n 0, 1) := by decide +kernel
theorem dX7_want_32 : decode cX7_want 32 = .ok (.getfield 60, 3) := by decide +kernel
theorem dX7_want_35 : decode cX7_want 35 = .ok (.invokevirtual 190, 3) := by decide +kernel
theorem dX7_want_38 : decode cX7_want 38 = .ok (.ireturn, 1) := by decide +kernel
theorem dX7_swaps_0 : decode cX7_swaps 0 = .ok (.aload_n 0, 1) := by decide +kernel
theorem dX7_swaps_1 : decode cX7_swaps 1 = .ok (.iload_n 1, 1) := by decide +kernel
theorem dX7_swaps_2 : decode cX7_swaps 2 = .ok (.invokevirtual 116, 3) := by decide +kernel
theorem dX7_swaps_5 : decode cX7_swaps 5 = .ok (.ifCond .eq 22, 3) := by decide +kernel
theorem dX7_swaps_8 : decode cX7_swaps 8 = .ok (.iload_n 2, 1) := by decide +kernel
theorem dX7_swaps_9 : decode cX7_swaps 9 = .ok (.iconst 1, 1) := by decide +kernel
theorem dX7_swaps_10 : decode cX7_swaps 10 = .ok (.bipush 60, 2) := by decide +kernel
theorem dX7_swaps_12 : decode cX7_swaps 12 = .ok (.invokestatic 99, 3) := by decide +kernel
theorem dX7_swaps_15 : decode cX7_swaps 15 = .ok (.ifCond .eq 12, 3) := by decide +kernel
theorem dX7_swaps_18 : decode cX7_swaps 18 = .ok (.iload_n 3, 1) := by decide +kernel
theorem dX7_swaps_19 : decode cX7_swaps 19 = .ok (.iconst 0, 1) := by decide +kernel
theorem dX7_swaps_20 : decode cX7_swaps 20 = .ok (.iconst 2, 1) := by decide +kernel
theorem dX7_swaps_21 : decode cX7_swaps 21 = .ok (.invokestatic 99, 3) := by decide +kernel
theorem dX7_swaps_24 : decode cX7_swaps 24 = .ok (.ifCond .ne 5, 3) := by decide +kernel
theorem dX7_swaps_27 : decode cX7_swaps 27 = .ok (.iconst (-1), 1) := by decide +kernel
theorem dX7_swaps_28 : decode cX7_swaps 28 = .ok (.ireturn, 1) := by decide +kernel
theorem dX7_swaps_29 : decode cX7_swaps 29 = .ok (.aload_n 0, 1) := by decide +kernel
theorem dX7_swaps_30 : decode cX7_swaps 30 = .ok (.getfield 69, 3) := by decide +kernel
theorem dX7_swaps_33 : decode cX7_swaps 33 = .ok (.aload_n 0, 1) := by decide +kernel
theorem dX7_swaps_34 : decode cX7_swaps 34 = .ok (.getfield 29, 3) := by decide +kernel
theorem dX7_swaps_37 : decode cX7_swaps 37 = .ok (.iload_n 1, 1) := by decide +kernel
theorem dX7_swaps_38 : decode cX7_swaps 38 = .ok (.iload_n 2, 1) := by decide +kernel
theorem dX7_swaps_39 : decode cX7_swaps 39 = .ok (.invokevirtual 193, 3) := by decide +kernel
theorem dX7_swaps_42 : decode cX7_swaps 42 = .ok (.iload_n 3, 1) := by decide +kernel
theorem dX7_swaps_43 : decode cX7_swaps 43 = .ok (.lookupswitch 41 #[(0, 25), (1, 33)], 25) := by decide +kernel
theorem dX7_swaps_68 : decode cX7_swaps 68 = .ok (.aload_n 0, 1) := by decide +kernel
theorem dX7_swaps_69 : decode cX7_swaps 69 = .ok (.getfield 69, 3) := by decide +kernel
theorem dX7_swaps_72 : decode cX7_swaps 72 = .ok (.invokevirtual 197, 3) := by decide +kernel
theorem dX7_swaps_75 : decode cX7_swaps 75 = .ok (.ireturn, 1) := by decide +kernel
theorem dX7_swaps_76 : decode cX7_swaps 76 = .ok (.aload_n 0, 1) := by decide +kernel
theorem dX7_swaps_77 : decode cX7_swaps 77 = .ok (.getfield 69, 3) := by decide +kernel
theorem dX7_swaps_80 : decode cX7_swaps 80 = .ok (.invokevirtual 200, 3) := by decide +kernel
theorem dX7_swaps_83 : decode cX7_swaps 83 = .ok (.ireturn, 1) := by decide +kernel
theorem dX7_swaps_84 : decode cX7_swaps 84 = .ok (.aload_n 0, 1) := by decide +kernel
theorem dX7_swaps_85 : decode cX7_swaps 85 = .ok (.getfield 69, 3) := by decide +kernel
theorem dX7_swaps_88 : decode cX7_swaps 88 = .ok (.invokevirtual 203, 3) := by decide +kernel
theorem dX7_swaps_91 : decode cX7_swaps 91 = .ok (.ireturn, 1) := by decide +kernel
theorem dX7_warm_0 : decode cX7_warm 0 = .ok (.iload_n 1, 1) := by decide +kernel
theorem dX7_warm_1 : decode cX7_warm 1 = .ok (.iconst 1, 1) := by decide +kernel
theorem dX7_warm_2 : decode cX7_warm 2 = .ok (.bipush 60, 2) := by decide +kernel
theorem dX7_warm_4 : decode cX7_warm 4 = .ok (.invokestatic 99, 3) := by decide +kernel
theorem dX7_warm_7 : decode cX7_warm 7 = .ok (.ifCond .eq 12, 3) := by decide +kernel
theorem dX7_warm_10 : decode cX7_warm 10 = .ok (.iload_n 2, 1) := by decide +kernel
theorem dX7_warm_11 : decode cX7_warm 11 = .ok (.iconst 0, 1) := by decide +kernel
theorem dX7_warm_12 : decode cX7_warm 12 = .ok (.iconst 1, 1) := by decide +kernel
theorem dX7_warm_13 : decode cX7_warm 13 = .ok (.invokestatic 99, 3) := by decide +kernel
theorem dX7_warm_16 : decode cX7_warm 16 = .ok (.ifCond .ne 5, 3) := by decide +kernel
theorem dX7_warm_19 : decode cX7_warm 19 = .ok (.iconst (-1), 1) := by decide +kernel
theorem dX7_warm_20 : decode cX7_warm 20 = .ok (.ireturn, 1) := by decide +kernel
theorem dX7_warm_21 : decode cX7_warm 21 = .ok (.aload_n 0, 1) := by decide +kernel
theorem dX7_warm_22 : decode cX7_warm 22 = .ok (.getfield 69, 3) := by decide +kernel
theorem dX7_warm_25 : decode cX7_warm 25 = .ok (.aload_n 0, 1) := by decide +kernel
theorem dX7_warm_26 : decode cX7_warm 26 = .ok (.getfield 29, 3) := by decide +kernel
theorem dX7_warm_29 : decode cX7_warm 29 = .ok (.iload_n 1, 1) := by decide +kernel
theorem dX7_warm_30 : decode cX7_warm 30 = .ok (.invokevirtual 206, 3) := by decide +kernel
theorem dX7_warm_33 : decode cX7_warm 33 = .ok (.iload_n 2, 1) := by decide +kernel
theorem dX7_warm_34 : decode cX7_warm 34 = .ok (.ifCond .ne 13, 3) := by decide +kernel
theorem dX7_warm_37 : decode cX7_warm 37 = .ok (.aload_n 0, 1) := by decide +kernel
theorem dX7_warm_38 : decode cX7_warm 38 = .ok (.getfield 69, 3) := by decide +kernel
theorem dX7_warm_41 : decode cX7_warm 41 = .ok (.invokevirtual 197, 3) := by decide +kernel
theorem dX7_warm_44 : decode cX7_warm 44 = .ok (.goto 10, 3) := by decide +kernel
theorem dX7_warm_47 : decode cX7_warm 47 = .ok (.aload_n 0, 1) := by decide +kernel
theorem dX7_warm_48 : decode cX7_warm 48 = .ok (.getfield 69, 3) := by decide +kernel
theorem dX7_warm_51 : decode cX7_warm 51 = .ok (.invokevirtual 200, 3) := by decide +kernel
theorem dX7_warm_54 : decode cX7_warm 54 = .ok (.ireturn, 1) := by decide +kernel
theorem dX7_canHave_0 : decode cX7_canHave 0 = .ok (.aload_n 0, 1) := by decide +kernel
theorem dX7_canHave_1 : decode cX7_canHave 1 = .ok (.iload_n 1, 1) := by decide +kernel
theorem dX7_canHave_2 : decode cX7_canHave 2 = .ok (.invokevirtual 140, 3) := by decide +kernel
theorem dX7_canHave_5 : decode cX7_canHave 5 = .ok (.ifCond .eq 13, 3) := by decide +kernel
theorem dX7_canHave_8 : decode cX7_canHave 8 = .ok (.iload_n 2, 1) := by decide +kernel
theorem dX7_canHave_9 : decode cX7_canHave 9 = .ok (.iconst 0, 1) := by decide +kernel
theorem dX7_canHave_10 : decode cX7_canHave 10 = .ok (.bipush 120, 2) := by decide +kernel
end
section
theorem dX7_canHave_12 : decode cX7_canHave 12 = .ok (.invokestatic 99, 3) := by decide +kernel
theorem dX7_canHave_15 : decode cX7_canHave 15 = .ok (.ifCond .ne 5, 3) := by decide +kernel
theorem dX7_canHave_18 : decode cX7_canHave 18 = .ok (.iconst (-1), 1) := by decide +kernel
theorem dX7_canHave_19 : decode cX7_canHave 19 = .ok (.ireturn, 1) := by decide +kernel
theorem dX7_canHave_20 : decode cX7_canHave 20 = .ok (.aload_n 0, 1) := by decide +kernel
theorem dX7_canHave_21 : decode cX7_canHave 21 = .ok (.getfield 69, 3) := by decide +kernel
theorem dX7_canHave_24 : decode cX7_canHave 24 = .ok (.aload_n 0, 1) := by decide +kernel
theorem dX7_canHave_25 : decode cX7_canHave 25 = .ok (.getfield 29, 3) := by decide +kernel
theorem dX7_canHave_28 : decode cX7_canHave 28 = .ok (.iload_n 1, 1) := by decide +kernel
theorem dX7_canHave_29 : decode cX7_canHave 29 = .ok (.iload_n 2, 1) := by decide +kernel
theorem dX7_canHave_30 : decode cX7_canHave 30 = .ok (.invokevirtual 210, 3) := by decide +kernel
theorem dX7_canHave_33 : decode cX7_canHave 33 = .ok (.ireturn, 1) := by decide +kernel
theorem dX7_round_0 : decode cX7_round 0 = .ok (.sipush 240, 3) := by decide +kernel
theorem dX7_round_3 : decode cX7_round 3 = .ok (.istore_n 1, 1) := by decide +kernel
theorem dX7_round_4 : decode cX7_round 4 = .ok (.aload_n 0, 1) := by decide +kernel
theorem dX7_round_5 : decode cX7_round 5 = .ok (.getfield 60, 3) := by decide +kernel
theorem dX7_round_8 : decode cX7_round 8 = .ok (.aload_n 0, 1) := by decide +kernel
theorem dX7_round_9 : decode cX7_round 9 = .ok (.getfield 29, 3) := by decide +kernel
theorem dX7_round_12 : decode cX7_round 12 = .ok (.invokevirtual 133, 3) := by decide +kernel
theorem dX7_round_15 : decode cX7_round 15 = .ok (.iload_n 1, 1) := by decide +kernel
theorem dX7_round_16 : decode cX7_round 16 = .ok (.istore_n 2, 1) := by decide +kernel
theorem dX7_round_17 : decode cX7_round 17 = .ok (.iload_n 2, 1) := by decide +kernel
theorem dX7_round_18 : decode cX7_round 18 = .ok (.iconst 4, 1) := by decide +kernel
theorem dX7_round_19 : decode cX7_round 19 = .ok (.iload_n 1, 1) := by decide +kernel
theorem dX7_round_20 : decode cX7_round 20 = .ok (.imul, 1) := by decide +kernel
theorem dX7_round_21 : decode cX7_round 21 = .ok (.if_icmp .gt 44, 3) := by decide +kernel
theorem dX7_round_24 : decode cX7_round 24 = .ok (.aload_n 0, 1) := by decide +kernel
theorem dX7_round_25 : decode cX7_round 25 = .ok (.getfield 60, 3) := by decide +kernel
theorem dX7_round_28 : decode cX7_round 28 = .ok (.iload_n 1, 1) := by decide +kernel
theorem dX7_round_29 : decode cX7_round 29 = .ok (.invokevirtual 159, 3) := by decide +kernel
theorem dX7_round_32 : decode cX7_round 32 = .ok (.aload_n 0, 1) := by decide +kernel
theorem dX7_round_33 : decode cX7_round 33 = .ok (.getfield 60, 3) := by decide +kernel
theorem dX7_round_36 : decode cX7_round 36 = .ok (.invokevirtual 162, 3) := by decide +kernel
theorem dX7_round_39 : decode cX7_round 39 = .ok (.aload_n 0, 1) := by decide +kernel
theorem dX7_round_40 : decode cX7_round 40 = .ok (.getfield 29, 3) := by decide +kernel
theorem dX7_round_43 : decode cX7_round 43 = .ok (.aload_n 0, 1) := by decide +kernel
theorem dX7_round_44 : decode cX7_round 44 = .ok (.getfield 19, 3) := by decide +kernel
theorem dX7_round_47 : decode cX7_round 47 = .ok (.invokevirtual 113, 3) := by decide +kernel
theorem dX7_round_50 : decode cX7_round 50 = .ok (.invokevirtual 214, 3) := by decide +kernel
theorem dX7_round_53 : decode cX7_round 53 = .ok (.ifCond .eq 5, 3) := by decide +kernel
theorem dX7_round_56 : decode cX7_round 56 = .ok (.iload_n 2, 1) := by decide +kernel
theorem dX7_round_57 : decode cX7_round 57 = .ok (.ireturn, 1) := by decide +kernel
theorem dX7_round_58 : decode cX7_round 58 = .ok (.iload_n 2, 1) := by decide +kernel
theorem dX7_round_59 : decode cX7_round 59 = .ok (.iload_n 1, 1) := by decide +kernel
theorem dX7_round_60 : decode cX7_round 60 = .ok (.iadd, 1) := by decide +kernel
theorem dX7_round_61 : decode cX7_round 61 = .ok (.istore_n 2, 1) := by decide +kernel
theorem dX7_round_62 : decode cX7_round 62 = .ok (.goto (-45), 3) := by decide +kernel
theorem dX7_round_65 : decode cX7_round 65 = .ok (.bipush (-4), 2) := by decide +kernel
theorem dX7_round_67 : decode cX7_round 67 = .ok (.ireturn, 1) := by decide +kernel
theorem dX7_way_0 : decode cX7_way 0 = .ok (.aload_n 0, 1) := by decide +kernel
theorem dX7_way_1 : decode cX7_way 1 = .ok (.iload_n 1, 1) := by decide +kernel
theorem dX7_way_2 : decode cX7_way 2 = .ok (.invokevirtual 116, 3) := by decide +kernel
theorem dX7_way_5 : decode cX7_way 5 = .ok (.ifCond .eq 20, 3) := by decide +kernel
theorem dX7_way_8 : decode cX7_way 8 = .ok (.aload_n 0, 1) := by decide +kernel
theorem dX7_way_9 : decode cX7_way 9 = .ok (.iload_n 2, 1) := by decide +kernel
theorem dX7_way_10 : decode cX7_way 10 = .ok (.invokevirtual 140, 3) := by decide +kernel
theorem dX7_way_13 : decode cX7_way 13 = .ok (.ifCond .eq 12, 3) := by decide +kernel
theorem dX7_way_16 : decode cX7_way 16 = .ok (.iload_n 3, 1) := by decide +kernel
theorem dX7_way_17 : decode cX7_way 17 = .ok (.iconst 0, 1) := by decide +kernel
theorem dX7_way_18 : decode cX7_way 18 = .ok (.iconst 1, 1) := by decide +kernel
theorem dX7_way_19 : decode cX7_way 19 = .ok (.invokestatic 99, 3) := by decide +kernel
theorem dX7_way_22 : decode cX7_way 22 = .ok (.ifCond .ne 5, 3) := by decide +kernel
theorem dX7_way_25 : decode cX7_way 25 = .ok (.iconst (-1), 1) := by decide +kernel
theorem dX7_way_26 : decode cX7_way 26 = .ok (.ireturn, 1) := by decide +kernel
theorem dX7_way_27 : decode cX7_way 27 = .ok (.aload_n 0, 1) := by decide +kernel
theorem dX7_way_28 : decode cX7_way 28 = .ok (.aload_n 0, 1) := by decide +kernel
theorem dX7_way_29 : decode cX7_way 29 = .ok (.getfield 29, 3) := by decide +kernel
theorem dX7_way_32 : decode cX7_way 32 = .ok (.iload_n 1, 1) := by decide +kernel
theorem dX7_way_33 : decode cX7_way 33 = .ok (.invokevirtual 130, 3) := by decide +kernel
theorem dX7_way_36 : decode cX7_way 36 = .ok (.iload_n 2, 1) := by decide +kernel
theorem dX7_way_37 : decode cX7_way 37 = .ok (.invokevirtual 218, 3) := by decide +kernel
theorem dX7_way_40 : decode cX7_way 40 = .ok (.istore 4, 2) := by decide +kernel
theorem dX7_way_42 : decode cX7_way 42 = .ok (.aload_n 0, 1) := by decide +kernel
theorem dX7_way_43 : decode cX7_way 43 = .ok (.iload_n 2, 1) := by decide +kernel
theorem dX7_way_44 : decode cX7_way 44 = .ok (.aload_n 0, 1) := by decide +kernel
theorem dX7_way_45 : decode cX7_way 45 = .ok (.getfield 29, 3) := by decide +kernel
theorem dX7_way_48 : decode cX7_way 48 = .ok (.iload_n 1, 1) := by decide +kernel
theorem dX7_way_49 : decode cX7_way 49 = .ok (.invokevirtual 130, 3) := by decide +kernel
theorem dX7_way_52 : decode cX7_way 52 = .ok (.invokevirtual 218, 3) := by decide +kernel
theorem dX7_way_55 : decode cX7_way 55 = .ok (.istore 5, 2) := by decide +kernel
theorem dX7_way_57 : decode cX7_way 57 = .ok (.iload_n 3, 1) := by decide +kernel
theorem dX7_way_58 : decode cX7_way 58 = .ok (.ifCond .ne 11, 3) := by decide +kernel
theorem dX7_way_61 : decode cX7_way 61 = .ok (.iload 4, 2) := by decide +kernel
theorem dX7_way_63 : decode cX7_way 63 = .ok (.iload 5, 2) := by decide +kernel
theorem dX7_way_65 : decode cX7_way 65 = .ok (.invokestatic 221, 3) := by decide +kernel
theorem dX7_way_68 : decode cX7_way 68 = .ok (.ireturn, 1) := by decide +kernel
theorem dX7_way_69 : decode cX7_way 69 = .ok (.iload 5, 2) := by decide +kernel
theorem dX7_way_71 : decode cX7_way 71 = .ok (.iload 4, 2) := by decide +kernel
theorem dX7_way_73 : decode cX7_way 73 = .ok (.if_icmp .ge 7, 3) := by decide +kernel
theorem dX7_way_76 : decode cX7_way 76 = .ok (.iconst 1, 1) := by decide +kernel
theorem dX7_way_77 : decode cX7_way 77 = .ok (.goto 4, 3) := by decide +kernel
theorem dX7_way_80 : decode cX7_way 80 = .ok (.iconst 0, 1) := by decide +kernel
theorem dX7_way_81 : decode cX7_way 81 = .ok (.ireturn, 1) := by decide +kernel
theorem dX7_seen_0 : decode cX7_seen 0 = .ok (.aload_n 0, 1) := by decide +kernel
theorem dX7_seen_1 : decode cX7_seen 1 = .ok (.iload_n 1, 1) := by decide +kernel
theorem dX7_seen_2 : decode cX7_seen 2 = .ok (.invokevirtual 116, 3) := by decide +kernel
theorem dX7_seen_5 : decode cX7_seen 5 = .ok (.ifCond .eq 21, 3) := by decide +kernel
theorem dX7_seen_8 : decode cX7_seen 8 = .ok (.aload_n 0, 1) := by decide +kernel
theorem dX7_seen_9 : decode cX7_seen 9 = .ok (.iload_n 2, 1) := by decide +kernel
theorem dX7_seen_10 : decode cX7_seen 10 = .ok (.invokevirtual 140, 3) := by decide +kernel
theorem dX7_seen_13 : decode cX7_seen 13 = .ok (.ifCond .eq 13, 3) := by decide +kernel
theorem dX7_seen_16 : decode cX7_seen 16 = .ok (.iload_n 3, 1) := by decide +kernel
theorem dX7_seen_17 : decode cX7_seen 17 = .ok (.iconst 0, 1) := by decide +kernel
theorem dX7_seen_18 : decode cX7_seen 18 = .ok (.bipush 120, 2) := by decide +kernel
theorem dX7_seen_20 : decode cX7_seen 20 = .ok (.invokestatic 99, 3) := by decide +kernel
theorem dX7_seen_23 : decode cX7_seen 23 = .ok (.ifCond .ne 5, 3) := by decide +kernel
theorem dX7_seen_26 : decode cX7_seen 26 = .ok (.iconst (-1), 1) := by decide +kernel
theorem dX7_seen_27 : decode cX7_seen 27 = .ok (.ireturn, 1) := by decide +kernel
theorem dX7_seen_28 : decode cX7_seen 28 = .ok (.aload_n 0, 1) := by decide +kernel
theorem dX7_seen_29 : decode cX7_seen 29 = .ok (.getfield 51, 3) := by decide +kernel
theorem dX7_seen_32 : decode cX7_seen 32 = .ok (.invokevirtual 226, 3) := by decide +kernel
theorem dX7_seen_35 : decode cX7_seen 35 = .ok (.ifCond .eq 6, 3) := by decide +kernel
theorem dX7_seen_38 : decode cX7_seen 38 = .ok (.bipush (-3), 2) := by decide +kernel
theorem dX7_seen_40 : decode cX7_seen 40 = .ok (.ireturn, 1) := by decide +kernel
theorem dX7_seen_41 : decode cX7_seen 41 = .ok (.aload_n 0, 1) := by decide +kernel
theorem dX7_seen_42 : decode cX7_seen 42 = .ok (.getfield 51, 3) := by decide +kernel
theorem dX7_seen_45 : decode cX7_seen 45 = .ok (.iload_n 1, 1) := by decide +kernel
theorem dX7_seen_46 : decode cX7_seen 46 = .ok (.iload_n 2, 1) := by decide +kernel
theorem dX7_seen_47 : decode cX7_seen 47 = .ok (.iload_n 3, 1) := by decide +kernel
theorem dX7_seen_48 : decode cX7_seen 48 = .ok (.invokevirtual 227, 3) := by decide +kernel
theorem dX7_seen_51 : decode cX7_seen 51 = .ok (.aload_n 0, 1) := by decide +kernel
theorem dX7_seen_52 : decode cX7_seen 52 = .ok (.getfield 51, 3) := by decide +kernel
theorem dX7_seen_55 : decode cX7_seen 55 = .ok (.invokevirtual 230, 3) := by decide +kernel
theorem dX7_seen_58 : decode cX7_seen 58 = .ok (.ireturn, 1) := by decide +kernel
theorem dX7_forget_0 : decode cX7_forget 0 = .ok (.aload_n 0, 1) := by decide +kernel
theorem dX7_forget_1 : decode cX7_forget 1 = .ok (.getfield 51, 3) := by decide +kernel
theorem dX7_forget_4 : decode cX7_forget 4 = .ok (.invokevirtual 230, 3) := by decide +kernel
theorem dX7_forget_7 : decode cX7_forget 7 = .ok (.istore_n 1, 1) := by decide +kernel
theorem dX7_forget_8 : decode cX7_forget 8 = .ok (.aload_n 0, 1) := by decide +kernel
theorem dX7_forget_9 : decode cX7_forget 9 = .ok (.getfield 51, 3) := by decide +kernel
theorem dX7_forget_12 : decode cX7_forget 12 = .ok (.invokevirtual 231, 3) := by decide +kernel
theorem dX7_forget_15 : decode cX7_forget 15 = .ok (.iload_n 1, 1) := by decide +kernel
theorem dX7_forget_16 : decode cX7_forget 16 = .ok (.ireturn, 1) := by decide +kernel
theorem dX7_register_0 : decode cX7_register 0 = .ok (.aload_n 0, 1) := by decide +kernel
theorem dX7_register_1 : decode cX7_register 1 = .ok (.iload_n 1, 1) := by decide +kernel
theorem dX7_register_2 : decode cX7_register 2 = .ok (.invokevirtual 116, 3) := by decide +kernel
theorem dX7_register_5 : decode cX7_register 5 = .ok (.ifCond .eq 12, 3) := by decide +kernel
theorem dX7_register_8 : decode cX7_register 8 = .ok (.iload_n 2, 1) := by decide +kernel
theorem dX7_register_9 : decode cX7_register 9 = .ok (.iconst 0, 1) := by decide +kernel
theorem dX7_register_10 : decode cX7_register 10 = .ok (.iconst 1, 1) := by decide +kernel
theorem dX7_register_11 : decode cX7_register 11 = .ok (.invokestatic 99, 3) := by decide +kernel
theorem dX7_register_14 : decode cX7_register 14 = .ok (.ifCond .ne 5, 3) := by decide +kernel
theorem dX7_register_17 : decode cX7_register 17 = .ok (.iconst (-1), 1) := by decide +kernel
theorem dX7_register_18 : decode cX7_register 18 = .ok (.ireturn, 1) := by decide +kernel
theorem dX7_register_19 : decode cX7_register 19 = .ok (.iconst 0, 1) := by decide +kernel
theorem dX7_register_20 : decode cX7_register 20 = .ok (.istore_n 3, 1) := by decide +kernel
theorem dX7_register_21 : decode cX7_register 21 = .ok (.bipush (-4), 2) := by decide +kernel
theorem dX7_register_23 : decode cX7_register 23 = .ok (.istore 4, 2) := by decide +kernel
theorem dX7_register_25 : decode cX7_register 25 = .ok (.iconst 0, 1) := by decide +kernel
theorem dX7_register_26 : decode cX7_register 26 = .ok (.istore 5, 2) := by decide +kernel
theorem dX7_register_28 : decode cX7_register 28 = .ok (.iload 5, 2) := by decide +kernel
theorem dX7_register_30 : decode cX7_register 30 = .ok (.bipush 59, 2) := by decide +kernel
theorem dX7_register_32 : decode cX7_register 32 = .ok (.if_icmp .gt 56, 3) := by decide +kernel
theorem dX7_register_35 : decode cX7_register 35 = .ok (.aload_n 0, 1) := by decide +kernel
theorem dX7_register_36 : decode cX7_register 36 = .ok (.getfield 60, 3) := by decide +kernel
theorem dX7_register_39 : decode cX7_register 39 = .ok (.aload_n 0, 1) := by decide +kernel
theorem dX7_register_40 : decode cX7_register 40 = .ok (.getfield 33, 3) := by decide +kernel
theorem dX7_register_43 : decode cX7_register 43 = .ok (.iload_n 1, 1) := by decide +kernel
theorem dX7_register_44 : decode cX7_register 44 = .ok (.iload 5, 2) := by decide +kernel
theorem dX7_register_46 : decode cX7_register 46 = .ok (.invokevirtual 232, 3) := by decide +kernel
theorem dX7_register_49 : decode cX7_register 49 = .ok (.aload_n 0, 1) := by decide +kernel
theorem dX7_register_50 : decode cX7_register 50 = .ok (.getfield 51, 3) := by decide +kernel
theorem dX7_register_53 : decode cX7_register 53 = .ok (.aload_n 0, 1) := by decide +kernel
theorem dX7_register_54 : decode cX7_register 54 = .ok (.getfield 60, 3) := by decide +kernel
theorem dX7_register_57 : decode cX7_register 57 = .ok (.invokevirtual 235, 3) := by decide +kernel
theorem dX7_register_60 : decode cX7_register 60 = .ok (.ifCond .eq 22, 3) := by decide +kernel
theorem dX7_register_63 : decode cX7_register 63 = .ok (.iinc 3 1, 3) := by decide +kernel
theorem dX7_register_66 : decode cX7_register 66 = .ok (.iload 4, 2) := by decide +kernel
theorem dX7_register_68 : decode cX7_register 68 = .ok (.bipush (-4), 2) := by decide +kernel
theorem dX7_register_70 : decode cX7_register 70 = .ok (.if_icmp .ne 8, 3) := by decide +kernel
theorem dX7_register_73 : decode cX7_register 73 = .ok (.iload 5, 2) := by decide +kernel
theorem dX7_register_75 : decode cX7_register 75 = .ok (.goto 5, 3) := by decide +kernel
theorem dX7_register_78 : decode cX7_register 78 = .ok (.iload 4, 2) := by decide +kernel
theorem dX7_register_80 : decode cX7_register 80 = .ok (.istore 4, 2) := by decide +kernel
theorem dX7_register_82 : decode cX7_register 82 = .ok (.iinc 5 1, 3) := by decide +kernel
theorem dX7_register_85 : decode cX7_register 85 = .ok (.goto (-57), 3) := by decide +kernel
theorem dX7_register_88 : decode cX7_register 88 = .ok (.iload_n 2, 1) := by decide +kernel
theorem dX7_register_89 : decode cX7_register 89 = .ok (.ifCond .ne 7, 3) := by decide +kernel
theorem dX7_register_92 : decode cX7_register 92 = .ok (.iload_n 3, 1) := by decide +kernel
theorem dX7_register_93 : decode cX7_register 93 = .ok (.goto 5, 3) := by decide +kernel
theorem dX7_register_96 : decode cX7_register 96 = .ok (.iload 4, 2) := by decide +kernel
theorem dX7_register_98 : decode cX7_register 98 = .ok (.ireturn, 1) := by decide +kernel
theorem dX7_foundling_0 : decode cX7_foundling 0 = .ok (.aload_n 0, 1) := by decide +kernel
theorem dX7_foundling_1 : decode cX7_foundling 1 = .ok (.iload_n 1, 1) := by decide +kernel
theorem dX7_foundling_2 : decode cX7_foundling 2 = .ok (.invokevirtual 116, 3) := by decide +kernel
theorem dX7_foundling_5 : decode cX7_foundling 5 = .ok (.ifCond .eq 31, 3) := by decide +kernel
theorem dX7_foundling_8 : decode cX7_foundling 8 = .ok (.aload_n 0, 1) := by decide +kernel
theorem dX7_foundling_9 : decode cX7_foundling 9 = .ok (.iload_n 2, 1) := by decide +kernel
theorem dX7_foundling_10 : decode cX7_foundling 10 = .ok (.invokevirtual 140, 3) := by decide +kernel
theorem dX7_foundling_13 : decode cX7_foundling 13 = .ok (.ifCond .eq 23, 3) := by decide +kernel
theorem dX7_foundling_16 : decode cX7_foundling 16 = .ok (.iload_n 3, 1) := by decide +kernel
theorem dX7_foundling_17 : decode cX7_foundling 17 = .ok (.iconst 0, 1) := by decide +kernel
theorem dX7_foundling_18 : decode cX7_foundling 18 = .ok (.bipush 120, 2) := by decide +kernel
theorem dX7_foundling_20 : decode cX7_foundling 20 = .ok (.invokestatic 99, 3) := by decide +kernel
theorem dX7_foundling_23 : decode cX7_foundling 23 = .ok (.ifCond .eq 13, 3) := by decide +kernel
theorem dX7_foundling_26 : decode cX7_foundling 26 = .ok (.iload 4, 2) := by decide +kernel
theorem dX7_foundling_28 : decode cX7_foundling 28 = .ok (.iconst 0, 1) := by decide +kernel
theorem dX7_foundling_29 : decode cX7_foundling 29 = .ok (.iconst 1, 1) := by decide +kernel
theorem dX7_foundling_30 : decode cX7_foundling 30 = .ok (.invokestatic 99, 3) := by decide +kernel
theorem dX7_foundling_33 : decode cX7_foundling 33 = .ok (.ifCond .ne 5, 3) := by decide +kernel
theorem dX7_foundling_36 : decode cX7_foundling 36 = .ok (.iconst (-1), 1) := by decide +kernel
theorem dX7_foundling_37 : decode cX7_foundling 37 = .ok (.ireturn, 1) := by decide +kernel
theorem dX7_foundling_38 : decode cX7_foundling 38 = .ok (.iconst 0, 1) := by decide +kernel
theorem dX7_foundling_39 : decode cX7_foundling 39 = .ok (.istore 5, 2) := by decide +kernel
theorem dX7_foundling_41 : decode cX7_foundling 41 = .ok (.iconst 0, 1) := by decide +kernel
theorem dX7_foundling_42 : decode cX7_foundling 42 = .ok (.istore 6, 2) := by decide +kernel
theorem dX7_foundling_44 : decode cX7_foundling 44 = .ok (.iload 6, 2) := by decide +kernel
theorem dX7_foundling_46 : decode cX7_foundling 46 = .ok (.bipush 59, 2) := by decide +kernel
theorem dX7_foundling_48 : decode cX7_foundling 48 = .ok (.if_icmp .gt 51, 3) := by decide +kernel
theorem dX7_foundling_51 : decode cX7_foundling 51 = .ok (.aload_n 0, 1) := by decide +kernel
theorem dX7_foundling_52 : decode cX7_foundling 52 = .ok (.getfield 60, 3) := by decide +kernel
theorem dX7_foundling_55 : decode cX7_foundling 55 = .ok (.aload_n 0, 1) := by decide +kernel
theorem dX7_foundling_56 : decode cX7_foundling 56 = .ok (.getfield 29, 3) := by decide +kernel
theorem dX7_foundling_59 : decode cX7_foundling 59 = .ok (.iload_n 1, 1) := by decide +kernel
theorem dX7_foundling_60 : decode cX7_foundling 60 = .ok (.iload 6, 2) := by decide +kernel
theorem dX7_foundling_62 : decode cX7_foundling 62 = .ok (.invokevirtual 232, 3) := by decide +kernel
theorem dX7_foundling_65 : decode cX7_foundling 65 = .ok (.aload_n 0, 1) := by decide +kernel
theorem dX7_foundling_66 : decode cX7_foundling 66 = .ok (.getfield 60, 3) := by decide +kernel
theorem dX7_foundling_69 : decode cX7_foundling 69 = .ok (.iload_n 3, 1) := by decide +kernel
theorem dX7_foundling_70 : decode cX7_foundling 70 = .ok (.iconst 1, 1) := by decide +kernel
theorem dX7_foundling_71 : decode cX7_foundling 71 = .ok (.iadd, 1) := by decide +kernel
theorem dX7_foundling_72 : decode cX7_foundling 72 = .ok (.invokevirtual 159, 3) := by decide +kernel
theorem dX7_foundling_75 : decode cX7_foundling 75 = .ok (.aload_n 0, 1) := by decide +kernel
theorem dX7_foundling_76 : decode cX7_foundling 76 = .ok (.getfield 60, 3) := by decide +kernel
theorem dX7_foundling_79 : decode cX7_foundling 79 = .ok (.invokevirtual 162, 3) := by decide +kernel
theorem dX7_foundling_82 : decode cX7_foundling 82 = .ok (.iload_n 1, 1) := by decide +kernel
theorem dX7_foundling_83 : decode cX7_foundling 83 = .ok (.invokevirtual 130, 3) := by decide +kernel
theorem dX7_foundling_86 : decode cX7_foundling 86 = .ok (.iload_n 2, 1) := by decide +kernel
theorem dX7_foundling_87 : decode cX7_foundling 87 = .ok (.if_icmp .ne 6, 3) := by decide +kernel
theorem dX7_foundling_90 : decode cX7_foundling 90 = .ok (.iinc 5 1, 3) := by decide +kernel
theorem dX7_foundling_93 : decode cX7_foundling 93 = .ok (.iinc 6 1, 3) := by decide +kernel
theorem dX7_foundling_96 : decode cX7_foundling 96 = .ok (.goto (-52), 3) := by decide +kernel
theorem dX7_foundling_99 : decode cX7_foundling 99 = .ok (.bipush 60, 2) := by decide +kernel
theorem dX7_foundling_101 : decode cX7_foundling 101 = .ok (.iload 5, 2) := by decide +kernel
theorem dX7_foundling_103 : decode cX7_foundling 103 = .ok (.invokestatic 239, 3) := by decide +kernel
theorem dX7_foundling_106 : decode cX7_foundling 106 = .ok (.istore 6, 2) := by decide +kernel
theorem dX7_foundling_108 : decode cX7_foundling 108 = .ok (.iload 4, 2) := by decide +kernel
theorem dX7_foundling_110 : decode cX7_foundling 110 = .ok (.ifCond .ne 8, 3) := by decide +kernel
theorem dX7_foundling_113 : decode cX7_foundling 113 = .ok (.iload 5, 2) := by decide +kernel
theorem dX7_foundling_115 : decode cX7_foundling 115 = .ok (.goto 5, 3) := by decide +kernel
theorem dX7_foundling_118 : decode cX7_foundling 118 = .ok (.bipush 60, 2) := by decide +kernel
theorem dX7_foundling_120 : decode cX7_foundling 120 = .ok (.iload 6, 2) := by decide +kernel
theorem dX7_foundling_122 : decode cX7_foundling 122 = .ok (.idiv, 1) := by decide +kernel
theorem dX7_foundling_123 : decode cX7_foundling 123 = .ok (.ireturn, 1) := by decide +kernel
theorem dX7_loses_0 : decode cX7_loses 0 = .ok (.iload_n 1, 1) := by decide +kernel
theorem dX7_loses_1 : decode cX7_loses 1 = .ok (.iconst 0, 1) := by decide +kernel
theorem dX7_loses_2 : decode cX7_loses 2 = .ok (.iconst 1, 1) := by decide +kernel
theorem dX7_loses_3 : decode cX7_loses 3 = .ok (.invokestatic 99, 3) := by decide +kernel
theorem dX7_loses_6 : decode cX7_loses 6 = .ok (.ifCond .ne 5, 3) := by decide +kernel
theorem dX7_loses_9 : decode cX7_loses 9 = .ok (.iconst (-1), 1) := by decide +kernel
theorem dX7_loses_10 : decode cX7_loses 10 = .ok (.ireturn, 1) := by decide +kernel
theorem dX7_loses_11 : decode cX7_loses 11 = .ok (.aload_n 0, 1) := by decide +kernel
theorem dX7_loses_12 : decode cX7_loses 12 = .ok (.getfield 60, 3) := by decide +kernel
theorem dX7_loses_15 : decode cX7_loses 15 = .ok (.aload_n 0, 1) := by decide +kernel
theorem dX7_loses_16 : decode cX7_loses 16 = .ok (.getfield 29, 3) := by decide +kernel
theorem dX7_loses_19 : decode cX7_loses 19 = .ok (.invokevirtual 133, 3) := by decide +kernel
theorem dX7_loses_22 : decode cX7_loses 22 = .ok (.aload_n 0, 1) := by decide +kernel
theorem dX7_loses_23 : decode cX7_loses 23 = .ok (.getfield 60, 3) := by decide +kernel
theorem dX7_loses_26 : decode cX7_loses 26 = .ok (.bipush 60, 2) := by decide +kernel
theorem dX7_loses_28 : decode cX7_loses 28 = .ok (.invokevirtual 159, 3) := by decide +kernel
theorem dX7_loses_31 : decode cX7_loses 31 = .ok (.iconst 0, 1) := by decide +kernel
theorem dX7_loses_32 : decode cX7_loses 32 = .ok (.istore_n 2, 1) := by decide +kernel
theorem dX7_loses_33 : decode cX7_loses 33 = .ok (.iconst 1, 1) := by decide +kernel
theorem dX7_loses_34 : decode cX7_loses 34 = .ok (.istore_n 3, 1) := by decide +kernel
theorem dX7_loses_35 : decode cX7_loses 35 = .ok (.iload_n 3, 1) := by decide +kernel
theorem dX7_loses_36 : decode cX7_loses 36 = .ok (.aload_n 0, 1) := by decide +kernel
theorem dX7_loses_37 : decode cX7_loses 37 = .ok (.getfield 19, 3) := by decide +kernel
theorem dX7_loses_40 : decode cX7_loses 40 = .ok (.invokevirtual 113, 3) := by decide +kernel
theorem dX7_loses_43 : decode cX7_loses 43 = .ok (.if_icmp .ge 30, 3) := by decide +kernel
theorem dX7_loses_46 : decode cX7_loses 46 = .ok (.aload_n 0, 1) := by decide +kernel
theorem dX7_loses_47 : decode cX7_loses 47 = .ok (.getfield 60, 3) := by decide +kernel
theorem dX7_loses_50 : decode cX7_loses 50 = .ok (.iload_n 3, 1) := by decide +kernel
theorem dX7_loses_51 : decode cX7_loses 51 = .ok (.invokevirtual 181, 3) := by decide +kernel
theorem dX7_loses_54 : decode cX7_loses 54 = .ok (.aload_n 0, 1) := by decide +kernel
theorem dX7_loses_55 : decode cX7_loses 55 = .ok (.getfield 60, 3) := by decide +kernel
theorem dX7_loses_58 : decode cX7_loses 58 = .ok (.iload_n 2, 1) := by decide +kernel
theorem dX7_loses_59 : decode cX7_loses 59 = .ok (.invokevirtual 181, 3) := by decide +kernel
theorem dX7_loses_62 : decode cX7_loses 62 = .ok (.if_icmp .ge 5, 3) := by decide +kernel
theorem dX7_loses_65 : decode cX7_loses 65 = .ok (.iload_n 3, 1) := by decide +kernel
theorem dX7_loses_66 : decode cX7_loses 66 = .ok (.istore_n 2, 1) := by decide +kernel
theorem dX7_loses_67 : decode cX7_loses 67 = .ok (.iinc 3 1, 3) := by decide +kernel
theorem dX7_loses_70 : decode cX7_loses 70 = .ok (.goto (-35), 3) := by decide +kernel
theorem dX7_loses_73 : decode cX7_loses 73 = .ok (.iload_n 1, 1) := by decide +kernel
theorem dX7_loses_74 : decode cX7_loses 74 = .ok (.ifCond .ne 7, 3) := by decide +kernel
theorem dX7_loses_77 : decode cX7_loses 77 = .ok (.iload_n 2, 1) := by decide +kernel
theorem dX7_loses_78 : decode cX7_loses 78 = .ok (.goto 11, 3) := by decide +kernel
theorem dX7_loses_81 : decode cX7_loses 81 = .ok (.aload_n 0, 1) := by decide +kernel
theorem dX7_loses_82 : decode cX7_loses 82 = .ok (.getfield 60, 3) := by decide +kernel
theorem dX7_loses_85 : decode cX7_loses 85 = .ok (.iload_n 2, 1) := by decide +kernel
theorem dX7_loses_86 : decode cX7_loses 86 = .ok (.invokevirtual 181, 3) := by decide +kernel
theorem dX7_loses_89 : decode cX7_loses 89 = .ok (.ireturn, 1) := by decide +kernel
theorem dX7_next_0 : decode cX7_next 0 = .ok (.iload_n 1, 1) := by decide +kernel
theorem dX7_next_1 : decode cX7_next 1 = .ok (.iconst 0, 1) := by decide +kernel
theorem dX7_next_2 : decode cX7_next 2 = .ok (.iconst 1, 1) := by decide +kernel
theorem dX7_next_3 : decode cX7_next 3 = .ok (.invokestatic 99, 3) := by decide +kernel
theorem dX7_next_6 : decode cX7_next 6 = .ok (.ifCond .ne 5, 3) := by decide +kernel
theorem dX7_next_9 : decode cX7_next 9 = .ok (.iconst (-1), 1) := by decide +kernel
theorem dX7_next_10 : decode cX7_next 10 = .ok (.ireturn, 1) := by decide +kernel
theorem dX7_next_11 : decode cX7_next 11 = .ok (.aload_n 0, 1) := by decide +kernel
theorem dX7_next_12 : decode cX7_next 12 = .ok (.getfield 60, 3) := by decide +kernel
theorem dX7_next_15 : decode cX7_next 15 = .ok (.aload_n 0, 1) := by decide +kernel
theorem dX7_next_16 : decode cX7_next 16 = .ok (.getfield 29, 3) := by decide +kernel
theorem dX7_next_19 : decode cX7_next 19 = .ok (.invokevirtual 133, 3) := by decide +kernel
theorem dX7_next_22 : decode cX7_next 22 = .ok (.aload_n 0, 1) := by decide +kernel
theorem dX7_next_23 : decode cX7_next 23 = .ok (.getfield 60, 3) := by decide +kernel
theorem dX7_next_26 : decode cX7_next 26 = .ok (.iconst 0, 1) := by decide +kernel
theorem dX7_next_27 : decode cX7_next 27 = .ok (.invokevirtual 242, 3) := by decide +kernel
theorem dX7_next_30 : decode cX7_next 30 = .ok (.istore_n 2, 1) := by decide +kernel
theorem dX7_next_31 : decode cX7_next 31 = .ok (.iconst 1, 1) := by decide +kernel
theorem dX7_next_32 : decode cX7_next 32 = .ok (.istore_n 3, 1) := by decide +kernel
theorem dX7_next_33 : decode cX7_next 33 = .ok (.iload_n 3, 1) := by decide +kernel
theorem dX7_next_34 : decode cX7_next 34 = .ok (.aload_n 0, 1) := by decide +kernel
theorem dX7_next_35 : decode cX7_next 35 = .ok (.getfield 19, 3) := by decide +kernel
theorem dX7_next_38 : decode cX7_next 38 = .ok (.invokevirtual 113, 3) := by decide +kernel
theorem dX7_next_41 : decode cX7_next 41 = .ok (.if_icmp .ge 42, 3) := by decide +kernel
theorem dX7_next_44 : decode cX7_next 44 = .ok (.aload_n 0, 1) := by decide +kernel
theorem dX7_next_45 : decode cX7_next 45 = .ok (.getfield 60, 3) := by decide +kernel
theorem dX7_next_48 : decode cX7_next 48 = .ok (.iload_n 3, 1) := by decide +kernel
theorem dX7_next_49 : decode cX7_next 49 = .ok (.invokevirtual 242, 3) := by decide +kernel
theorem dX7_next_52 : decode cX7_next 52 = .ok (.istore 4, 2) := by decide +kernel
theorem dX7_next_54 : decode cX7_next 54 = .ok (.aload_n 0, 1) := by decide +kernel
theorem dX7_next_55 : decode cX7_next 55 = .ok (.getfield 29, 3) := by decide +kernel
theorem dX7_next_58 : decode cX7_next 58 = .ok (.iload 4, 2) := by decide +kernel
theorem dX7_next_60 : decode cX7_next 60 = .ok (.invokevirtual 245, 3) := by decide +kernel
theorem dX7_next_63 : decode cX7_next 63 = .ok (.aload_n 0, 1) := by decide +kernel
theorem dX7_next_64 : decode cX7_next 64 = .ok (.getfield 29, 3) := by decide +kernel
theorem dX7_next_67 : decode cX7_next 67 = .ok (.iload_n 2, 1) := by decide +kernel
theorem dX7_next_68 : decode cX7_next 68 = .ok (.invokevirtual 245, 3) := by decide +kernel
theorem dX7_next_71 : decode cX7_next 71 = .ok (.if_icmp .ge 6, 3) := by decide +kernel
theorem dX7_next_74 : decode cX7_next 74 = .ok (.iload 4, 2) := by decide +kernel
theorem dX7_next_76 : decode cX7_next 76 = .ok (.istore_n 2, 1) := by decide +kernel
theorem dX7_next_77 : decode cX7_next 77 = .ok (.iinc 3 1, 3) := by decide +kernel
theorem dX7_next_80 : decode cX7_next 80 = .ok (.goto (-47), 3) := by decide +kernel
theorem dX7_next_83 : decode cX7_next 83 = .ok (.iload_n 1, 1) := by decide +kernel
theorem dX7_next_84 : decode cX7_next 84 = .ok (.ifCond .ne 7, 3) := by decide +kernel
theorem dX7_next_87 : decode cX7_next 87 = .ok (.iload_n 2, 1) := by decide +kernel
theorem dX7_next_88 : decode cX7_next 88 = .ok (.goto 11, 3) := by decide +kernel
theorem dX7_next_91 : decode cX7_next 91 = .ok (.aload_n 0, 1) := by decide +kernel
theorem dX7_next_92 : decode cX7_next 92 = .ok (.getfield 29, 3) := by decide +kernel
theorem dX7_next_95 : decode cX7_next 95 = .ok (.iload_n 2, 1) := by decide +kernel
theorem dX7_next_96 : decode cX7_next 96 = .ok (.invokevirtual 245, 3) := by decide +kernel
theorem dX7_next_99 : decode cX7_next 99 = .ok (.ireturn, 1) := by decide +kernel
theorem dX7_year_0 : decode cX7_year 0 = .ok (.iload_n 1, 1) := by decide +kernel
theorem dX7_year_1 : decode cX7_year 1 = .ok (.iconst 0, 1) := by decide +kernel
theorem dX7_year_2 : decode cX7_year 2 = .ok (.sipush 9999, 3) := by decide +kernel
theorem dX7_year_5 : decode cX7_year 5 = .ok (.invokestatic 99, 3) := by decide +kernel
theorem dX7_year_8 : decode cX7_year 8 = .ok (.ifCond .eq 22, 3) := by decide +kernel
theorem dX7_year_11 : decode cX7_year 11 = .ok (.iload_n 2, 1) := by decide +kernel
theorem dX7_year_12 : decode cX7_year 12 = .ok (.iconst 1, 1) := by decide +kernel
theorem dX7_year_13 : decode cX7_year 13 = .ok (.bipush 120, 2) := by decide +kernel
theorem dX7_year_15 : decode cX7_year 15 = .ok (.invokestatic 99, 3) := by decide +kernel
theorem dX7_year_18 : decode cX7_year 18 = .ok (.ifCond .eq 12, 3) := by decide +kernel
theorem dX7_year_21 : decode cX7_year 21 = .ok (.iload_n 3, 1) := by decide +kernel
theorem dX7_year_22 : decode cX7_year 22 = .ok (.iconst 0, 1) := by decide +kernel
theorem dX7_year_23 : decode cX7_year 23 = .ok (.iconst 1, 1) := by decide +kernel
theorem dX7_year_24 : decode cX7_year 24 = .ok (.invokestatic 99, 3) := by decide +kernel
theorem dX7_year_27 : decode cX7_year 27 = .ok (.ifCond .ne 5, 3) := by decide +kernel
theorem dX7_year_30 : decode cX7_year 30 = .ok (.iconst (-1), 1) := by decide +kernel
theorem dX7_year_31 : decode cX7_year 31 = .ok (.ireturn, 1) := by decide +kernel
theorem dX7_year_32 : decode cX7_year 32 = .ok (.aload_n 0, 1) := by decide +kernel
theorem dX7_year_33 : decode cX7_year 33 = .ok (.getfield 60, 3) := by decide +kernel
theorem dX7_year_36 : decode cX7_year 36 = .ok (.aload_n 0, 1) := by decide +kernel
theorem dX7_year_37 : decode cX7_year 37 = .ok (.getfield 29, 3) := by decide +kernel
theorem dX7_year_40 : decode cX7_year 40 = .ok (.invokevirtual 133, 3) := by decide +kernel
theorem dX7_year_43 : decode cX7_year 43 = .ok (.iconst 0, 1) := by decide +kernel
theorem dX7_year_44 : decode cX7_year 44 = .ok (.istore 4, 2) := by decide +kernel
theorem dX7_year_46 : decode cX7_year 46 = .ok (.iload 4, 2) := by decide +kernel
theorem dX7_year_48 : decode cX7_year 48 = .ok (.iload_n 2, 1) := by decide +kernel
theorem dX7_year_49 : decode cX7_year 49 = .ok (.if_icmp .ge 27, 3) := by decide +kernel
theorem dX7_year_52 : decode cX7_year 52 = .ok (.aload_n 0, 1) := by decide +kernel
theorem dX7_year_53 : decode cX7_year 53 = .ok (.iload_n 1, 1) := by decide +kernel
theorem dX7_year_54 : decode cX7_year 54 = .ok (.iload 4, 2) := by decide +kernel
theorem dX7_year_56 : decode cX7_year 56 = .ok (.invokestatic 248, 3) := by decide +kernel
theorem dX7_year_59 : decode cX7_year 59 = .ok (.invokevirtual 251, 3) := by decide +kernel
theorem dX7_year_62 : decode cX7_year 62 = .ok (.aload_n 0, 1) := by decide +kernel
theorem dX7_year_63 : decode cX7_year 63 = .ok (.getfield 60, 3) := by decide +kernel
theorem dX7_year_66 : decode cX7_year 66 = .ok (.iconst 1, 1) := by decide +kernel
theorem dX7_year_67 : decode cX7_year 67 = .ok (.invokevirtual 159, 3) := by decide +kernel
theorem dX7_year_70 : decode cX7_year 70 = .ok (.iinc 4 1, 3) := by decide +kernel
theorem dX7_year_73 : decode cX7_year 73 = .ok (.goto (-27), 3) := by decide +kernel
theorem dX7_year_76 : decode cX7_year 76 = .ok (.iload_n 3, 1) := by decide +kernel
theorem dX7_year_77 : decode cX7_year 77 = .ok (.ifCond .ne 13, 3) := by decide +kernel
theorem dX7_year_80 : decode cX7_year 80 = .ok (.aload_n 0, 1) := by decide +kernel
theorem dX7_year_81 : decode cX7_year 81 = .ok (.getfield 60, 3) := by decide +kernel
theorem dX7_year_84 : decode cX7_year 84 = .ok (.invokevirtual 190, 3) := by decide +kernel
theorem dX7_year_87 : decode cX7_year 87 = .ok (.goto 21, 3) := by decide +kernel
theorem dX7_year_90 : decode cX7_year 90 = .ok (.aload_n 0, 1) := by decide +kernel
theorem dX7_year_91 : decode cX7_year 91 = .ok (.getfield 60, 3) := by decide +kernel
theorem dX7_year_94 : decode cX7_year 94 = .ok (.invokevirtual 162, 3) := by decide +kernel
theorem dX7_year_97 : decode cX7_year 97 = .ok (.iconst 0, 1) := by decide +kernel
theorem dX7_year_98 : decode cX7_year 98 = .ok (.aload_n 0, 1) := by decide +kernel
theorem dX7_year_99 : decode cX7_year 99 = .ok (.getfield 19, 3) := by decide +kernel
theorem dX7_year_102 : decode cX7_year 102 = .ok (.invokevirtual 113, 3) := by decide +kernel
theorem dX7_year_105 : decode cX7_year 105 = .ok (.invokevirtual 149, 3) := by decide +kernel
theorem dX7_year_108 : decode cX7_year 108 = .ok (.ireturn, 1) := by decide +kernel
theorem dX7_keep_0 : decode cX7_keep 0 = .ok (.aload_n 0, 1) := by decide +kernel
theorem dX7_keep_1 : decode cX7_keep 1 = .ok (.getfield 45, 3) := by decide +kernel
theorem dX7_keep_4 : decode cX7_keep 4 = .ok (.invokevirtual 254, 3) := by decide +kernel
theorem dX7_keep_7 : decode cX7_keep 7 = .ok (.ifCond .eq 6, 3) := by decide +kernel
theorem dX7_keep_10 : decode cX7_keep 10 = .ok (.bipush (-3), 2) := by decide +kernel
theorem dX7_keep_12 : decode cX7_keep 12 = .ok (.ireturn, 1) := by decide +kernel
theorem dX7_keep_13 : decode cX7_keep 13 = .ok (.aload_n 0, 1) := by decide +kernel
theorem dX7_keep_14 : decode cX7_keep 14 = .ok (.getfield 45, 3) := by decide +kernel
theorem dX7_keep_17 : decode cX7_keep 17 = .ok (.aload_n 0, 1) := by decide +kernel
theorem dX7_keep_18 : decode cX7_keep 18 = .ok (.getfield 29, 3) := by decide +kernel
theorem dX7_keep_21 : decode cX7_keep 21 = .ok (.invokevirtual 156, 3) := by decide +kernel
theorem dX7_keep_24 : decode cX7_keep 24 = .ok (.aload_n 0, 1) := by decide +kernel
theorem dX7_keep_25 : decode cX7_keep 25 = .ok (.getfield 45, 3) := by decide +kernel
theorem dX7_keep_28 : decode cX7_keep 28 = .ok (.invokevirtual 180, 3) := by decide +kernel
theorem dX7_keep_31 : decode cX7_keep 31 = .ok (.ireturn, 1) := by decide +kernel
theorem dX7_back_0 : decode cX7_back 0 = .ok (.aload_n 0, 1) := by decide +kernel
theorem dX7_back_1 : decode cX7_back 1 = .ok (.getfield 45, 3) := by decide +kernel
theorem dX7_back_4 : decode cX7_back 4 = .ok (.aload_n 0, 1) := by decide +kernel
theorem dX7_back_5 : decode cX7_back 5 = .ok (.getfield 29, 3) := by decide +kernel
theorem dX7_back_8 : decode cX7_back 8 = .ok (.invokevirtual 176, 3) := by decide +kernel
theorem dX7_back_11 : decode cX7_back 11 = .ok (.ifCond .ne 6, 3) := by decide +kernel
theorem dX7_back_14 : decode cX7_back 14 = .ok (.bipush (-2), 2) := by decide +kernel
theorem dX7_back_16 : decode cX7_back 16 = .ok (.ireturn, 1) := by decide +kernel
theorem dX7_back_17 : decode cX7_back 17 = .ok (.aload_n 0, 1) := by decide +kernel
theorem dX7_back_18 : decode cX7_back 18 = .ok (.getfield 41, 3) := by decide +kernel
theorem dX7_back_21 : decode cX7_back 21 = .ok (.invokevirtual 255, 3) := by decide +kernel
theorem dX7_back_24 : decode cX7_back 24 = .ok (.aload_n 0, 1) := by decide +kernel
theorem dX7_back_25 : decode cX7_back 25 = .ok (.getfield 45, 3) := by decide +kernel
theorem dX7_back_28 : decode cX7_back 28 = .ok (.invokevirtual 180, 3) := by decide +kernel
theorem dX7_back_31 : decode cX7_back 31 = .ok (.ireturn, 1) := by decide +kernel
theorem dX7_count_0 : decode cX7_count 0 = .ok (.iload_n 1, 1) := by decide +kernel
theorem dX7_count_1 : decode cX7_count 1 = .ok (.tableswitch 87 0 5 #[39, 47, 55, 63, 71, 79], 39) := by decide +kernel
theorem dX7_count_40 : decode cX7_count 40 = .ok (.aload_n 0, 1) := by decide +kernel
theorem dX7_count_41 : decode cX7_count 41 = .ok (.getfield 19, 3) := by decide +kernel
theorem dX7_count_44 : decode cX7_count 44 = .ok (.invokevirtual 113, 3) := by decide +kernel
theorem dX7_count_47 : decode cX7_count 47 = .ok (.ireturn, 1) := by decide +kernel
theorem dX7_count_48 : decode cX7_count 48 = .ok (.aload_n 0, 1) := by decide +kernel
theorem dX7_count_49 : decode cX7_count 49 = .ok (.getfield 29, 3) := by decide +kernel
theorem dX7_count_52 : decode cX7_count 52 = .ok (.invokevirtual 153, 3) := by decide +kernel
theorem dX7_count_55 : decode cX7_count 55 = .ok (.ireturn, 1) := by decide +kernel
theorem dX7_count_56 : decode cX7_count 56 = .ok (.aload_n 0, 1) := by decide +kernel
theorem dX7_count_57 : decode cX7_count 57 = .ok (.getfield 51, 3) := by decide +kernel
theorem dX7_count_60 : decode cX7_count 60 = .ok (.invokevirtual 230, 3) := by decide +kernel
theorem dX7_count_63 : decode cX7_count 63 = .ok (.ireturn, 1) := by decide +kernel
theorem dX7_count_64 : decode cX7_count 64 = .ok (.aload_n 0, 1) := by decide +kernel
theorem dX7_count_65 : decode cX7_count 65 = .ok (.getfield 41, 3) := by decide +kernel
theorem dX7_count_68 : decode cX7_count 68 = .ok (.invokevirtual 180, 3) := by decide +kernel
theorem dX7_count_71 : decode cX7_count 71 = .ok (.ireturn, 1) := by decide +kernel
theorem dX7_count_72 : decode cX7_count 72 = .ok (.aload_n 0, 1) := by decide +kernel
theorem dX7_count_73 : decode cX7_count 73 = .ok (.getfield 45, 3) := by decide +kernel
theorem dX7_count_76 : decode cX7_count 76 = .ok (.invokevirtual 180, 3) := by decide +kernel
theorem dX7_count_79 : decode cX7_count 79 = .ok (.ireturn, 1) := by decide +kernel
theorem dX7_count_80 : decode cX7_count 80 = .ok (.aload_n 0, 1) := by decide +kernel
theorem dX7_count_81 : decode cX7_count 81 = .ok (.getfield 12, 3) := by decide +kernel
theorem dX7_count_84 : decode cX7_count 84 = .ok (.invokevirtual 107, 3) := by decide +kernel
theorem dX7_count_87 : decode cX7_count 87 = .ok (.ireturn, 1) := by decide +kernel
theorem dX7_count_88 : decode cX7_count 88 = .ok (.iconst (-1), 1) := by decide +kernel
theorem dX7_count_89 : decode cX7_count 89 = .ok (.ireturn, 1) := by decide +kernel
theorem dX7_moveIn_0 : decode cX7_moveIn 0 = .ok (.aload_n 0, 1) := by decide +kernel
theorem dX7_moveIn_1 : decode cX7_moveIn 1 = .ok (.getfield 19, 3) := by decide +kernel
theorem dX7_moveIn_4 : decode cX7_moveIn 4 = .ok (.aload_n 0, 1) := by decide +kernel
theorem dX7_moveIn_5 : decode cX7_moveIn 5 = .ok (.getfield 23, 3) := by decide +kernel
theorem dX7_moveIn_8 : decode cX7_moveIn 8 = .ok (.invokevirtual 256, 3) := by decide +kernel
theorem dX7_moveIn_11 : decode cX7_moveIn 11 = .ok (.aload_n 0, 1) := by decide +kernel
theorem dX7_moveIn_12 : decode cX7_moveIn 12 = .ok (.getfield 33, 3) := by decide +kernel
theorem dX7_moveIn_15 : decode cX7_moveIn 15 = .ok (.aload_n 0, 1) := by decide +kernel
theorem dX7_moveIn_16 : decode cX7_moveIn 16 = .ok (.getfield 19, 3) := by decide +kernel
theorem dX7_moveIn_19 : decode cX7_moveIn 19 = .ok (.invokevirtual 258, 3) := by decide +kernel
theorem dX7_moveIn_22 : decode cX7_moveIn 22 = .ok (.aload_n 0, 1) := by decide +kernel
theorem dX7_moveIn_23 : decode cX7_moveIn 23 = .ok (.getfield 29, 3) := by decide +kernel
theorem dX7_moveIn_26 : decode cX7_moveIn 26 = .ok (.aload_n 0, 1) := by decide +kernel
theorem dX7_moveIn_27 : decode cX7_moveIn 27 = .ok (.getfield 33, 3) := by decide +kernel
theorem dX7_moveIn_30 : decode cX7_moveIn 30 = .ok (.invokevirtual 166, 3) := by decide +kernel
theorem dX7_moveIn_33 : decode cX7_moveIn 33 = .ok (.aload_n 0, 1) := by decide +kernel
theorem dX7_moveIn_34 : decode cX7_moveIn 34 = .ok (.getfield 51, 3) := by decide +kernel
theorem dX7_moveIn_37 : decode cX7_moveIn 37 = .ok (.invokevirtual 231, 3) := by decide +kernel
theorem dX7_moveIn_40 : decode cX7_moveIn 40 = .ok (.aload_n 0, 1) := by decide +kernel
theorem dX7_moveIn_41 : decode cX7_moveIn 41 = .ok (.getfield 41, 3) := by decide +kernel
theorem dX7_moveIn_44 : decode cX7_moveIn 44 = .ok (.invokevirtual 255, 3) := by decide +kernel
theorem dX7_moveIn_47 : decode cX7_moveIn 47 = .ok (.aload_n 0, 1) := by decide +kernel
theorem dX7_moveIn_48 : decode cX7_moveIn 48 = .ok (.getfield 45, 3) := by decide +kernel
theorem dX7_moveIn_51 : decode cX7_moveIn 51 = .ok (.invokevirtual 255, 3) := by decide +kernel
theorem dX7_moveIn_54 : decode cX7_moveIn 54 = .ok (.return_, 1) := by decide +kernel
theorem dX7_isCousin_0 : decode cX7_isCousin 0 = .ok (.iload_n 1, 1) := by decide +kernel
theorem dX7_isCousin_1 : decode cX7_isCousin 1 = .ok (.iconst 0, 1) := by decide +kernel
theorem dX7_isCousin_2 : decode cX7_isCousin 2 = .ok (.aload_n 0, 1) := by decide +kernel
theorem dX7_isCousin_3 : decode cX7_isCousin 3 = .ok (.getfield 19, 3) := by decide +kernel
theorem dX7_isCousin_6 : decode cX7_isCousin 6 = .ok (.invokevirtual 113, 3) := by decide +kernel
theorem dX7_isCousin_9 : decode cX7_isCousin 9 = .ok (.iconst 1, 1) := by decide +kernel
theorem dX7_isCousin_10 : decode cX7_isCousin 10 = .ok (.isub, 1) := by decide +kernel
theorem dX7_isCousin_11 : decode cX7_isCousin 11 = .ok (.invokestatic 99, 3) := by decide +kernel
theorem dX7_isCousin_14 : decode cX7_isCousin 14 = .ok (.ireturn, 1) := by decide +kernel
theorem dX7_isRoom_0 : decode cX7_isRoom 0 = .ok (.iload_n 1, 1) := by decide +kernel
theorem dX7_isRoom_1 : decode cX7_isRoom 1 = .ok (.iconst 0, 1) := by decide +kernel
theorem dX7_isRoom_2 : decode cX7_isRoom 2 = .ok (.aload_n 0, 1) := by decide +kernel
theorem dX7_isRoom_3 : decode cX7_isRoom 3 = .ok (.getfield 19, 3) := by decide +kernel
theorem dX7_isRoom_6 : decode cX7_isRoom 6 = .ok (.invokevirtual 261, 3) := by decide +kernel
theorem dX7_isRoom_9 : decode cX7_isRoom 9 = .ok (.iconst 1, 1) := by decide +kernel
theorem dX7_isRoom_10 : decode cX7_isRoom 10 = .ok (.isub, 1) := by decide +kernel
theorem dX7_isRoom_11 : decode cX7_isRoom 11 = .ok (.invokestatic 99, 3) := by decide +kernel
theorem dX7_isRoom_14 : decode cX7_isRoom 14 = .ok (.ireturn, 1) := by decide +kernel
theorem dX7_wantsBetween_0 : decode cX7_wantsBetween 0 = .ok (.aload_n 0, 1) := by decide +kernel
theorem dX7_wantsBetween_1 : decode cX7_wantsBetween 1 = .ok (.getfield 19, 3) := by decide +kernel
theorem dX7_wantsBetween_4 : decode cX7_wantsBetween 4 = .ok (.invokevirtual 261, 3) := by decide +kernel
theorem dX7_wantsBetween_7 : decode cX7_wantsBetween 7 = .ok (.istore_n 3, 1) := by decide +kernel
theorem dX7_wantsBetween_8 : decode cX7_wantsBetween 8 = .ok (.iload_n 2, 1) := by decide +kernel
theorem dX7_wantsBetween_9 : decode cX7_wantsBetween 9 = .ok (.iload_n 1, 1) := by decide +kernel
theorem dX7_wantsBetween_10 : decode cX7_wantsBetween 10 = .ok (.isub, 1) := by decide +kernel
theorem dX7_wantsBetween_11 : decode cX7_wantsBetween 11 = .ok (.iload_n 3, 1) := by decide +kernel
theorem dX7_wantsBetween_12 : decode cX7_wantsBetween 12 = .ok (.invokestatic 264, 3) := by decide +kernel
theorem dX7_wantsBetween_15 : decode cX7_wantsBetween 15 = .ok (.iconst 1, 1) := by decide +kernel
theorem dX7_wantsBetween_16 : decode cX7_wantsBetween 16 = .ok (.isub, 1) := by decide +kernel
theorem dX7_wantsBetween_17 : decode cX7_wantsBetween 17 = .ok (.istore 4, 2) := by decide +kernel
theorem dX7_wantsBetween_19 : decode cX7_wantsBetween 19 = .ok (.iconst 0, 1) := by decide +kernel
theorem dX7_wantsBetween_20 : decode cX7_wantsBetween 20 = .ok (.istore 5, 2) := by decide +kernel
theorem dX7_wantsBetween_22 : decode cX7_wantsBetween 22 = .ok (.iconst 1, 1) := by decide +kernel
theorem dX7_wantsBetween_23 : decode cX7_wantsBetween 23 = .ok (.istore 6, 2) := by decide +kernel
theorem dX7_wantsBetween_25 : decode cX7_wantsBetween 25 = .ok (.iload 6, 2) := by decide +kernel
theorem dX7_wantsBetween_27 : decode cX7_wantsBetween 27 = .ok (.iload 4, 2) := by decide +kernel
theorem dX7_wantsBetween_29 : decode cX7_wantsBetween 29 = .ok (.if_icmp .gt 50, 3) := by decide +kernel
theorem dX7_wantsBetween_32 : decode cX7_wantsBetween 32 = .ok (.iload 6, 2) := by decide +kernel
theorem dX7_wantsBetween_34 : decode cX7_wantsBetween 34 = .ok (.bipush 8, 2) := by decide +kernel
theorem dX7_wantsBetween_36 : decode cX7_wantsBetween 36 = .ok (.if_icmp .ge 43, 3) := by decide +kernel
theorem dX7_wantsBetween_39 : decode cX7_wantsBetween 39 = .ok (.iload 5, 2) := by decide +kernel
theorem dX7_wantsBetween_41 : decode cX7_wantsBetween 41 = .ok (.aload_n 0, 1) := by decide +kernel
theorem dX7_wantsBetween_42 : decode cX7_wantsBetween 42 = .ok (.getfield 19, 3) := by decide +kernel
theorem dX7_wantsBetween_45 : decode cX7_wantsBetween 45 = .ok (.aload_n 0, 1) := by decide +kernel
theorem dX7_wantsBetween_46 : decode cX7_wantsBetween 46 = .ok (.getfield 29, 3) := by decide +kernel
theorem dX7_wantsBetween_49 : decode cX7_wantsBetween 49 = .ok (.iload_n 1, 1) := by decide +kernel
theorem dX7_wantsBetween_50 : decode cX7_wantsBetween 50 = .ok (.iload 6, 2) := by decide +kernel
theorem dX7_wantsBetween_52 : decode cX7_wantsBetween 52 = .ok (.iadd, 1) := by decide +kernel
theorem dX7_wantsBetween_53 : decode cX7_wantsBetween 53 = .ok (.iload_n 3, 1) := by decide +kernel
theorem dX7_wantsBetween_54 : decode cX7_wantsBetween 54 = .ok (.invokestatic 264, 3) := by decide +kernel
theorem dX7_wantsBetween_57 : decode cX7_wantsBetween 57 = .ok (.aload_n 0, 1) := by decide +kernel
theorem dX7_wantsBetween_58 : decode cX7_wantsBetween 58 = .ok (.getfield 19, 3) := by decide +kernel
theorem dX7_wantsBetween_61 : decode cX7_wantsBetween 61 = .ok (.invokevirtual 113, 3) := by decide +kernel
theorem dX7_wantsBetween_64 : decode cX7_wantsBetween 64 = .ok (.invokevirtual 149, 3) := by decide +kernel
theorem dX7_wantsBetween_67 : decode cX7_wantsBetween 67 = .ok (.invokevirtual 127, 3) := by decide +kernel
theorem dX7_wantsBetween_70 : decode cX7_wantsBetween 70 = .ok (.iadd, 1) := by decide +kernel
theorem dX7_wantsBetween_71 : decode cX7_wantsBetween 71 = .ok (.istore 5, 2) := by decide +kernel
theorem dX7_wantsBetween_73 : decode cX7_wantsBetween 73 = .ok (.iinc 6 1, 3) := by decide +kernel
theorem dX7_wantsBetween_76 : decode cX7_wantsBetween 76 = .ok (.goto (-51), 3) := by decide +kernel
theorem dX7_wantsBetween_79 : decode cX7_wantsBetween 79 = .ok (.iload 5, 2) := by decide +kernel
theorem dX7_wantsBetween_81 : decode cX7_wantsBetween 81 = .ok (.ireturn, 1) := by decide +kernel
theorem dX7_drawOf_0 : decode cX7_drawOf 0 = .ok (.ldc2_w 267, 3) := by decide +kernel
theorem dX7_drawOf_3 : decode cX7_drawOf 3 = .ok (.iload_n 0, 1) := by decide +kernel
theorem dX7_drawOf_4 : decode cX7_drawOf 4 = .ok (.i2l, 1) := by decide +kernel
theorem dX7_drawOf_5 : decode cX7_drawOf 5 = .ok (.lmul, 1) := by decide +kernel
theorem dX7_drawOf_6 : decode cX7_drawOf 6 = .ok (.ldc2_w 269, 3) := by decide +kernel
theorem dX7_drawOf_9 : decode cX7_drawOf 9 = .ok (.iload_n 1, 1) := by decide +kernel
theorem dX7_drawOf_10 : decode cX7_drawOf 10 = .ok (.i2l, 1) := by decide +kernel
theorem dX7_drawOf_11 : decode cX7_drawOf 11 = .ok (.lmul, 1) := by decide +kernel
theorem dX7_drawOf_12 : decode cX7_drawOf 12 = .ok (.ladd, 1) := by decide +kernel
theorem dX7_drawOf_13 : decode cX7_drawOf 13 = .ok (.lconst 1, 1) := by decide +kernel
theorem dX7_drawOf_14 : decode cX7_drawOf 14 = .ok (.ladd, 1) := by decide +kernel
theorem dX7_drawOf_15 : decode cX7_drawOf 15 = .ok (.lstore_n 2, 1) := by decide +kernel
theorem dX7_drawOf_16 : decode cX7_drawOf 16 = .ok (.lload_n 2, 1) := by decide +kernel
theorem dX7_drawOf_17 : decode cX7_drawOf 17 = .ok (.lload_n 2, 1) := by decide +kernel
theorem dX7_drawOf_18 : decode cX7_drawOf 18 = .ok (.lmul, 1) := by decide +kernel
theorem dX7_drawOf_19 : decode cX7_drawOf 19 = .ok (.ldc2_w 271, 3) := by decide +kernel
theorem dX7_drawOf_22 : decode cX7_drawOf 22 = .ok (.lrem, 1) := by decide +kernel
theorem dX7_drawOf_23 : decode cX7_drawOf 23 = .ok (.ldc2_w 273, 3) := by decide +kernel
theorem dX7_drawOf_26 : decode cX7_drawOf 26 = .ok (.ldiv, 1) := by decide +kernel
theorem dX7_drawOf_27 : decode cX7_drawOf 27 = .ok (.l2i, 1) := by decide +kernel
theorem dX7_drawOf_28 : decode cX7_drawOf 28 = .ok (.ireturn, 1) := by decide +kernel
theorem dX7_exchangeByDraw_0 : decode cX7_exchangeByDraw 0 = .ok (.iload_n 1, 1) := by decide +kernel
theorem dX7_exchangeByDraw_1 : decode cX7_exchangeByDraw 1 = .ok (.aload_n 0, 1) := by decide +kernel
theorem dX7_exchangeByDraw_2 : decode cX7_exchangeByDraw 2 = .ok (.getfield 19, 3) := by decide +kernel
theorem dX7_exchangeByDraw_5 : decode cX7_exchangeByDraw 5 = .ok (.invokevirtual 113, 3) := by decide +kernel
theorem dX7_exchangeByDraw_8 : decode cX7_exchangeByDraw 8 = .ok (.invokestatic 264, 3) := by decide +kernel
theorem dX7_exchangeByDraw_11 : decode cX7_exchangeByDraw 11 = .ok (.istore_n 2, 1) := by decide +kernel
theorem dX7_exchangeByDraw_12 : decode cX7_exchangeByDraw 12 = .ok (.iload_n 1, 1) := by decide +kernel
theorem dX7_exchangeByDraw_13 : decode cX7_exchangeByDraw 13 = .ok (.bipush 8, 2) := by decide +kernel
theorem dX7_exchangeByDraw_15 : decode cX7_exchangeByDraw 15 = .ok (.idiv, 1) := by decide +kernel
theorem dX7_exchangeByDraw_16 : decode cX7_exchangeByDraw 16 = .ok (.aload_n 0, 1) := by decide +kernel
theorem dX7_exchangeByDraw_17 : decode cX7_exchangeByDraw 17 = .ok (.getfield 19, 3) := by decide +kernel
theorem dX7_exchangeByDraw_20 : decode cX7_exchangeByDraw 20 = .ok (.invokevirtual 113, 3) := by decide +kernel
theorem dX7_exchangeByDraw_23 : decode cX7_exchangeByDraw 23 = .ok (.invokestatic 264, 3) := by decide +kernel
theorem dX7_exchangeByDraw_26 : decode cX7_exchangeByDraw 26 = .ok (.istore_n 3, 1) := by decide +kernel
theorem dX7_exchangeByDraw_27 : decode cX7_exchangeByDraw 27 = .ok (.iload_n 2, 1) := by decide +kernel
theorem dX7_exchangeByDraw_28 : decode cX7_exchangeByDraw 28 = .ok (.iload_n 3, 1) := by decide +kernel
theorem dX7_exchangeByDraw_29 : decode cX7_exchangeByDraw 29 = .ok (.if_icmp .eq 24, 3) := by decide +kernel
theorem dX7_exchangeByDraw_32 : decode cX7_exchangeByDraw 32 = .ok (.iload_n 1, 1) := by decide +kernel
theorem dX7_exchangeByDraw_33 : decode cX7_exchangeByDraw 33 = .ok (.bipush 64, 2) := by decide +kernel
theorem dX7_exchangeByDraw_35 : decode cX7_exchangeByDraw 35 = .ok (.idiv, 1) := by decide +kernel
theorem dX7_exchangeByDraw_36 : decode cX7_exchangeByDraw 36 = .ok (.iconst 5, 1) := by decide +kernel
theorem dX7_exchangeByDraw_37 : decode cX7_exchangeByDraw 37 = .ok (.irem, 1) := by decide +kernel
theorem dX7_exchangeByDraw_38 : decode cX7_exchangeByDraw 38 = .ok (.ifCond .ne 15, 3) := by decide +kernel
theorem dX7_exchangeByDraw_41 : decode cX7_exchangeByDraw 41 = .ok (.aload_n 0, 1) := by decide +kernel
theorem dX7_exchangeByDraw_42 : decode cX7_exchangeByDraw 42 = .ok (.getfield 60, 3) := by decide +kernel
theorem dX7_exchangeByDraw_45 : decode cX7_exchangeByDraw 45 = .ok (.invokevirtual 162, 3) := by decide +kernel
theorem dX7_exchangeByDraw_48 : decode cX7_exchangeByDraw 48 = .ok (.iload_n 2, 1) := by decide +kernel
theorem dX7_exchangeByDraw_49 : decode cX7_exchangeByDraw 49 = .ok (.iload_n 3, 1) := by decide +kernel
theorem dX7_exchangeByDraw_50 : decode cX7_exchangeByDraw 50 = .ok (.invokevirtual 169, 3) := by decide +kernel
theorem dX7_exchangeByDraw_53 : decode cX7_exchangeByDraw 53 = .ok (.return_, 1) := by decide +kernel
theorem dX7_within_0 : decode cX7_within 0 = .ok (.iload_n 0, 1) := by decide +kernel
theorem dX7_within_1 : decode cX7_within 1 = .ok (.iload_n 1, 1) := by decide +kernel
theorem dX7_within_2 : decode cX7_within 2 = .ok (.if_icmp .lt 12, 3) := by decide +kernel
theorem dX7_within_5 : decode cX7_within 5 = .ok (.iload_n 0, 1) := by decide +kernel
theorem dX7_within_6 : decode cX7_within 6 = .ok (.iload_n 2, 1) := by decide +kernel
theorem dX7_within_7 : decode cX7_within 7 = .ok (.if_icmp .gt 7, 3) := by decide +kernel
theorem dX7_within_10 : decode cX7_within 10 = .ok (.iconst 1, 1) := by decide +kernel
theorem dX7_within_11 : decode cX7_within 11 = .ok (.goto 4, 3) := by decide +kernel
theorem dX7_within_14 : decode cX7_within 14 = .ok (.iconst 0, 1) := by decide +kernel
theorem dX7_within_15 : decode cX7_within 15 = .ok (.ireturn, 1) := by decide +kernel
theorem dX7_wrapped_0 : decode cX7_wrapped 0 = .ok (.iload_n 1, 1) := by decide +kernel
theorem dX7_wrapped_1 : decode cX7_wrapped 1 = .ok (.ifCond .gt 7, 3) := by decide +kernel
theorem dX7_wrapped_4 : decode cX7_wrapped 4 = .ok (.iconst 0, 1) := by decide +kernel
theorem dX7_wrapped_5 : decode cX7_wrapped 5 = .ok (.goto 8, 3) := by decide +kernel
theorem dX7_wrapped_8 : decode cX7_wrapped 8 = .ok (.iload_n 0, 1) := by decide +kernel
theorem dX7_wrapped_9 : decode cX7_wrapped 9 = .ok (.iload_n 1, 1) := by decide +kernel
theorem dX7_wrapped_10 : decode cX7_wrapped 10 = .ok (.invokestatic 275, 3) := by decide +kernel
theorem dX7_wrapped_13 : decode cX7_wrapped 13 = .ok (.ireturn, 1) := by decide +kernel
theorem dX7_commonDivisor_0 : decode cX7_commonDivisor 0 = .ok (.iload_n 0, 1) := by decide +kernel
theorem dX7_commonDivisor_1 : decode cX7_commonDivisor 1 = .ok (.istore_n 2, 1) := by decide +kernel
theorem dX7_commonDivisor_2 : decode cX7_commonDivisor 2 = .ok (.iload_n 1, 1) := by decide +kernel
theorem dX7_commonDivisor_3 : decode cX7_commonDivisor 3 = .ok (.istore_n 3, 1) := by decide +kernel
theorem dX7_commonDivisor_4 : decode cX7_commonDivisor 4 = .ok (.iconst 0, 1) := by decide +kernel
theorem dX7_commonDivisor_5 : decode cX7_commonDivisor 5 = .ok (.istore 4, 2) := by decide +kernel
theorem dX7_commonDivisor_7 : decode cX7_commonDivisor 7 = .ok (.iload 4, 2) := by decide +kernel
theorem dX7_commonDivisor_9 : decode cX7_commonDivisor 9 = .ok (.bipush 64, 2) := by decide +kernel
theorem dX7_commonDivisor_11 : decode cX7_commonDivisor 11 = .ok (.if_icmp .ge 23, 3) := by decide +kernel
theorem dX7_commonDivisor_14 : decode cX7_commonDivisor 14 = .ok (.iload_n 3, 1) := by decide +kernel
theorem dX7_commonDivisor_15 : decode cX7_commonDivisor 15 = .ok (.ifCond .eq 19, 3) := by decide +kernel
theorem dX7_commonDivisor_18 : decode cX7_commonDivisor 18 = .ok (.iload_n 2, 1) := by decide +kernel
theorem dX7_commonDivisor_19 : decode cX7_commonDivisor 19 = .ok (.iload_n 3, 1) := by decide +kernel
theorem dX7_commonDivisor_20 : decode cX7_commonDivisor 20 = .ok (.irem, 1) := by decide +kernel
theorem dX7_commonDivisor_21 : decode cX7_commonDivisor 21 = .ok (.istore 5, 2) := by decide +kernel
theorem dX7_commonDivisor_23 : decode cX7_commonDivisor 23 = .ok (.iload_n 3, 1) := by decide +kernel
theorem dX7_commonDivisor_24 : decode cX7_commonDivisor 24 = .ok (.istore_n 2, 1) := by decide +kernel
theorem dX7_commonDivisor_25 : decode cX7_commonDivisor 25 = .ok (.iload 5, 2) := by decide +kernel
theorem dX7_commonDivisor_27 : decode cX7_commonDivisor 27 = .ok (.istore_n 3, 1) := by decide +kernel
theorem dX7_commonDivisor_28 : decode cX7_commonDivisor 28 = .ok (.iinc 4 1, 3) := by decide +kernel
theorem dX7_commonDivisor_31 : decode cX7_commonDivisor 31 = .ok (.goto (-24), 3) := by decide +kernel
theorem dX7_commonDivisor_34 : decode cX7_commonDivisor 34 = .ok (.iconst 1, 1) := by decide +kernel
theorem dX7_commonDivisor_35 : decode cX7_commonDivisor 35 = .ok (.iload_n 2, 1) := by decide +kernel
theorem dX7_commonDivisor_36 : decode cX7_commonDivisor 36 = .ok (.invokestatic 278, 3) := by decide +kernel
theorem dX7_commonDivisor_39 : decode cX7_commonDivisor 39 = .ok (.ireturn, 1) := by decide +kernel
theorem dX7_at_0 : decode cX7_at 0 = .ok (.iload_n 1, 1) := by decide +kernel
theorem dX7_at_1 : decode cX7_at 1 = .ok (.ifCond .lt 15, 3) := by decide +kernel
theorem dX7_at_4 : decode cX7_at 4 = .ok (.iload_n 1, 1) := by decide +kernel
theorem dX7_at_5 : decode cX7_at 5 = .ok (.aload_n 0, 1) := by decide +kernel
theorem dX7_at_6 : decode cX7_at 6 = .ok (.arraylength, 1) := by decide +kernel
theorem dX7_at_7 : decode cX7_at 7 = .ok (.if_icmp .ge 9, 3) := by decide +kernel
theorem dX7_at_10 : decode cX7_at 10 = .ok (.aload_n 0, 1) := by decide +kernel
theorem dX7_at_11 : decode cX7_at 11 = .ok (.iload_n 1, 1) := by decide +kernel
theorem dX7_at_12 : decode cX7_at 12 = .ok (.iaload, 1) := by decide +kernel
theorem dX7_at_13 : decode cX7_at 13 = .ok (.goto 4, 3) := by decide +kernel
theorem dX7_at_16 : decode cX7_at 16 = .ok (.iconst 0, 1) := by decide +kernel
theorem dX7_at_17 : decode cX7_at 17 = .ok (.ireturn, 1) := by decide +kernel
theorem dX7_put_0 : decode cX7_put 0 = .ok (.iload_n 1, 1) := by decide +kernel
theorem dX7_put_1 : decode cX7_put 1 = .ok (.ifCond .lt 13, 3) := by decide +kernel
theorem dX7_put_4 : decode cX7_put 4 = .ok (.iload_n 1, 1) := by decide +kernel
theorem dX7_put_5 : decode cX7_put 5 = .ok (.aload_n 0, 1) := by decide +kernel
theorem dX7_put_6 : decode cX7_put 6 = .ok (.arraylength, 1) := by decide +kernel
theorem dX7_put_7 : decode cX7_put 7 = .ok (.if_icmp .ge 7, 3) := by decide +kernel
theorem dX7_put_10 : decode cX7_put 10 = .ok (.aload_n 0, 1) := by decide +kernel
theorem dX7_put_11 : decode cX7_put 11 = .ok (.iload_n 1, 1) := by decide +kernel
theorem dX7_put_12 : decode cX7_put 12 = .ok (.iload_n 2, 1) := by decide +kernel
theorem dX7_put_13 : decode cX7_put 13 = .ok (.iastore, 1) := by decide +kernel
theorem dX7_put_14 : decode cX7_put 14 = .ok (.return_, 1) := by decide +kernel
theorem dX7_copyRow_0 : decode cX7_copyRow 0 = .ok (.iconst 0, 1) := by decide +kernel
theorem dX7_copyRow_1 : decode cX7_copyRow 1 = .ok (.istore_n 2, 1) := by decide +kernel
theorem dX7_copyRow_2 : decode cX7_copyRow 2 = .ok (.iload_n 2, 1) := by decide +kernel
theorem dX7_copyRow_3 : decode cX7_copyRow 3 = .ok (.aload_n 0, 1) := by decide +kernel
theorem dX7_copyRow_4 : decode cX7_copyRow 4 = .ok (.arraylength, 1) := by decide +kernel
theorem dX7_copyRow_5 : decode cX7_copyRow 5 = .ok (.if_icmp .ge 21, 3) := by decide +kernel
theorem dX7_copyRow_8 : decode cX7_copyRow 8 = .ok (.iload_n 2, 1) := by decide +kernel
theorem dX7_copyRow_9 : decode cX7_copyRow 9 = .ok (.aload_n 1, 1) := by decide +kernel
theorem dX7_copyRow_10 : decode cX7_copyRow 10 = .ok (.arraylength, 1) := by decide +kernel
theorem dX7_copyRow_11 : decode cX7_copyRow 11 = .ok (.if_icmp .ge 15, 3) := by decide +kernel
theorem dX7_copyRow_14 : decode cX7_copyRow 14 = .ok (.aload_n 1, 1) := by decide +kernel
theorem dX7_copyRow_15 : decode cX7_copyRow 15 = .ok (.iload_n 2, 1) := by decide +kernel
theorem dX7_copyRow_16 : decode cX7_copyRow 16 = .ok (.aload_n 0, 1) := by decide +kernel
theorem dX7_copyRow_17 : decode cX7_copyRow 17 = .ok (.iload_n 2, 1) := by decide +kernel
theorem dX7_copyRow_18 : decode cX7_copyRow 18 = .ok (.iaload, 1) := by decide +kernel
theorem dX7_copyRow_19 : decode cX7_copyRow 19 = .ok (.iastore, 1) := by decide +kernel
theorem dX7_copyRow_20 : decode cX7_copyRow 20 = .ok (.iinc 2 1, 3) := by decide +kernel
theorem dX7_copyRow_23 : decode cX7_copyRow 23 = .ok (.goto (-21), 3) := by decide +kernel
theorem dX7_copyRow_26 : decode cX7_copyRow 26 = .ok (.return_, 1) := by decide +kernel
theorem dX8_init_0 : decode cX8_init 0 = .ok (.aload_n 0, 1) := by decide +kernel
theorem dX8_init_1 : decode cX8_init 1 = .ok (.invokespecial 1, 3) := by decide +kernel
theorem dX8_init_4 : decode cX8_init 4 = .ok (.aload_n 0, 1) := by decide +kernel
theorem dX8_init_5 : decode cX8_init 5 = .ok (.bipush 16, 2) := by decide +kernel
theorem dX8_init_7 : decode cX8_init 7 = .ok (.newarray .int, 2) := by decide +kernel
theorem dX8_init_9 : decode cX8_init 9 = .ok (.putfield 7, 3) := by decide +kernel
theorem dX8_init_12 : decode cX8_init 12 = .ok (.aload_n 0, 1) := by decide +kernel
theorem dX8_init_13 : decode cX8_init 13 = .ok (.bipush 16, 2) := by decide +kernel
theorem dX8_init_15 : decode cX8_init 15 = .ok (.newarray .int, 2) := by decide +kernel
theorem dX8_init_17 : decode cX8_init 17 = .ok (.putfield 13, 3) := by decide +kernel
theorem dX8_init_20 : decode cX8_init 20 = .ok (.aload_n 0, 1) := by decide +kernel
theorem dX8_init_21 : decode cX8_init 21 = .ok (.bipush 17, 2) := by decide +kernel
theorem dX8_init_23 : decode cX8_init 23 = .ok (.newarray .int, 2) := by decide +kernel
theorem dX8_init_25 : decode cX8_init 25 = .ok (.putfield 16, 3) := by decide +kernel
theorem dX8_init_28 : decode cX8_init 28 = .ok (.aload_n 0, 1) := by decide +kernel
theorem dX8_init_29 : decode cX8_init 29 = .ok (.bipush 17, 2) := by decide +kernel
theorem dX8_init_31 : decode cX8_init 31 = .ok (.newarray .int, 2) := by decide +kernel
theorem dX8_init_33 : decode cX8_init 33 = .ok (.putfield 19, 3) := by decide +kernel
theorem dX8_init_36 : decode cX8_init 36 = .ok (.aload_n 0, 1) := by decide +kernel
theorem dX8_init_37 : decode cX8_init 37 = .ok (.sipush 136, 3) := by decide +kernel
theorem dX8_init_40 : decode cX8_init 40 = .ok (.newarray .int, 2) := by decide +kernel
theorem dX8_init_42 : decode cX8_init 42 = .ok (.putfield 22, 3) := by decide +kernel
theorem dX8_init_45 : decode cX8_init 45 = .ok (.aload_n 0, 1) := by decide +kernel
theorem dX8_init_46 : decode cX8_init 46 = .ok (.bipush 34, 2) := by decide +kernel
theorem dX8_init_48 : decode cX8_init 48 = .ok (.newarray .int, 2) := by decide +kernel
theorem dX8_init_50 : decode cX8_init 50 = .ok (.putfield 25, 3) := by decide +kernel
theorem dX8_init_53 : decode cX8_init 53 = .ok (.aload_n 0, 1) := by decide +kernel
theorem dX8_init_54 : decode cX8_init 54 = .ok (.bipush 24, 2) := by decide +kernel
theorem dX8_init_56 : decode cX8_init 56 = .ok (.newarray .int, 2) := by decide +kernel
theorem dX8_init_58 : decode cX8_init 58 = .ok (.putfield 28, 3) := by decide +kernel
theorem dX8_init_61 : decode cX8_init 61 = .ok (.aload_n 0, 1) := by decide +kernel
theorem dX8_init_62 : decode cX8_init 62 = .ok (.sipush 200, 3) := by decide +kernel
theorem dX8_init_65 : decode cX8_init 65 = .ok (.newarray .int, 2) := by decide +kernel
theorem dX8_init_67 : decode cX8_init 67 = .ok (.putfield 31, 3) := by decide +kernel
theorem dX8_init_70 : decode cX8_init 70 = .ok (.aload_n 0, 1) := by decide +kernel
theorem dX8_init_71 : decode cX8_init 71 = .ok (.iconst 3, 1) := by decide +kernel
theorem dX8_init_72 : decode cX8_init 72 = .ok (.newarray .int, 2) := by decide +kernel
theorem dX8_init_74 : decode cX8_init 74 = .ok (.putfield 34, 3) := by decide +kernel
theorem dX8_init_77 : decode cX8_init 77 = .ok (.aload_n 0, 1) := by decide +kernel
theorem dX8_init_78 : decode cX8_init 78 = .ok (.bipush 16, 2) := by decide +kernel
theorem dX8_init_80 : decode cX8_init 80 = .ok (.newarray .int, 2) := by decide +kernel
theorem dX8_init_82 : decode cX8_init 82 = .ok (.putfield 37, 3) := by decide +kernel
theorem dX8_init_85 : decode cX8_init 85 = .ok (.aload_n 0, 1) := by decide +kernel
theorem dX8_init_86 : decode cX8_init 86 = .ok (.bipush 16, 2) := by decide +kernel
theorem dX8_init_88 : decode cX8_init 88 = .ok (.newarray .int, 2) := by decide +kernel
theorem dX8_init_90 : decode cX8_init 90 = .ok (.putfield 40, 3) := by decide +kernel
theorem dX8_init_93 : decode cX8_init 93 = .ok (.aload_n 0, 1) := by decide +kernel
theorem dX8_init_94 : decode cX8_init 94 = .ok (.bipush 17, 2) := by decide +kernel
theorem dX8_init_96 : decode cX8_init 96 = .ok (.newarray .int, 2) := by decide +kernel
theorem dX8_init_98 : decode cX8_init 98 = .ok (.putfield 43, 3) := by decide +kernel
theorem dX8_init_101 : decode cX8_init 101 = .ok (.aload_n 0, 1) := by decide +kernel
theorem dX8_init_102 : decode cX8_init 102 = .ok (.bipush 17, 2) := by decide +kernel
theorem dX8_init_104 : decode cX8_init 104 = .ok (.newarray .int, 2) := by decide +kernel
theorem dX8_init_106 : decode cX8_init 106 = .ok (.putfield 46, 3) := by decide +kernel
theorem dX8_init_109 : decode cX8_init 109 = .ok (.aload_n 0, 1) := by decide +kernel
theorem dX8_init_110 : decode cX8_init 110 = .ok (.bipush 8, 2) := by decide +kernel
theorem dX8_init_112 : decode cX8_init 112 = .ok (.newarray .int, 2) := by decide +kernel
theorem dX8_init_114 : decode cX8_init 114 = .ok (.putfield 49, 3) := by decide +kernel
theorem dX8_init_117 : decode cX8_init 117 = .ok (.aload_n 0, 1) := by decide +kernel
theorem dX8_init_118 : decode cX8_init 118 = .ok (.invokevirtual 52, 3) := by decide +kernel
theorem dX8_init_121 : decode cX8_init 121 = .ok (.aload_n 0, 1) := by decide +kernel
theorem dX8_init_122 : decode cX8_init 122 = .ok (.iconst 0, 1) := by decide +kernel
theorem dX8_init_123 : decode cX8_init 123 = .ok (.iconst 5, 1) := by decide +kernel
theorem dX8_init_124 : decode cX8_init 124 = .ok (.iconst 4, 1) := by decide +kernel
theorem dX8_init_125 : decode cX8_init 125 = .ok (.invokevirtual 55, 3) := by decide +kernel
theorem dX8_init_128 : decode cX8_init 128 = .ok (.aload_n 0, 1) := by decide +kernel
theorem dX8_init_129 : decode cX8_init 129 = .ok (.iconst 1, 1) := by decide +kernel
theorem dX8_init_130 : decode cX8_init 130 = .ok (.bipush 17, 2) := by decide +kernel
theorem dX8_init_132 : decode cX8_init 132 = .ok (.iconst 3, 1) := by decide +kernel
theorem dX8_init_133 : decode cX8_init 133 = .ok (.invokevirtual 55, 3) := by decide +kernel
theorem dX8_init_136 : decode cX8_init 136 = .ok (.aload_n 0, 1) := by decide +kernel
theorem dX8_init_137 : decode cX8_init 137 = .ok (.iconst 2, 1) := by decide +kernel
theorem dX8_init_138 : decode cX8_init 138 = .ok (.bipush 30, 2) := by decide +kernel
theorem dX8_init_140 : decode cX8_init 140 = .ok (.bipush 6, 2) := by decide +kernel
theorem dX8_init_142 : decode cX8_init 142 = .ok (.invokevirtual 55, 3) := by decide +kernel
theorem dX8_init_145 : decode cX8_init 145 = .ok (.aload_n 0, 1) := by decide +kernel
theorem dX8_init_146 : decode cX8_init 146 = .ok (.iconst 0, 1) := by decide +kernel
theorem dX8_init_147 : decode cX8_init 147 = .ok (.bipush 44, 2) := by decide +kernel
theorem dX8_init_149 : decode cX8_init 149 = .ok (.iconst 2, 1) := by decide +kernel
theorem dX8_init_150 : decode cX8_init 150 = .ok (.invokevirtual 55, 3) := by decide +kernel
theorem dX8_init_153 : decode cX8_init 153 = .ok (.aload_n 0, 1) := by decide +kernel
theorem dX8_init_154 : decode cX8_init 154 = .ok (.iconst 3, 1) := by decide +kernel
theorem dX8_init_155 : decode cX8_init 155 = .ok (.bipush 52, 2) := by decide +kernel
theorem dX8_init_157 : decode cX8_init 157 = .ok (.iconst 5, 1) := by decide +kernel
theorem dX8_init_158 : decode cX8_init 158 = .ok (.invokevirtual 55, 3) := by decide +kernel
theorem dX8_init_161 : decode cX8_init 161 = .ok (.aload_n 0, 1) := by decide +kernel
theorem dX8_init_162 : decode cX8_init 162 = .ok (.iconst 0, 1) := by decide +kernel
theorem dX8_init_163 : decode cX8_init 163 = .ok (.bipush 30, 2) := by decide +kernel
theorem dX8_init_165 : decode cX8_init 165 = .ok (.iconst 1, 1) := by decide +kernel
theorem dX8_init_166 : decode cX8_init 166 = .ok (.invokevirtual 55, 3) := by decide +kernel
theorem dX8_init_169 : decode cX8_init 169 = .ok (.aload_n 0, 1) := by decide +kernel
theorem dX8_init_170 : decode cX8_init 170 = .ok (.iconst 2, 1) := by decide +kernel
theorem dX8_init_171 : decode cX8_init 171 = .ok (.bipush 8, 2) := by decide +kernel
theorem dX8_init_173 : decode cX8_init 173 = .ok (.invokevirtual 59, 3) := by decide +kernel
theorem dX8_init_176 : decode cX8_init 176 = .ok (.aload_n 0, 1) := by decide +kernel
theorem dX8_init_177 : decode cX8_init 177 = .ok (.iconst 5, 1) := by decide +kernel
theorem dX8_init_178 : decode cX8_init 178 = .ok (.iconst 5, 1) := by decide +kernel
theorem dX8_init_179 : decode cX8_init 179 = .ok (.invokevirtual 59, 3) := by decide +kernel
theorem dX8_init_182 : decode cX8_init 182 = .ok (.aload_n 0, 1) := by decide +kernel
theorem dX8_init_183 : decode cX8_init 183 = .ok (.iconst 1, 1) := by decide +kernel
theorem dX8_init_184 : decode cX8_init 184 = .ok (.bipush 9, 2) := by decide +kernel
theorem dX8_init_186 : decode cX8_init 186 = .ok (.invokevirtual 59, 3) := by decide +kernel
theorem dX8_init_189 : decode cX8_init 189 = .ok (.aload_n 0, 1) := by decide +kernel
theorem dX8_init_190 : decode cX8_init 190 = .ok (.bipush 6, 2) := by decide +kernel
theorem dX8_init_192 : decode cX8_init 192 = .ok (.iconst 3, 1) := by decide +kernel
theorem dX8_init_193 : decode cX8_init 193 = .ok (.invokevirtual 59, 3) := by decide +kernel
theorem dX8_init_196 : decode cX8_init 196 = .ok (.aload_n 0, 1) := by decide +kernel
theorem dX8_init_197 : decode cX8_init 197 = .ok (.iconst 3, 1) := by decide +kernel
theorem dX8_init_198 : decode cX8_init 198 = .ok (.iconst 4, 1) := by decide +kernel
theorem dX8_init_199 : decode cX8_init 199 = .ok (.invokevirtual 59, 3) := by decide +kernel
theorem dX8_init_202 : decode cX8_init 202 = .ok (.aload_n 0, 1) := by decide +kernel
theorem dX8_init_203 : decode cX8_init 203 = .ok (.iconst 0, 1) := by decide +kernel
theorem dX8_init_204 : decode cX8_init 204 = .ok (.bipush 7, 2) := by decide +kernel
theorem dX8_init_206 : decode cX8_init 206 = .ok (.invokevirtual 59, 3) := by decide +kernel
theorem dX8_init_209 : decode cX8_init 209 = .ok (.aload_n 0, 1) := by decide +kernel
theorem dX8_init_210 : decode cX8_init 210 = .ok (.invokevirtual 63, 3) := by decide +kernel
theorem dX8_init_213 : decode cX8_init 213 = .ok (.return_, 1) := by decide +kernel
theorem dX8_tellsCousin_0 : decode cX8_tellsCousin 0 = .ok (.aload_n 0, 1) := by decide +kernel
theorem dX8_tellsCousin_1 : decode cX8_tellsCousin 1 = .ok (.getfield 37, 3) := by decide +kernel
theorem dX8_tellsCousin_4 : decode cX8_tellsCousin 4 = .ok (.iconst 2, 1) := by decide +kernel
theorem dX8_tellsCousin_5 : decode cX8_tellsCousin 5 = .ok (.aload_n 0, 1) := by decide +kernel
theorem dX8_tellsCousin_6 : decode cX8_tellsCousin 6 = .ok (.getfield 66, 3) := by decide +kernel
theorem dX8_tellsCousin_9 : decode cX8_tellsCousin 9 = .ok (.imul, 1) := by decide +kernel
theorem dX8_tellsCousin_10 : decode cX8_tellsCousin 10 = .ok (.iload_n 1, 1) := by decide +kernel
theorem dX8_tellsCousin_11 : decode cX8_tellsCousin 11 = .ok (.iastore, 1) := by decide +kernel
theorem dX8_tellsCousin_12 : decode cX8_tellsCousin 12 = .ok (.aload_n 0, 1) := by decide +kernel
theorem dX8_tellsCousin_13 : decode cX8_tellsCousin 13 = .ok (.getfield 37, 3) := by decide +kernel
theorem dX8_tellsCousin_16 : decode cX8_tellsCousin 16 = .ok (.iconst 2, 1) := by decide +kernel
theorem dX8_tellsCousin_17 : decode cX8_tellsCousin 17 = .ok (.aload_n 0, 1) := by decide +kernel
theorem dX8_tellsCousin_18 : decode cX8_tellsCousin 18 = .ok (.getfield 66, 3) := by decide +kernel
theorem dX8_tellsCousin_21 : decode cX8_tellsCousin 21 = .ok (.imul, 1) := by decide +kernel
theorem dX8_tellsCousin_22 : decode cX8_tellsCousin 22 = .ok (.iconst 1, 1) := by decide +kernel
theorem dX8_tellsCousin_23 : decode cX8_tellsCousin 23 = .ok (.iadd, 1) := by decide +kernel
theorem dX8_tellsCousin_24 : decode cX8_tellsCousin 24 = .ok (.iload_n 3, 1) := by decide +kernel
theorem dX8_tellsCousin_25 : decode cX8_tellsCousin 25 = .ok (.iastore, 1) := by decide +kernel
theorem dX8_tellsCousin_26 : decode cX8_tellsCousin 26 = .ok (.aload_n 0, 1) := by decide +kernel
theorem dX8_tellsCousin_27 : decode cX8_tellsCousin 27 = .ok (.getfield 43, 3) := by decide +kernel
theorem dX8_tellsCousin_30 : decode cX8_tellsCousin 30 = .ok (.bipush 9, 2) := by decide +kernel
theorem dX8_tellsCousin_32 : decode cX8_tellsCousin 32 = .ok (.aload_n 0, 1) := by decide +kernel
theorem dX8_tellsCousin_33 : decode cX8_tellsCousin 33 = .ok (.getfield 66, 3) := by decide +kernel
theorem dX8_tellsCousin_36 : decode cX8_tellsCousin 36 = .ok (.iadd, 1) := by decide +kernel
theorem dX8_tellsCousin_37 : decode cX8_tellsCousin 37 = .ok (.iload_n 2, 1) := by decide +kernel
theorem dX8_tellsCousin_38 : decode cX8_tellsCousin 38 = .ok (.iastore, 1) := by decide +kernel
theorem dX8_tellsCousin_39 : decode cX8_tellsCousin 39 = .ok (.aload_n 0, 1) := by decide +kernel
theorem dX8_tellsCousin_40 : decode cX8_tellsCousin 40 = .ok (.dup, 1) := by decide +kernel
theorem dX8_tellsCousin_41 : decode cX8_tellsCousin 41 = .ok (.getfield 66, 3) := by decide +kernel
theorem dX8_tellsCousin_44 : decode cX8_tellsCousin 44 = .ok (.iconst 1, 1) := by decide +kernel
theorem dX8_tellsCousin_45 : decode cX8_tellsCousin 45 = .ok (.iadd, 1) := by decide +kernel
theorem dX8_tellsCousin_46 : decode cX8_tellsCousin 46 = .ok (.putfield 66, 3) := by decide +kernel
theorem dX8_tellsCousin_49 : decode cX8_tellsCousin 49 = .ok (.return_, 1) := by decide +kernel
theorem dX8_tellsRoom_0 : decode cX8_tellsRoom 0 = .ok (.aload_n 0, 1) := by decide +kernel
theorem dX8_tellsRoom_1 : decode cX8_tellsRoom 1 = .ok (.getfield 40, 3) := by decide +kernel
theorem dX8_tellsRoom_4 : decode cX8_tellsRoom 4 = .ok (.iconst 2, 1) := by decide +kernel
theorem dX8_tellsRoom_5 : decode cX8_tellsRoom 5 = .ok (.aload_n 0, 1) := by decide +kernel
theorem dX8_tellsRoom_6 : decode cX8_tellsRoom 6 = .ok (.getfield 70, 3) := by decide +kernel
theorem dX8_tellsRoom_9 : decode cX8_tellsRoom 9 = .ok (.imul, 1) := by decide +kernel
theorem dX8_tellsRoom_10 : decode cX8_tellsRoom 10 = .ok (.iload_n 1, 1) := by decide +kernel
theorem dX8_tellsRoom_11 : decode cX8_tellsRoom 11 = .ok (.iastore, 1) := by decide +kernel
theorem dX8_tellsRoom_12 : decode cX8_tellsRoom 12 = .ok (.aload_n 0, 1) := by decide +kernel
theorem dX8_tellsRoom_13 : decode cX8_tellsRoom 13 = .ok (.getfield 40, 3) := by decide +kernel
theorem dX8_tellsRoom_16 : decode cX8_tellsRoom 16 = .ok (.iconst 2, 1) := by decide +kernel
theorem dX8_tellsRoom_17 : decode cX8_tellsRoom 17 = .ok (.aload_n 0, 1) := by decide +kernel
theorem dX8_tellsRoom_18 : decode cX8_tellsRoom 18 = .ok (.getfield 70, 3) := by decide +kernel
theorem dX8_tellsRoom_21 : decode cX8_tellsRoom 21 = .ok (.imul, 1) := by decide +kernel
theorem dX8_tellsRoom_22 : decode cX8_tellsRoom 22 = .ok (.iconst 1, 1) := by decide +kernel
theorem dX8_tellsRoom_23 : decode cX8_tellsRoom 23 = .ok (.iadd, 1) := by decide +kernel
theorem dX8_tellsRoom_24 : decode cX8_tellsRoom 24 = .ok (.iload_n 2, 1) := by decide +kernel
theorem dX8_tellsRoom_25 : decode cX8_tellsRoom 25 = .ok (.iastore, 1) := by decide +kernel
theorem dX8_tellsRoom_26 : decode cX8_tellsRoom 26 = .ok (.aload_n 0, 1) := by decide +kernel
theorem dX8_tellsRoom_27 : decode cX8_tellsRoom 27 = .ok (.dup, 1) := by decide +kernel
theorem dX8_tellsRoom_28 : decode cX8_tellsRoom 28 = .ok (.getfield 70, 3) := by decide +kernel
theorem dX8_tellsRoom_31 : decode cX8_tellsRoom 31 = .ok (.iconst 1, 1) := by decide +kernel
theorem dX8_tellsRoom_32 : decode cX8_tellsRoom 32 = .ok (.iadd, 1) := by decide +kernel
theorem dX8_tellsRoom_33 : decode cX8_tellsRoom 33 = .ok (.putfield 70, 3) := by decide +kernel
theorem dX8_tellsRoom_36 : decode cX8_tellsRoom 36 = .ok (.return_, 1) := by decide +kernel
theorem dX8_in_0 : decode cX8_in 0 = .ok (.iload_n 0, 1) := by decide +kernel
theorem dX8_in_1 : decode cX8_in 1 = .ok (.iload_n 1, 1) := by decide +kernel
theorem dX8_in_2 : decode cX8_in 2 = .ok (.if_icmp .lt 12, 3) := by decide +kernel
theorem dX8_in_5 : decode cX8_in 5 = .ok (.iload_n 0, 1) := by decide +kernel
theorem dX8_in_6 : decode cX8_in 6 = .ok (.iload_n 2, 1) := by decide +kernel
theorem dX8_in_7 : decode cX8_in 7 = .ok (.if_icmp .gt 7, 3) := by decide +kernel
theorem dX8_in_10 : decode cX8_in 10 = .ok (.iconst 1, 1) := by decide +kernel
theorem dX8_in_11 : decode cX8_in 11 = .ok (.goto 4, 3) := by decide +kernel
theorem dX8_in_14 : decode cX8_in 14 = .ok (.iconst 0, 1) := by decide +kernel
theorem dX8_in_15 : decode cX8_in 15 = .ok (.ireturn, 1) := by decide +kernel
theorem dX8_bits_0 : decode cX8_bits 0 = .ok (.iconst 0, 1) := by decide +kernel
theorem dX8_bits_1 : decode cX8_bits 1 = .ok (.istore_n 1, 1) := by decide +kernel
theorem dX8_bits_2 : decode cX8_bits 2 = .ok (.iconst 0, 1) := by decide +kernel
theorem dX8_bits_3 : decode cX8_bits 3 = .ok (.istore_n 2, 1) := by decide +kernel
theorem dX8_bits_4 : decode cX8_bits 4 = .ok (.iload_n 2, 1) := by decide +kernel
theorem dX8_bits_5 : decode cX8_bits 5 = .ok (.bipush 8, 2) := by decide +kernel
theorem dX8_bits_7 : decode cX8_bits 7 = .ok (.if_icmp .ge 17, 3) := by decide +kernel
theorem dX8_bits_10 : decode cX8_bits 10 = .ok (.iload_n 1, 1) := by decide +kernel
theorem dX8_bits_11 : decode cX8_bits 11 = .ok (.iload_n 0, 1) := by decide +kernel
theorem dX8_bits_12 : decode cX8_bits 12 = .ok (.iload_n 2, 1) := by decide +kernel
theorem dX8_bits_13 : decode cX8_bits 13 = .ok (.ishr, 1) := by decide +kernel
theorem dX8_bits_14 : decode cX8_bits 14 = .ok (.iconst 1, 1) := by decide +kernel
theorem dX8_bits_15 : decode cX8_bits 15 = .ok (.iand, 1) := by decide +kernel
theorem dX8_bits_16 : decode cX8_bits 16 = .ok (.iadd, 1) := by decide +kernel
theorem dX8_bits_17 : decode cX8_bits 17 = .ok (.istore_n 1, 1) := by decide +kernel
theorem dX8_bits_18 : decode cX8_bits 18 = .ok (.iinc 2 1, 3) := by decide +kernel
theorem dX8_bits_21 : decode cX8_bits 21 = .ok (.goto (-17), 3) := by decide +kernel
theorem dX8_bits_24 : decode cX8_bits 24 = .ok (.iload_n 1, 1) := by decide +kernel
theorem dX8_bits_25 : decode cX8_bits 25 = .ok (.ireturn, 1) := by decide +kernel
theorem dX8_isOne_0 : decode cX8_isOne 0 = .ok (.iload_n 1, 1) := by decide +kernel
theorem dX8_isOne_1 : decode cX8_isOne 1 = .ok (.iconst 0, 1) := by decide +kernel
theorem dX8_isOne_2 : decode cX8_isOne 2 = .ok (.aload_n 0, 1) := by decide +kernel
theorem dX8_isOne_3 : decode cX8_isOne 3 = .ok (.getfield 73, 3) := by decide +kernel
theorem dX8_isOne_6 : decode cX8_isOne 6 = .ok (.iconst 1, 1) := by decide +kernel
theorem dX8_isOne_7 : decode cX8_isOne 7 = .ok (.isub, 1) := by decide +kernel
theorem dX8_isOne_8 : decode cX8_isOne 8 = .ok (.invokestatic 76, 3) := by decide +kernel
theorem dX8_isOne_11 : decode cX8_isOne 11 = .ok (.ireturn, 1) := by decide +kernel
theorem dX8_write_0 : decode cX8_write 0 = .ok (.iload_n 1, 1) := by decide +kernel
theorem dX8_write_1 : decode cX8_write 1 = .ok (.bipush 32, 2) := by decide +kernel
theorem dX8_write_3 : decode cX8_write 3 = .ok (.bipush 126, 2) := by decide +kernel
theorem dX8_write_5 : decode cX8_write 5 = .ok (.invokestatic 76, 3) := by decide +kernel
theorem dX8_write_8 : decode cX8_write 8 = .ok (.ifCond .ne 5, 3) := by decide +kernel
theorem dX8_write_11 : decode cX8_write 11 = .ok (.iconst (-1), 1) := by decide +kernel
theorem dX8_write_12 : decode cX8_write 12 = .ok (.ireturn, 1) := by decide +kernel
theorem dX8_write_13 : decode cX8_write 13 = .ok (.aload_n 0, 1) := by decide +kernel
theorem dX8_write_14 : decode cX8_write 14 = .ok (.getfield 80, 3) := by decide +kernel
theorem dX8_write_17 : decode cX8_write 17 = .ok (.sipush 200, 3) := by decide +kernel
theorem dX8_write_20 : decode cX8_write 20 = .ok (.if_icmp .ne 6, 3) := by decide +kernel
theorem dX8_write_23 : decode cX8_write 23 = .ok (.bipush (-3), 2) := by decide +kernel
theorem dX8_write_25 : decode cX8_write 25 = .ok (.ireturn, 1) := by decide +kernel
theorem dX8_write_26 : decode cX8_write 26 = .ok (.aload_n 0, 1) := by decide +kernel
theorem dX8_write_27 : decode cX8_write 27 = .ok (.getfield 31, 3) := by decide +kernel
theorem dX8_write_30 : decode cX8_write 30 = .ok (.aload_n 0, 1) := by decide +kernel
theorem dX8_write_31 : decode cX8_write 31 = .ok (.getfield 80, 3) := by decide +kernel
theorem dX8_write_34 : decode cX8_write 34 = .ok (.iload_n 1, 1) := by decide +kernel
theorem dX8_write_35 : decode cX8_write 35 = .ok (.iastore, 1) := by decide +kernel
theorem dX8_write_36 : decode cX8_write 36 = .ok (.aload_n 0, 1) := by decide +kernel
theorem dX8_write_37 : decode cX8_write 37 = .ok (.dup, 1) := by decide +kernel
theorem dX8_write_38 : decode cX8_write 38 = .ok (.getfield 80, 3) := by decide +kernel
theorem dX8_write_41 : decode cX8_write 41 = .ok (.iconst 1, 1) := by decide +kernel
theorem dX8_write_42 : decode cX8_write 42 = .ok (.iadd, 1) := by decide +kernel
theorem dX8_write_43 : decode cX8_write 43 = .ok (.putfield 80, 3) := by decide +kernel
theorem dX8_write_46 : decode cX8_write 46 = .ok (.aload_n 0, 1) := by decide +kernel
theorem dX8_write_47 : decode cX8_write 47 = .ok (.getfield 80, 3) := by decide +kernel
theorem dX8_write_50 : decode cX8_write 50 = .ok (.ireturn, 1) := by decide +kernel
theorem dX8_wipe_0 : decode cX8_wipe 0 = .ok (.aload_n 0, 1) := by decide +kernel
theorem dX8_wipe_1 : decode cX8_wipe 1 = .ok (.getfield 80, 3) := by decide +kernel
theorem dX8_wipe_4 : decode cX8_wipe 4 = .ok (.istore_n 1, 1) := by decide +kernel
theorem dX8_wipe_5 : decode cX8_wipe 5 = .ok (.aload_n 0, 1) := by decide +kernel
theorem dX8_wipe_6 : decode cX8_wipe 6 = .ok (.iconst 0, 1) := by decide +kernel
theorem dX8_wipe_7 : decode cX8_wipe 7 = .ok (.putfield 80, 3) := by decide +kernel
theorem dX8_wipe_10 : decode cX8_wipe 10 = .ok (.iload_n 1, 1) := by decide +kernel
theorem dX8_wipe_11 : decode cX8_wipe 11 = .ok (.ireturn, 1) := by decide +kernel
theorem dX8_letterAt_0 : decode cX8_letterAt 0 = .ok (.iload_n 1, 1) := by decide +kernel
theorem dX8_letterAt_1 : decode cX8_letterAt 1 = .ok (.aload_n 0, 1) := by decide +kernel
theorem dX8_letterAt_2 : decode cX8_letterAt 2 = .ok (.getfield 80, 3) := by decide +kernel
theorem dX8_letterAt_5 : decode cX8_letterAt 5 = .ok (.if_icmp .ge 12, 3) := by decide +kernel
theorem dX8_letterAt_8 : decode cX8_letterAt 8 = .ok (.aload_n 0, 1) := by decide +kernel
theorem dX8_letterAt_9 : decode cX8_letterAt 9 = .ok (.getfield 31, 3) := by decide +kernel
theorem dX8_letterAt_12 : decode cX8_letterAt 12 = .ok (.iload_n 1, 1) := by decide +kernel
theorem dX8_letterAt_13 : decode cX8_letterAt 13 = .ok (.iaload, 1) := by decide +kernel
theorem dX8_letterAt_14 : decode cX8_letterAt 14 = .ok (.goto 4, 3) := by decide +kernel
theorem dX8_letterAt_17 : decode cX8_letterAt 17 = .ok (.iconst (-1), 1) := by decide +kernel
theorem dX8_letterAt_18 : decode cX8_letterAt 18 = .ok (.ireturn, 1) := by decide +kernel
theorem dX8_isFigure_0 : decode cX8_isFigure 0 = .ok (.iload_n 0, 1) := by decide +kernel
theorem dX8_isFigure_1 : decode cX8_isFigure 1 = .ok (.bipush 48, 2) := by decide +kernel
theorem dX8_isFigure_3 : decode cX8_isFigure 3 = .ok (.bipush 57, 2) := by decide +kernel
theorem dX8_isFigure_5 : decode cX8_isFigure 5 = .ok (.invokestatic 76, 3) := by decide +kernel
theorem dX8_isFigure_8 : decode cX8_isFigure 8 = .ok (.ireturn, 1) := by decide +kernel
theorem dX8_readNumbers_0 : decode cX8_readNumbers 0 = .ok (.iconst 0, 1) := by decide +kernel
theorem dX8_readNumbers_1 : decode cX8_readNumbers 1 = .ok (.istore_n 2, 1) := by decide +kernel
theorem dX8_readNumbers_2 : decode cX8_readNumbers 2 = .ok (.iload_n 2, 1) := by decide +kernel
theorem dX8_readNumbers_3 : decode cX8_readNumbers 3 = .ok (.iload_n 1, 1) := by decide +kernel
theorem dX8_readNumbers_4 : decode cX8_readNumbers 4 = .ok (.if_icmp .ge 140, 3) := by decide +kernel
theorem dX8_readNumbers_7 : decode cX8_readNumbers 7 = .ok (.aload_n 0, 1) := by decide +kernel
theorem dX8_readNumbers_8 : decode cX8_readNumbers 8 = .ok (.aload_n 0, 1) := by decide +kernel
theorem dX8_readNumbers_9 : decode cX8_readNumbers 9 = .ok (.getfield 83, 3) := by decide +kernel
theorem dX8_readNumbers_12 : decode cX8_readNumbers 12 = .ok (.invokevirtual 86, 3) := by decide +kernel
theorem dX8_readNumbers_15 : decode cX8_readNumbers 15 = .ok (.invokestatic 90, 3) := by decide +kernel
theorem dX8_readNumbers_18 : decode cX8_readNumbers 18 = .ok (.ifCond .ne 5, 3) := by decide +kernel
theorem dX8_readNumbers_21 : decode cX8_readNumbers 21 = .ok (.iconst 0, 1) := by decide +kernel
theorem dX8_readNumbers_22 : decode cX8_readNumbers 22 = .ok (.ireturn, 1) := by decide +kernel
theorem dX8_readNumbers_23 : decode cX8_readNumbers 23 = .ok (.aload_n 0, 1) := by decide +kernel
theorem dX8_readNumbers_24 : decode cX8_readNumbers 24 = .ok (.getfield 34, 3) := by decide +kernel
theorem dX8_readNumbers_27 : decode cX8_readNumbers 27 = .ok (.iload_n 2, 1) := by decide +kernel
theorem dX8_readNumbers_28 : decode cX8_readNumbers 28 = .ok (.aload_n 0, 1) := by decide +kernel
theorem dX8_readNumbers_29 : decode cX8_readNumbers 29 = .ok (.aload_n 0, 1) := by decide +kernel
theorem dX8_readNumbers_30 : decode cX8_readNumbers 30 = .ok (.getfield 83, 3) := by decide +kernel
theorem dX8_readNumbers_33 : decode cX8_readNumbers 33 = .ok (.invokevirtual 86, 3) := by decide +kernel
theorem dX8_readNumbers_36 : decode cX8_readNumbers 36 = .ok (.bipush 48, 2) := by decide +kernel
theorem dX8_readNumbers_38 : decode cX8_readNumbers 38 = .ok (.isub, 1) := by decide +kernel
theorem dX8_readNumbers_39 : decode cX8_readNumbers 39 = .ok (.iastore, 1) := by decide +kernel
theorem dX8_readNumbers_40 : decode cX8_readNumbers 40 = .ok (.aload_n 0, 1) := by decide +kernel
theorem dX8_readNumbers_41 : decode cX8_readNumbers 41 = .ok (.dup, 1) := by decide +kernel
theorem dX8_readNumbers_42 : decode cX8_readNumbers 42 = .ok (.getfield 83, 3) := by decide +kernel
theorem dX8_readNumbers_45 : decode cX8_readNumbers 45 = .ok (.iconst 1, 1) := by decide +kernel
theorem dX8_readNumbers_46 : decode cX8_readNumbers 46 = .ok (.iadd, 1) := by decide +kernel
theorem dX8_readNumbers_47 : decode cX8_readNumbers 47 = .ok (.putfield 83, 3) := by decide +kernel
theorem dX8_readNumbers_50 : decode cX8_readNumbers 50 = .ok (.aload_n 0, 1) := by decide +kernel
theorem dX8_readNumbers_51 : decode cX8_readNumbers 51 = .ok (.aload_n 0, 1) := by decide +kernel
theorem dX8_readNumbers_52 : decode cX8_readNumbers 52 = .ok (.getfield 83, 3) := by decide +kernel
theorem dX8_readNumbers_55 : decode cX8_readNumbers 55 = .ok (.invokevirtual 86, 3) := by decide +kernel
theorem dX8_readNumbers_58 : decode cX8_readNumbers 58 = .ok (.invokestatic 90, 3) := by decide +kernel
theorem dX8_readNumbers_61 : decode cX8_readNumbers 61 = .ok (.ifCond .eq 40, 3) := by decide +kernel
theorem dX8_readNumbers_64 : decode cX8_readNumbers 64 = .ok (.aload_n 0, 1) := by decide +kernel
theorem dX8_readNumbers_65 : decode cX8_readNumbers 65 = .ok (.getfield 34, 3) := by decide +kernel
theorem dX8_readNumbers_68 : decode cX8_readNumbers 68 = .ok (.iload_n 2, 1) := by decide +kernel
theorem dX8_readNumbers_69 : decode cX8_readNumbers 69 = .ok (.bipush 10, 2) := by decide +kernel
theorem dX8_readNumbers_71 : decode cX8_readNumbers 71 = .ok (.aload_n 0, 1) := by decide +kernel
theorem dX8_readNumbers_72 : decode cX8_readNumbers 72 = .ok (.getfield 34, 3) := by decide +kernel
theorem dX8_readNumbers_75 : decode cX8_readNumbers 75 = .ok (.iload_n 2, 1) := by decide +kernel
theorem dX8_readNumbers_76 : decode cX8_readNumbers 76 = .ok (.iaload, 1) := by decide +kernel
theorem dX8_readNumbers_77 : decode cX8_readNumbers 77 = .ok (.imul, 1) := by decide +kernel
theorem dX8_readNumbers_78 : decode cX8_readNumbers 78 = .ok (.aload_n 0, 1) := by decide +kernel
theorem dX8_readNumbers_79 : decode cX8_readNumbers 79 = .ok (.aload_n 0, 1) := by decide +kernel
theorem dX8_readNumbers_80 : decode cX8_readNumbers 80 = .ok (.getfield 83, 3) := by decide +kernel
theorem dX8_readNumbers_83 : decode cX8_readNumbers 83 = .ok (.invokevirtual 86, 3) := by decide +kernel
theorem dX8_readNumbers_86 : decode cX8_readNumbers 86 = .ok (.iadd, 1) := by decide +kernel
theorem dX8_readNumbers_87 : decode cX8_readNumbers 87 = .ok (.bipush 48, 2) := by decide +kernel
theorem dX8_readNumbers_89 : decode cX8_readNumbers 89 = .ok (.isub, 1) := by decide +kernel
theorem dX8_readNumbers_90 : decode cX8_readNumbers 90 = .ok (.iastore, 1) := by decide +kernel
theorem dX8_readNumbers_91 : decode cX8_readNumbers 91 = .ok (.aload_n 0, 1) := by decide +kernel
theorem dX8_readNumbers_92 : decode cX8_readNumbers 92 = .ok (.dup, 1) := by decide +kernel
theorem dX8_readNumbers_93 : decode cX8_readNumbers 93 = .ok (.getfield 83, 3) := by decide +kernel
theorem dX8_readNumbers_96 : decode cX8_readNumbers 96 = .ok (.iconst 1, 1) := by decide +kernel
theorem dX8_readNumbers_97 : decode cX8_readNumbers 97 = .ok (.iadd, 1) := by decide +kernel
theorem dX8_readNumbers_98 : decode cX8_readNumbers 98 = .ok (.putfield 83, 3) := by decide +kernel
theorem dX8_readNumbers_101 : decode cX8_readNumbers 101 = .ok (.aload_n 0, 1) := by decide +kernel
theorem dX8_readNumbers_102 : decode cX8_readNumbers 102 = .ok (.aload_n 0, 1) := by decide +kernel
theorem dX8_readNumbers_103 : decode cX8_readNumbers 103 = .ok (.getfield 83, 3) := by decide +kernel
end
section
theorem dX8_readNumbers_106 : decode cX8_readNumbers 106 = .ok (.invokevirtual 86, 3) := by decide +kernel
theorem dX8_readNumbers_109 : decode cX8_readNumbers 109 = .ok (.iload_n 2, 1) := by decide +kernel
theorem dX8_readNumbers_110 : decode cX8_readNumbers 110 = .ok (.iload_n 1, 1) := by decide +kernel
theorem dX8_readNumbers_111 : decode cX8_readNumbers 111 = .ok (.iconst 1, 1) := by decide +kernel
theorem dX8_readNumbers_112 : decode cX8_readNumbers 112 = .ok (.isub, 1) := by decide +kernel
theorem dX8_readNumbers_113 : decode cX8_readNumbers 113 = .ok (.if_icmp .ge 8, 3) := by decide +kernel
theorem dX8_readNumbers_116 : decode cX8_readNumbers 116 = .ok (.bipush 44, 2) := by decide +kernel
theorem dX8_readNumbers_118 : decode cX8_readNumbers 118 = .ok (.goto 5, 3) := by decide +kernel
theorem dX8_readNumbers_121 : decode cX8_readNumbers 121 = .ok (.bipush 59, 2) := by decide +kernel
theorem dX8_readNumbers_123 : decode cX8_readNumbers 123 = .ok (.if_icmp .eq 5, 3) := by decide +kernel
theorem dX8_readNumbers_126 : decode cX8_readNumbers 126 = .ok (.iconst 0, 1) := by decide +kernel
theorem dX8_readNumbers_127 : decode cX8_readNumbers 127 = .ok (.ireturn, 1) := by decide +kernel
theorem dX8_readNumbers_128 : decode cX8_readNumbers 128 = .ok (.aload_n 0, 1) := by decide +kernel
theorem dX8_readNumbers_129 : decode cX8_readNumbers 129 = .ok (.dup, 1) := by decide +kernel
theorem dX8_readNumbers_130 : decode cX8_readNumbers 130 = .ok (.getfield 83, 3) := by decide +kernel
theorem dX8_readNumbers_133 : decode cX8_readNumbers 133 = .ok (.iconst 1, 1) := by decide +kernel
theorem dX8_readNumbers_134 : decode cX8_readNumbers 134 = .ok (.iadd, 1) := by decide +kernel
theorem dX8_readNumbers_135 : decode cX8_readNumbers 135 = .ok (.putfield 83, 3) := by decide +kernel
theorem dX8_readNumbers_138 : decode cX8_readNumbers 138 = .ok (.iinc 2 1, 3) := by decide +kernel
theorem dX8_readNumbers_141 : decode cX8_readNumbers 141 = .ok (.goto (-139), 3) := by decide +kernel
theorem dX8_readNumbers_144 : decode cX8_readNumbers 144 = .ok (.iconst 1, 1) := by decide +kernel
theorem dX8_readNumbers_145 : decode cX8_readNumbers 145 = .ok (.ireturn, 1) := by decide +kernel
theorem dX8_isTold_0 : decode cX8_isTold 0 = .ok (.aload_n 0, 1) := by decide +kernel
theorem dX8_isTold_1 : decode cX8_isTold 1 = .ok (.getfield 34, 3) := by decide +kernel
theorem dX8_isTold_4 : decode cX8_isTold 4 = .ok (.iload_n 1, 1) := by decide +kernel
theorem dX8_isTold_5 : decode cX8_isTold 5 = .ok (.iaload, 1) := by decide +kernel
theorem dX8_isTold_6 : decode cX8_isTold 6 = .ok (.iload_n 2, 1) := by decide +kernel
theorem dX8_isTold_7 : decode cX8_isTold 7 = .ok (.iload_n 3, 1) := by decide +kernel
theorem dX8_isTold_8 : decode cX8_isTold 8 = .ok (.invokestatic 76, 3) := by decide +kernel
theorem dX8_isTold_11 : decode cX8_isTold 11 = .ok (.ireturn, 1) := by decide +kernel
theorem dX8_put_0 : decode cX8_put 0 = .ok (.iconst 0, 1) := by decide +kernel
theorem dX8_put_1 : decode cX8_put 1 = .ok (.istore 4, 2) := by decide +kernel
theorem dX8_put_3 : decode cX8_put 3 = .ok (.iload 4, 2) := by decide +kernel
theorem dX8_put_5 : decode cX8_put 5 = .ok (.iload_n 3, 1) := by decide +kernel
theorem dX8_put_6 : decode cX8_put 6 = .ok (.if_icmp .ge 19, 3) := by decide +kernel
theorem dX8_put_9 : decode cX8_put 9 = .ok (.aload_n 0, 1) := by decide +kernel
theorem dX8_put_10 : decode cX8_put 10 = .ok (.iload_n 1, 1) := by decide +kernel
theorem dX8_put_11 : decode cX8_put 11 = .ok (.iload 4, 2) := by decide +kernel
theorem dX8_put_13 : decode cX8_put 13 = .ok (.iadd, 1) := by decide +kernel
theorem dX8_put_14 : decode cX8_put 14 = .ok (.aload_n 2, 1) := by decide +kernel
theorem dX8_put_15 : decode cX8_put 15 = .ok (.iload 4, 2) := by decide +kernel
theorem dX8_put_17 : decode cX8_put 17 = .ok (.iaload, 1) := by decide +kernel
theorem dX8_put_18 : decode cX8_put 18 = .ok (.iastore, 1) := by decide +kernel
theorem dX8_put_19 : decode cX8_put 19 = .ok (.iinc 4 1, 3) := by decide +kernel
theorem dX8_put_22 : decode cX8_put 22 = .ok (.goto (-19), 3) := by decide +kernel
theorem dX8_put_25 : decode cX8_put 25 = .ok (.return_, 1) := by decide +kernel
theorem dX8_clearTold_0 : decode cX8_clearTold 0 = .ok (.aload_n 0, 1) := by decide +kernel
theorem dX8_clearTold_1 : decode cX8_clearTold 1 = .ok (.iconst 0, 1) := by decide +kernel
theorem dX8_clearTold_2 : decode cX8_clearTold 2 = .ok (.putfield 66, 3) := by decide +kernel
theorem dX8_clearTold_5 : decode cX8_clearTold 5 = .ok (.aload_n 0, 1) := by decide +kernel
theorem dX8_clearTold_6 : decode cX8_clearTold 6 = .ok (.iconst 0, 1) := by decide +kernel
theorem dX8_clearTold_7 : decode cX8_clearTold 7 = .ok (.putfield 70, 3) := by decide +kernel
theorem dX8_clearTold_10 : decode cX8_clearTold 10 = .ok (.iconst 0, 1) := by decide +kernel
theorem dX8_clearTold_11 : decode cX8_clearTold 11 = .ok (.istore_n 1, 1) := by decide +kernel
theorem dX8_clearTold_12 : decode cX8_clearTold 12 = .ok (.iload_n 1, 1) := by decide +kernel
theorem dX8_clearTold_13 : decode cX8_clearTold 13 = .ok (.bipush 17, 2) := by decide +kernel
theorem dX8_clearTold_15 : decode cX8_clearTold 15 = .ok (.if_icmp .ge 32, 3) := by decide +kernel
theorem dX8_clearTold_18 : decode cX8_clearTold 18 = .ok (.aload_n 0, 1) := by decide +kernel
theorem dX8_clearTold_19 : decode cX8_clearTold 19 = .ok (.getfield 43, 3) := by decide +kernel
theorem dX8_clearTold_22 : decode cX8_clearTold 22 = .ok (.iload_n 1, 1) := by decide +kernel
theorem dX8_clearTold_23 : decode cX8_clearTold 23 = .ok (.iload_n 1, 1) := by decide +kernel
theorem dX8_clearTold_24 : decode cX8_clearTold 24 = .ok (.iconst 1, 1) := by decide +kernel
theorem dX8_clearTold_25 : decode cX8_clearTold 25 = .ok (.bipush 8, 2) := by decide +kernel
theorem dX8_clearTold_27 : decode cX8_clearTold 27 = .ok (.invokestatic 76, 3) := by decide +kernel
theorem dX8_clearTold_30 : decode cX8_clearTold 30 = .ok (.ifCond .eq 9, 3) := by decide +kernel
theorem dX8_clearTold_33 : decode cX8_clearTold 33 = .ok (.iload_n 1, 1) := by decide +kernel
theorem dX8_clearTold_34 : decode cX8_clearTold 34 = .ok (.iconst 1, 1) := by decide +kernel
theorem dX8_clearTold_35 : decode cX8_clearTold 35 = .ok (.isub, 1) := by decide +kernel
theorem dX8_clearTold_36 : decode cX8_clearTold 36 = .ok (.goto 4, 3) := by decide +kernel
theorem dX8_clearTold_39 : decode cX8_clearTold 39 = .ok (.iconst 0, 1) := by decide +kernel
theorem dX8_clearTold_40 : decode cX8_clearTold 40 = .ok (.iastore, 1) := by decide +kernel
theorem dX8_clearTold_41 : decode cX8_clearTold 41 = .ok (.iinc 1 1, 3) := by decide +kernel
theorem dX8_clearTold_44 : decode cX8_clearTold 44 = .ok (.goto (-32), 3) := by decide +kernel
theorem dX8_clearTold_47 : decode cX8_clearTold 47 = .ok (.return_, 1) := by decide +kernel
theorem dX8_readCousinOf_0 : decode cX8_readCousinOf 0 = .ok (.aload_n 0, 1) := by decide +kernel
theorem dX8_readCousinOf_1 : decode cX8_readCousinOf 1 = .ok (.getfield 66, 3) := by decide +kernel
theorem dX8_readCousinOf_4 : decode cX8_readCousinOf 4 = .ok (.bipush 8, 2) := by decide +kernel
theorem dX8_readCousinOf_6 : decode cX8_readCousinOf 6 = .ok (.if_icmp .eq 43, 3) := by decide +kernel
theorem dX8_readCousinOf_9 : decode cX8_readCousinOf 9 = .ok (.aload_n 0, 1) := by decide +kernel
theorem dX8_readCousinOf_10 : decode cX8_readCousinOf 10 = .ok (.iconst 3, 1) := by decide +kernel
theorem dX8_readCousinOf_11 : decode cX8_readCousinOf 11 = .ok (.invokevirtual 94, 3) := by decide +kernel
theorem dX8_readCousinOf_14 : decode cX8_readCousinOf 14 = .ok (.ifCond .eq 35, 3) := by decide +kernel
theorem dX8_readCousinOf_17 : decode cX8_readCousinOf 17 = .ok (.aload_n 0, 1) := by decide +kernel
theorem dX8_readCousinOf_18 : decode cX8_readCousinOf 18 = .ok (.iconst 0, 1) := by decide +kernel
theorem dX8_readCousinOf_19 : decode cX8_readCousinOf 19 = .ok (.iconst 0, 1) := by decide +kernel
theorem dX8_readCousinOf_20 : decode cX8_readCousinOf 20 = .ok (.iconst 3, 1) := by decide +kernel
theorem dX8_readCousinOf_21 : decode cX8_readCousinOf 21 = .ok (.invokevirtual 97, 3) := by decide +kernel
theorem dX8_readCousinOf_24 : decode cX8_readCousinOf 24 = .ok (.ifCond .eq 25, 3) := by decide +kernel
theorem dX8_readCousinOf_27 : decode cX8_readCousinOf 27 = .ok (.aload_n 0, 1) := by decide +kernel
theorem dX8_readCousinOf_28 : decode cX8_readCousinOf 28 = .ok (.iconst 1, 1) := by decide +kernel
theorem dX8_readCousinOf_29 : decode cX8_readCousinOf 29 = .ok (.iconst 0, 1) := by decide +kernel
theorem dX8_readCousinOf_30 : decode cX8_readCousinOf 30 = .ok (.bipush 59, 2) := by decide +kernel
theorem dX8_readCousinOf_32 : decode cX8_readCousinOf 32 = .ok (.invokevirtual 97, 3) := by decide +kernel
theorem dX8_readCousinOf_35 : decode cX8_readCousinOf 35 = .ok (.ifCond .eq 14, 3) := by decide +kernel
theorem dX8_readCousinOf_38 : decode cX8_readCousinOf 38 = .ok (.aload_n 0, 1) := by decide +kernel
theorem dX8_readCousinOf_39 : decode cX8_readCousinOf 39 = .ok (.iconst 2, 1) := by decide +kernel
theorem dX8_readCousinOf_40 : decode cX8_readCousinOf 40 = .ok (.iconst 0, 1) := by decide +kernel
theorem dX8_readCousinOf_41 : decode cX8_readCousinOf 41 = .ok (.bipush 9, 2) := by decide +kernel
theorem dX8_readCousinOf_43 : decode cX8_readCousinOf 43 = .ok (.invokevirtual 97, 3) := by decide +kernel
theorem dX8_readCousinOf_46 : decode cX8_readCousinOf 46 = .ok (.ifCond .ne 5, 3) := by decide +kernel
theorem dX8_readCousinOf_49 : decode cX8_readCousinOf 49 = .ok (.iconst 0, 1) := by decide +kernel
theorem dX8_readCousinOf_50 : decode cX8_readCousinOf 50 = .ok (.ireturn, 1) := by decide +kernel
theorem dX8_readCousinOf_51 : decode cX8_readCousinOf 51 = .ok (.aload_n 0, 1) := by decide +kernel
theorem dX8_readCousinOf_52 : decode cX8_readCousinOf 52 = .ok (.aload_n 0, 1) := by decide +kernel
theorem dX8_readCousinOf_53 : decode cX8_readCousinOf 53 = .ok (.getfield 34, 3) := by decide +kernel
theorem dX8_readCousinOf_56 : decode cX8_readCousinOf 56 = .ok (.iconst 0, 1) := by decide +kernel
theorem dX8_readCousinOf_57 : decode cX8_readCousinOf 57 = .ok (.iaload, 1) := by decide +kernel
theorem dX8_readCousinOf_58 : decode cX8_readCousinOf 58 = .ok (.aload_n 0, 1) := by decide +kernel
theorem dX8_readCousinOf_59 : decode cX8_readCousinOf 59 = .ok (.getfield 34, 3) := by decide +kernel
theorem dX8_readCousinOf_62 : decode cX8_readCousinOf 62 = .ok (.iconst 1, 1) := by decide +kernel
theorem dX8_readCousinOf_63 : decode cX8_readCousinOf 63 = .ok (.iaload, 1) := by decide +kernel
theorem dX8_readCousinOf_64 : decode cX8_readCousinOf 64 = .ok (.aload_n 0, 1) := by decide +kernel
theorem dX8_readCousinOf_65 : decode cX8_readCousinOf 65 = .ok (.getfield 34, 3) := by decide +kernel
theorem dX8_readCousinOf_68 : decode cX8_readCousinOf 68 = .ok (.iconst 2, 1) := by decide +kernel
theorem dX8_readCousinOf_69 : decode cX8_readCousinOf 69 = .ok (.iaload, 1) := by decide +kernel
theorem dX8_readCousinOf_70 : decode cX8_readCousinOf 70 = .ok (.invokevirtual 55, 3) := by decide +kernel
theorem dX8_readCousinOf_73 : decode cX8_readCousinOf 73 = .ok (.iconst 1, 1) := by decide +kernel
theorem dX8_readCousinOf_74 : decode cX8_readCousinOf 74 = .ok (.ireturn, 1) := by decide +kernel
theorem dX8_readRoomOf_0 : decode cX8_readRoomOf 0 = .ok (.aload_n 0, 1) := by decide +kernel
theorem dX8_readRoomOf_1 : decode cX8_readRoomOf 1 = .ok (.getfield 70, 3) := by decide +kernel
theorem dX8_readRoomOf_4 : decode cX8_readRoomOf 4 = .ok (.bipush 8, 2) := by decide +kernel
theorem dX8_readRoomOf_6 : decode cX8_readRoomOf 6 = .ok (.if_icmp .eq 33, 3) := by decide +kernel
theorem dX8_readRoomOf_9 : decode cX8_readRoomOf 9 = .ok (.aload_n 0, 1) := by decide +kernel
theorem dX8_readRoomOf_10 : decode cX8_readRoomOf 10 = .ok (.iconst 2, 1) := by decide +kernel
theorem dX8_readRoomOf_11 : decode cX8_readRoomOf 11 = .ok (.invokevirtual 94, 3) := by decide +kernel
theorem dX8_readRoomOf_14 : decode cX8_readRoomOf 14 = .ok (.ifCond .eq 25, 3) := by decide +kernel
theorem dX8_readRoomOf_17 : decode cX8_readRoomOf 17 = .ok (.aload_n 0, 1) := by decide +kernel
theorem dX8_readRoomOf_18 : decode cX8_readRoomOf 18 = .ok (.iconst 0, 1) := by decide +kernel
theorem dX8_readRoomOf_19 : decode cX8_readRoomOf 19 = .ok (.iconst 0, 1) := by decide +kernel
theorem dX8_readRoomOf_20 : decode cX8_readRoomOf 20 = .ok (.bipush 9, 2) := by decide +kernel
theorem dX8_readRoomOf_22 : decode cX8_readRoomOf 22 = .ok (.invokevirtual 97, 3) := by decide +kernel
theorem dX8_readRoomOf_25 : decode cX8_readRoomOf 25 = .ok (.ifCond .eq 14, 3) := by decide +kernel
theorem dX8_readRoomOf_28 : decode cX8_readRoomOf 28 = .ok (.aload_n 0, 1) := by decide +kernel
theorem dX8_readRoomOf_29 : decode cX8_readRoomOf 29 = .ok (.iconst 1, 1) := by decide +kernel
theorem dX8_readRoomOf_30 : decode cX8_readRoomOf 30 = .ok (.iconst 0, 1) := by decide +kernel
theorem dX8_readRoomOf_31 : decode cX8_readRoomOf 31 = .ok (.bipush 9, 2) := by decide +kernel
theorem dX8_readRoomOf_33 : decode cX8_readRoomOf 33 = .ok (.invokevirtual 97, 3) := by decide +kernel
theorem dX8_readRoomOf_36 : decode cX8_readRoomOf 36 = .ok (.ifCond .ne 5, 3) := by decide +kernel
theorem dX8_readRoomOf_39 : decode cX8_readRoomOf 39 = .ok (.iconst 0, 1) := by decide +kernel
theorem dX8_readRoomOf_40 : decode cX8_readRoomOf 40 = .ok (.ireturn, 1) := by decide +kernel
theorem dX8_readRoomOf_41 : decode cX8_readRoomOf 41 = .ok (.aload_n 0, 1) := by decide +kernel
theorem dX8_readRoomOf_42 : decode cX8_readRoomOf 42 = .ok (.aload_n 0, 1) := by decide +kernel
theorem dX8_readRoomOf_43 : decode cX8_readRoomOf 43 = .ok (.getfield 34, 3) := by decide +kernel
theorem dX8_readRoomOf_46 : decode cX8_readRoomOf 46 = .ok (.iconst 0, 1) := by decide +kernel
theorem dX8_readRoomOf_47 : decode cX8_readRoomOf 47 = .ok (.iaload, 1) := by decide +kernel
theorem dX8_readRoomOf_48 : decode cX8_readRoomOf 48 = .ok (.aload_n 0, 1) := by decide +kernel
theorem dX8_readRoomOf_49 : decode cX8_readRoomOf 49 = .ok (.getfield 34, 3) := by decide +kernel
theorem dX8_readRoomOf_52 : decode cX8_readRoomOf 52 = .ok (.iconst 1, 1) := by decide +kernel
theorem dX8_readRoomOf_53 : decode cX8_readRoomOf 53 = .ok (.iaload, 1) := by decide +kernel
theorem dX8_readRoomOf_54 : decode cX8_readRoomOf 54 = .ok (.invokevirtual 59, 3) := by decide +kernel
theorem dX8_readRoomOf_57 : decode cX8_readRoomOf 57 = .ok (.iconst 1, 1) := by decide +kernel
theorem dX8_readRoomOf_58 : decode cX8_readRoomOf 58 = .ok (.ireturn, 1) := by decide +kernel
theorem dX8_readItem_0 : decode cX8_readItem 0 = .ok (.aload_n 0, 1) := by decide +kernel
theorem dX8_readItem_1 : decode cX8_readItem 1 = .ok (.aload_n 0, 1) := by decide +kernel
theorem dX8_readItem_2 : decode cX8_readItem 2 = .ok (.getfield 83, 3) := by decide +kernel
theorem dX8_readItem_5 : decode cX8_readItem 5 = .ok (.invokevirtual 86, 3) := by decide +kernel
theorem dX8_readItem_8 : decode cX8_readItem 8 = .ok (.istore_n 1, 1) := by decide +kernel
theorem dX8_readItem_9 : decode cX8_readItem 9 = .ok (.aload_n 0, 1) := by decide +kernel
theorem dX8_readItem_10 : decode cX8_readItem 10 = .ok (.dup, 1) := by decide +kernel
theorem dX8_readItem_11 : decode cX8_readItem 11 = .ok (.getfield 83, 3) := by decide +kernel
theorem dX8_readItem_14 : decode cX8_readItem 14 = .ok (.iconst 1, 1) := by decide +kernel
theorem dX8_readItem_15 : decode cX8_readItem 15 = .ok (.iadd, 1) := by decide +kernel
theorem dX8_readItem_16 : decode cX8_readItem 16 = .ok (.putfield 83, 3) := by decide +kernel
theorem dX8_readItem_19 : decode cX8_readItem 19 = .ok (.iload_n 1, 1) := by decide +kernel
theorem dX8_readItem_20 : decode cX8_readItem 20 = .ok (.lookupswitch 38 #[(99, 28), (114, 33)], 28) := by decide +kernel
theorem dX8_readItem_48 : decode cX8_readItem 48 = .ok (.aload_n 0, 1) := by decide +kernel
theorem dX8_readItem_49 : decode cX8_readItem 49 = .ok (.invokevirtual 100, 3) := by decide +kernel
theorem dX8_readItem_52 : decode cX8_readItem 52 = .ok (.ireturn, 1) := by decide +kernel
theorem dX8_readItem_53 : decode cX8_readItem 53 = .ok (.aload_n 0, 1) := by decide +kernel
theorem dX8_readItem_54 : decode cX8_readItem 54 = .ok (.invokevirtual 104, 3) := by decide +kernel
theorem dX8_readItem_57 : decode cX8_readItem 57 = .ok (.ireturn, 1) := by decide +kernel
theorem dX8_readItem_58 : decode cX8_readItem 58 = .ok (.iconst 0, 1) := by decide +kernel
theorem dX8_readItem_59 : decode cX8_readItem 59 = .ok (.ireturn, 1) := by decide +kernel
theorem dX8_fault_0 : decode cX8_fault 0 = .ok (.aload_n 0, 1) := by decide +kernel
theorem dX8_fault_1 : decode cX8_fault 1 = .ok (.iconst 0, 1) := by decide +kernel
theorem dX8_fault_2 : decode cX8_fault 2 = .ok (.putfield 83, 3) := by decide +kernel
theorem dX8_fault_5 : decode cX8_fault 5 = .ok (.aload_n 0, 1) := by decide +kernel
theorem dX8_fault_6 : decode cX8_fault 6 = .ok (.invokevirtual 52, 3) := by decide +kernel
theorem dX8_fault_9 : decode cX8_fault 9 = .ok (.aload_n 0, 1) := by decide +kernel
theorem dX8_fault_10 : decode cX8_fault 10 = .ok (.getfield 83, 3) := by decide +kernel
theorem dX8_fault_13 : decode cX8_fault 13 = .ok (.aload_n 0, 1) := by decide +kernel
theorem dX8_fault_14 : decode cX8_fault 14 = .ok (.getfield 80, 3) := by decide +kernel
theorem dX8_fault_17 : decode cX8_fault 17 = .ok (.if_icmp .ge 20, 3) := by decide +kernel
theorem dX8_fault_20 : decode cX8_fault 20 = .ok (.aload_n 0, 1) := by decide +kernel
theorem dX8_fault_21 : decode cX8_fault 21 = .ok (.getfield 83, 3) := by decide +kernel
theorem dX8_fault_24 : decode cX8_fault 24 = .ok (.istore_n 1, 1) := by decide +kernel
theorem dX8_fault_25 : decode cX8_fault 25 = .ok (.aload_n 0, 1) := by decide +kernel
theorem dX8_fault_26 : decode cX8_fault 26 = .ok (.invokevirtual 107, 3) := by decide +kernel
theorem dX8_fault_29 : decode cX8_fault 29 = .ok (.ifCond .ne 5, 3) := by decide +kernel
theorem dX8_fault_32 : decode cX8_fault 32 = .ok (.iload_n 1, 1) := by decide +kernel
theorem dX8_fault_33 : decode cX8_fault 33 = .ok (.ireturn, 1) := by decide +kernel
theorem dX8_fault_34 : decode cX8_fault 34 = .ok (.goto (-25), 3) := by decide +kernel
theorem dX8_fault_37 : decode cX8_fault 37 = .ok (.bipush (-4), 2) := by decide +kernel
theorem dX8_fault_39 : decode cX8_fault 39 = .ok (.ireturn, 1) := by decide +kernel
theorem dX8_lay_0 : decode cX8_lay 0 = .ok (.aload_n 0, 1) := by decide +kernel
theorem dX8_lay_1 : decode cX8_lay 1 = .ok (.invokevirtual 110, 3) := by decide +kernel
theorem dX8_lay_4 : decode cX8_lay 4 = .ok (.bipush (-4), 2) := by decide +kernel
theorem dX8_lay_6 : decode cX8_lay 6 = .ok (.if_icmp .ne 21, 3) := by decide +kernel
theorem dX8_lay_9 : decode cX8_lay 9 = .ok (.aload_n 0, 1) := by decide +kernel
theorem dX8_lay_10 : decode cX8_lay 10 = .ok (.getfield 66, 3) := by decide +kernel
theorem dX8_lay_13 : decode cX8_lay 13 = .ok (.ifCond .eq 14, 3) := by decide +kernel
theorem dX8_lay_16 : decode cX8_lay 16 = .ok (.aload_n 0, 1) := by decide +kernel
theorem dX8_lay_17 : decode cX8_lay 17 = .ok (.getfield 70, 3) := by decide +kernel
theorem dX8_lay_20 : decode cX8_lay 20 = .ok (.aload_n 0, 1) := by decide +kernel
theorem dX8_lay_21 : decode cX8_lay 21 = .ok (.getfield 66, 3) := by decide +kernel
theorem dX8_lay_24 : decode cX8_lay 24 = .ok (.if_icmp .eq 6, 3) := by decide +kernel
theorem dX8_lay_27 : decode cX8_lay 27 = .ok (.bipush (-2), 2) := by decide +kernel
theorem dX8_lay_29 : decode cX8_lay 29 = .ok (.ireturn, 1) := by decide +kernel
theorem dX8_lay_30 : decode cX8_lay 30 = .ok (.aload_n 0, 1) := by decide +kernel
theorem dX8_lay_31 : decode cX8_lay 31 = .ok (.invokevirtual 63, 3) := by decide +kernel
theorem dX8_lay_34 : decode cX8_lay 34 = .ok (.aload_n 0, 1) := by decide +kernel
theorem dX8_lay_35 : decode cX8_lay 35 = .ok (.getfield 73, 3) := by decide +kernel
theorem dX8_lay_38 : decode cX8_lay 38 = .ok (.ireturn, 1) := by decide +kernel
theorem dX8_settles_0 : decode cX8_settles 0 = .ok (.aload_n 0, 1) := by decide +kernel
theorem dX8_settles_1 : decode cX8_settles 1 = .ok (.aload_n 0, 1) := by decide +kernel
theorem dX8_settles_2 : decode cX8_settles 2 = .ok (.getfield 66, 3) := by decide +kernel
theorem dX8_settles_5 : decode cX8_settles 5 = .ok (.putfield 73, 3) := by decide +kernel
theorem dX8_settles_8 : decode cX8_settles 8 = .ok (.aload_n 0, 1) := by decide +kernel
theorem dX8_settles_9 : decode cX8_settles 9 = .ok (.getfield 7, 3) := by decide +kernel
theorem dX8_settles_12 : decode cX8_settles 12 = .ok (.iconst 0, 1) := by decide +kernel
theorem dX8_settles_13 : decode cX8_settles 13 = .ok (.aload_n 0, 1) := by decide +kernel
theorem dX8_settles_14 : decode cX8_settles 14 = .ok (.getfield 37, 3) := by decide +kernel
theorem dX8_settles_17 : decode cX8_settles 17 = .ok (.bipush 16, 2) := by decide +kernel
theorem dX8_settles_19 : decode cX8_settles 19 = .ok (.invokestatic 114, 3) := by decide +kernel
theorem dX8_settles_22 : decode cX8_settles 22 = .ok (.aload_n 0, 1) := by decide +kernel
theorem dX8_settles_23 : decode cX8_settles 23 = .ok (.getfield 13, 3) := by decide +kernel
theorem dX8_settles_26 : decode cX8_settles 26 = .ok (.iconst 0, 1) := by decide +kernel
theorem dX8_settles_27 : decode cX8_settles 27 = .ok (.aload_n 0, 1) := by decide +kernel
theorem dX8_settles_28 : decode cX8_settles 28 = .ok (.getfield 40, 3) := by decide +kernel
theorem dX8_settles_31 : decode cX8_settles 31 = .ok (.bipush 16, 2) := by decide +kernel
theorem dX8_settles_33 : decode cX8_settles 33 = .ok (.invokestatic 114, 3) := by decide +kernel
theorem dX8_settles_36 : decode cX8_settles 36 = .ok (.aload_n 0, 1) := by decide +kernel
theorem dX8_settles_37 : decode cX8_settles 37 = .ok (.getfield 16, 3) := by decide +kernel
theorem dX8_settles_40 : decode cX8_settles 40 = .ok (.iconst 0, 1) := by decide +kernel
theorem dX8_settles_41 : decode cX8_settles 41 = .ok (.aload_n 0, 1) := by decide +kernel
theorem dX8_settles_42 : decode cX8_settles 42 = .ok (.getfield 43, 3) := by decide +kernel
theorem dX8_settles_45 : decode cX8_settles 45 = .ok (.bipush 17, 2) := by decide +kernel
theorem dX8_settles_47 : decode cX8_settles 47 = .ok (.invokestatic 114, 3) := by decide +kernel
theorem dX8_settles_50 : decode cX8_settles 50 = .ok (.aload_n 0, 1) := by decide +kernel
theorem dX8_settles_51 : decode cX8_settles 51 = .ok (.getfield 19, 3) := by decide +kernel
theorem dX8_settles_54 : decode cX8_settles 54 = .ok (.iconst 0, 1) := by decide +kernel
theorem dX8_settles_55 : decode cX8_settles 55 = .ok (.aload_n 0, 1) := by decide +kernel
theorem dX8_settles_56 : decode cX8_settles 56 = .ok (.getfield 43, 3) := by decide +kernel
theorem dX8_settles_59 : decode cX8_settles 59 = .ok (.bipush 17, 2) := by decide +kernel
theorem dX8_settles_61 : decode cX8_settles 61 = .ok (.invokestatic 114, 3) := by decide +kernel
theorem dX8_settles_64 : decode cX8_settles 64 = .ok (.aload_n 0, 1) := by decide +kernel
theorem dX8_settles_65 : decode cX8_settles 65 = .ok (.iconst 0, 1) := by decide +kernel
theorem dX8_settles_66 : decode cX8_settles 66 = .ok (.putfield 118, 3) := by decide +kernel
theorem dX8_settles_69 : decode cX8_settles 69 = .ok (.aload_n 0, 1) := by decide +kernel
theorem dX8_settles_70 : decode cX8_settles 70 = .ok (.iconst 0, 1) := by decide +kernel
theorem dX8_settles_71 : decode cX8_settles 71 = .ok (.putfield 121, 3) := by decide +kernel
theorem dX8_settles_74 : decode cX8_settles 74 = .ok (.aload_n 0, 1) := by decide +kernel
theorem dX8_settles_75 : decode cX8_settles 75 = .ok (.iconst 0, 1) := by decide +kernel
theorem dX8_settles_76 : decode cX8_settles 76 = .ok (.putfield 124, 3) := by decide +kernel
theorem dX8_settles_79 : decode cX8_settles 79 = .ok (.return_, 1) := by decide +kernel
theorem dX8_from_0 : decode cX8_from 0 = .ok (.aload_n 0, 1) := by decide +kernel
theorem dX8_from_1 : decode cX8_from 1 = .ok (.getfield 46, 3) := by decide +kernel
theorem dX8_from_4 : decode cX8_from 4 = .ok (.iconst 0, 1) := by decide +kernel
theorem dX8_from_5 : decode cX8_from 5 = .ok (.aload_n 1, 1) := by decide +kernel
theorem dX8_from_6 : decode cX8_from 6 = .ok (.bipush 17, 2) := by decide +kernel
theorem dX8_from_8 : decode cX8_from 8 = .ok (.invokestatic 114, 3) := by decide +kernel
theorem dX8_from_11 : decode cX8_from 11 = .ok (.aload_n 0, 1) := by decide +kernel
theorem dX8_from_12 : decode cX8_from 12 = .ok (.invokevirtual 127, 3) := by decide +kernel
theorem dX8_from_15 : decode cX8_from 15 = .ok (.return_, 1) := by decide +kernel
theorem dX8_findList_0 : decode cX8_findList 0 = .ok (.iconst 0, 1) := by decide +kernel
theorem dX8_findList_1 : decode cX8_findList 1 = .ok (.istore_n 1, 1) := by decide +kernel
theorem dX8_findList_2 : decode cX8_findList 2 = .ok (.iload_n 1, 1) := by decide +kernel
theorem dX8_findList_3 : decode cX8_findList 3 = .ok (.aload_n 0, 1) := by decide +kernel
theorem dX8_findList_4 : decode cX8_findList 4 = .ok (.getfield 73, 3) := by decide +kernel
theorem dX8_findList_7 : decode cX8_findList 7 = .ok (.if_icmp .ge 20, 3) := by decide +kernel
theorem dX8_findList_10 : decode cX8_findList 10 = .ok (.aload_n 0, 1) := by decide +kernel
theorem dX8_findList_11 : decode cX8_findList 11 = .ok (.getfield 49, 3) := by decide +kernel
theorem dX8_findList_14 : decode cX8_findList 14 = .ok (.aload_n 0, 1) := by decide +kernel
theorem dX8_findList_15 : decode cX8_findList 15 = .ok (.iload_n 1, 1) := by decide +kernel
theorem dX8_findList_16 : decode cX8_findList 16 = .ok (.invokevirtual 130, 3) := by decide +kernel
theorem dX8_findList_19 : decode cX8_findList 19 = .ok (.iload_n 1, 1) := by decide +kernel
theorem dX8_findList_20 : decode cX8_findList 20 = .ok (.iastore, 1) := by decide +kernel
theorem dX8_findList_21 : decode cX8_findList 21 = .ok (.iinc 1 1, 3) := by decide +kernel
theorem dX8_findList_24 : decode cX8_findList 24 = .ok (.goto (-22), 3) := by decide +kernel
theorem dX8_findList_27 : decode cX8_findList 27 = .ok (.return_, 1) := by decide +kernel
theorem dX8_placeOf_0 : decode cX8_placeOf 0 = .ok (.iconst 0, 1) := by decide +kernel
theorem dX8_placeOf_1 : decode cX8_placeOf 1 = .ok (.istore_n 2, 1) := by decide +kernel
theorem dX8_placeOf_2 : decode cX8_placeOf 2 = .ok (.iconst 0, 1) := by decide +kernel
theorem dX8_placeOf_3 : decode cX8_placeOf 3 = .ok (.istore_n 3, 1) := by decide +kernel
theorem dX8_placeOf_4 : decode cX8_placeOf 4 = .ok (.iload_n 3, 1) := by decide +kernel
theorem dX8_placeOf_5 : decode cX8_placeOf 5 = .ok (.aload_n 0, 1) := by decide +kernel
theorem dX8_placeOf_6 : decode cX8_placeOf 6 = .ok (.getfield 73, 3) := by decide +kernel
theorem dX8_placeOf_9 : decode cX8_placeOf 9 = .ok (.if_icmp .ge 64, 3) := by decide +kernel
theorem dX8_placeOf_12 : decode cX8_placeOf 12 = .ok (.iload_n 2, 1) := by decide +kernel
theorem dX8_placeOf_13 : decode cX8_placeOf 13 = .ok (.aload_n 0, 1) := by decide +kernel
theorem dX8_placeOf_14 : decode cX8_placeOf 14 = .ok (.getfield 46, 3) := by decide +kernel
theorem dX8_placeOf_17 : decode cX8_placeOf 17 = .ok (.bipush 9, 2) := by decide +kernel
theorem dX8_placeOf_19 : decode cX8_placeOf 19 = .ok (.iload_n 3, 1) := by decide +kernel
theorem dX8_placeOf_20 : decode cX8_placeOf 20 = .ok (.iadd, 1) := by decide +kernel
theorem dX8_placeOf_21 : decode cX8_placeOf 21 = .ok (.iaload, 1) := by decide +kernel
theorem dX8_placeOf_22 : decode cX8_placeOf 22 = .ok (.aload_n 0, 1) := by decide +kernel
theorem dX8_placeOf_23 : decode cX8_placeOf 23 = .ok (.getfield 46, 3) := by decide +kernel
theorem dX8_placeOf_26 : decode cX8_placeOf 26 = .ok (.bipush 9, 2) := by decide +kernel
theorem dX8_placeOf_28 : decode cX8_placeOf 28 = .ok (.iload_n 1, 1) := by decide +kernel
theorem dX8_placeOf_29 : decode cX8_placeOf 29 = .ok (.iadd, 1) := by decide +kernel
theorem dX8_placeOf_30 : decode cX8_placeOf 30 = .ok (.iaload, 1) := by decide +kernel
theorem dX8_placeOf_31 : decode cX8_placeOf 31 = .ok (.if_icmp .lt 29, 3) := by decide +kernel
theorem dX8_placeOf_34 : decode cX8_placeOf 34 = .ok (.aload_n 0, 1) := by decide +kernel
theorem dX8_placeOf_35 : decode cX8_placeOf 35 = .ok (.getfield 46, 3) := by decide +kernel
theorem dX8_placeOf_38 : decode cX8_placeOf 38 = .ok (.bipush 9, 2) := by decide +kernel
theorem dX8_placeOf_40 : decode cX8_placeOf 40 = .ok (.iload_n 3, 1) := by decide +kernel
theorem dX8_placeOf_41 : decode cX8_placeOf 41 = .ok (.iadd, 1) := by decide +kernel
theorem dX8_placeOf_42 : decode cX8_placeOf 42 = .ok (.iaload, 1) := by decide +kernel
theorem dX8_placeOf_43 : decode cX8_placeOf 43 = .ok (.aload_n 0, 1) := by decide +kernel
theorem dX8_placeOf_44 : decode cX8_placeOf 44 = .ok (.getfield 46, 3) := by decide +kernel
theorem dX8_placeOf_47 : decode cX8_placeOf 47 = .ok (.bipush 9, 2) := by decide +kernel
theorem dX8_placeOf_49 : decode cX8_placeOf 49 = .ok (.iload_n 1, 1) := by decide +kernel
theorem dX8_placeOf_50 : decode cX8_placeOf 50 = .ok (.iadd, 1) := by decide +kernel
theorem dX8_placeOf_51 : decode cX8_placeOf 51 = .ok (.iaload, 1) := by decide +kernel
theorem dX8_placeOf_52 : decode cX8_placeOf 52 = .ok (.if_icmp .ne 12, 3) := by decide +kernel
theorem dX8_placeOf_55 : decode cX8_placeOf 55 = .ok (.iload_n 3, 1) := by decide +kernel
theorem dX8_placeOf_56 : decode cX8_placeOf 56 = .ok (.iload_n 1, 1) := by decide +kernel
theorem dX8_placeOf_57 : decode cX8_placeOf 57 = .ok (.if_icmp .ge 7, 3) := by decide +kernel
theorem dX8_placeOf_60 : decode cX8_placeOf 60 = .ok (.iconst 1, 1) := by decide +kernel
theorem dX8_placeOf_61 : decode cX8_placeOf 61 = .ok (.goto 4, 3) := by decide +kernel
theorem dX8_placeOf_64 : decode cX8_placeOf 64 = .ok (.iconst 0, 1) := by decide +kernel
theorem dX8_placeOf_65 : decode cX8_placeOf 65 = .ok (.iadd, 1) := by decide +kernel
theorem dX8_placeOf_66 : decode cX8_placeOf 66 = .ok (.istore_n 2, 1) := by decide +kernel
theorem dX8_placeOf_67 : decode cX8_placeOf 67 = .ok (.iinc 3 1, 3) := by decide +kernel
theorem dX8_placeOf_70 : decode cX8_placeOf 70 = .ok (.goto (-66), 3) := by decide +kernel
theorem dX8_placeOf_73 : decode cX8_placeOf 73 = .ok (.iload_n 2, 1) := by decide +kernel
theorem dX8_placeOf_74 : decode cX8_placeOf 74 = .ok (.ireturn, 1) := by decide +kernel
theorem dX8_sunIn_0 : decode cX8_sunIn 0 = .ok (.aload_n 0, 1) := by decide +kernel
theorem dX8_sunIn_1 : decode cX8_sunIn 1 = .ok (.getfield 13, 3) := by decide +kernel
theorem dX8_sunIn_4 : decode cX8_sunIn 4 = .ok (.iconst 2, 1) := by decide +kernel
theorem dX8_sunIn_5 : decode cX8_sunIn 5 = .ok (.iload_n 1, 1) := by decide +kernel
theorem dX8_sunIn_6 : decode cX8_sunIn 6 = .ok (.imul, 1) := by decide +kernel
theorem dX8_sunIn_7 : decode cX8_sunIn 7 = .ok (.iload_n 2, 1) := by decide +kernel
theorem dX8_sunIn_8 : decode cX8_sunIn 8 = .ok (.bipush 60, 2) := by decide +kernel
theorem dX8_sunIn_10 : decode cX8_sunIn 10 = .ok (.irem, 1) := by decide +kernel
theorem dX8_sunIn_11 : decode cX8_sunIn 11 = .ok (.bipush 30, 2) := by decide +kernel
theorem dX8_sunIn_13 : decode cX8_sunIn 13 = .ok (.if_icmp .ge 7, 3) := by decide +kernel
theorem dX8_sunIn_16 : decode cX8_sunIn 16 = .ok (.iconst 0, 1) := by decide +kernel
theorem dX8_sunIn_17 : decode cX8_sunIn 17 = .ok (.goto 4, 3) := by decide +kernel
theorem dX8_sunIn_20 : decode cX8_sunIn 20 = .ok (.iconst 1, 1) := by decide +kernel
theorem dX8_sunIn_21 : decode cX8_sunIn 21 = .ok (.iadd, 1) := by decide +kernel
theorem dX8_sunIn_22 : decode cX8_sunIn 22 = .ok (.iaload, 1) := by decide +kernel
theorem dX8_sunIn_23 : decode cX8_sunIn 23 = .ok (.ireturn, 1) := by decide +kernel
theorem dX8_changes_0 : decode cX8_changes 0 = .ok (.aload_n 0, 1) := by decide +kernel
theorem dX8_changes_1 : decode cX8_changes 1 = .ok (.getfield 49, 3) := by decide +kernel
theorem dX8_changes_4 : decode cX8_changes 4 = .ok (.iload_n 1, 1) := by decide +kernel
theorem dX8_changes_5 : decode cX8_changes 5 = .ok (.iaload, 1) := by decide +kernel
theorem dX8_changes_6 : decode cX8_changes 6 = .ok (.istore_n 2, 1) := by decide +kernel
theorem dX8_changes_7 : decode cX8_changes 7 = .ok (.aload_n 0, 1) := by decide +kernel
theorem dX8_changes_8 : decode cX8_changes 8 = .ok (.getfield 49, 3) := by decide +kernel
theorem dX8_changes_11 : decode cX8_changes 11 = .ok (.iload_n 1, 1) := by decide +kernel
theorem dX8_changes_12 : decode cX8_changes 12 = .ok (.iconst 1, 1) := by decide +kernel
theorem dX8_changes_13 : decode cX8_changes 13 = .ok (.iadd, 1) := by decide +kernel
theorem dX8_changes_14 : decode cX8_changes 14 = .ok (.aload_n 0, 1) := by decide +kernel
theorem dX8_changes_15 : decode cX8_changes 15 = .ok (.getfield 73, 3) := by decide +kernel
theorem dX8_changes_18 : decode cX8_changes 18 = .ok (.irem, 1) := by decide +kernel
theorem dX8_changes_19 : decode cX8_changes 19 = .ok (.iaload, 1) := by decide +kernel
theorem dX8_changes_20 : decode cX8_changes 20 = .ok (.istore_n 3, 1) := by decide +kernel
theorem dX8_changes_21 : decode cX8_changes 21 = .ok (.aload_n 0, 1) := by decide +kernel
theorem dX8_changes_22 : decode cX8_changes 22 = .ok (.getfield 7, 3) := by decide +kernel
theorem dX8_changes_25 : decode cX8_changes 25 = .ok (.iconst 2, 1) := by decide +kernel
theorem dX8_changes_26 : decode cX8_changes 26 = .ok (.iload_n 2, 1) := by decide +kernel
theorem dX8_changes_27 : decode cX8_changes 27 = .ok (.imul, 1) := by decide +kernel
theorem dX8_changes_28 : decode cX8_changes 28 = .ok (.iaload, 1) := by decide +kernel
theorem dX8_changes_29 : decode cX8_changes 29 = .ok (.tableswitch 128 1 3 #[27, 53, 77], 27) := by decide +kernel
theorem dX8_changes_56 : decode cX8_changes 56 = .ok (.aload_n 0, 1) := by decide +kernel
theorem dX8_changes_57 : decode cX8_changes 57 = .ok (.getfield 46, 3) := by decide +kernel
theorem dX8_changes_60 : decode cX8_changes 60 = .ok (.iconst 0, 1) := by decide +kernel
theorem dX8_changes_61 : decode cX8_changes 61 = .ok (.iaload, 1) := by decide +kernel
theorem dX8_changes_62 : decode cX8_changes 62 = .ok (.bipush 60, 2) := by decide +kernel
theorem dX8_changes_64 : decode cX8_changes 64 = .ok (.idiv, 1) := by decide +kernel
theorem dX8_changes_65 : decode cX8_changes 65 = .ok (.iconst 4, 1) := by decide +kernel
theorem dX8_changes_66 : decode cX8_changes 66 = .ok (.irem, 1) := by decide +kernel
theorem dX8_changes_67 : decode cX8_changes 67 = .ok (.ifCond .ne 99, 3) := by decide +kernel
theorem dX8_changes_70 : decode cX8_changes 70 = .ok (.aload_n 0, 1) := by decide +kernel
theorem dX8_changes_71 : decode cX8_changes 71 = .ok (.getfield 46, 3) := by decide +kernel
theorem dX8_changes_74 : decode cX8_changes 74 = .ok (.iload_n 2, 1) := by decide +kernel
theorem dX8_changes_75 : decode cX8_changes 75 = .ok (.iload_n 3, 1) := by decide +kernel
theorem dX8_changes_76 : decode cX8_changes 76 = .ok (.invokestatic 133, 3) := by decide +kernel
theorem dX8_changes_79 : decode cX8_changes 79 = .ok (.goto 87, 3) := by decide +kernel
theorem dX8_changes_82 : decode cX8_changes 82 = .ok (.aload_n 0, 1) := by decide +kernel
theorem dX8_changes_83 : decode cX8_changes 83 = .ok (.getfield 46, 3) := by decide +kernel
theorem dX8_changes_86 : decode cX8_changes 86 = .ok (.iload_n 2, 1) := by decide +kernel
theorem dX8_changes_87 : decode cX8_changes 87 = .ok (.aload_n 0, 1) := by decide +kernel
theorem dX8_changes_88 : decode cX8_changes 88 = .ok (.getfield 49, 3) := by decide +kernel
theorem dX8_changes_91 : decode cX8_changes 91 = .ok (.iload_n 1, 1) := by decide +kernel
theorem dX8_changes_92 : decode cX8_changes 92 = .ok (.iconst 2, 1) := by decide +kernel
theorem dX8_changes_93 : decode cX8_changes 93 = .ok (.iadd, 1) := by decide +kernel
theorem dX8_changes_94 : decode cX8_changes 94 = .ok (.aload_n 0, 1) := by decide +kernel
theorem dX8_changes_95 : decode cX8_changes 95 = .ok (.getfield 73, 3) := by decide +kernel
theorem dX8_changes_98 : decode cX8_changes 98 = .ok (.irem, 1) := by decide +kernel
theorem dX8_changes_99 : decode cX8_changes 99 = .ok (.iaload, 1) := by decide +kernel
theorem dX8_changes_100 : decode cX8_changes 100 = .ok (.invokestatic 133, 3) := by decide +kernel
theorem dX8_changes_103 : decode cX8_changes 103 = .ok (.goto 63, 3) := by decide +kernel
theorem dX8_changes_106 : decode cX8_changes 106 = .ok (.aload_n 0, 1) := by decide +kernel
theorem dX8_changes_107 : decode cX8_changes 107 = .ok (.aload_n 0, 1) := by decide +kernel
theorem dX8_changes_108 : decode cX8_changes 108 = .ok (.getfield 46, 3) := by decide +kernel
theorem dX8_changes_111 : decode cX8_changes 111 = .ok (.iconst 1, 1) := by decide +kernel
theorem dX8_changes_112 : decode cX8_changes 112 = .ok (.iload_n 3, 1) := by decide +kernel
theorem dX8_changes_113 : decode cX8_changes 113 = .ok (.iadd, 1) := by decide +kernel
theorem dX8_changes_114 : decode cX8_changes 114 = .ok (.iaload, 1) := by decide +kernel
theorem dX8_changes_115 : decode cX8_changes 115 = .ok (.aload_n 0, 1) := by decide +kernel
theorem dX8_changes_116 : decode cX8_changes 116 = .ok (.getfield 46, 3) := by decide +kernel
theorem dX8_changes_119 : decode cX8_changes 119 = .ok (.iconst 0, 1) := by decide +kernel
theorem dX8_changes_120 : decode cX8_changes 120 = .ok (.iaload, 1) := by decide +kernel
theorem dX8_changes_121 : decode cX8_changes 121 = .ok (.invokevirtual 137, 3) := by decide +kernel
theorem dX8_changes_124 : decode cX8_changes 124 = .ok (.aload_n 0, 1) := by decide +kernel
theorem dX8_changes_125 : decode cX8_changes 125 = .ok (.aload_n 0, 1) := by decide +kernel
theorem dX8_changes_126 : decode cX8_changes 126 = .ok (.getfield 46, 3) := by decide +kernel
theorem dX8_changes_129 : decode cX8_changes 129 = .ok (.iconst 1, 1) := by decide +kernel
theorem dX8_changes_130 : decode cX8_changes 130 = .ok (.iload_n 2, 1) := by decide +kernel
theorem dX8_changes_131 : decode cX8_changes 131 = .ok (.iadd, 1) := by decide +kernel
theorem dX8_changes_132 : decode cX8_changes 132 = .ok (.iaload, 1) := by decide +kernel
theorem dX8_changes_133 : decode cX8_changes 133 = .ok (.aload_n 0, 1) := by decide +kernel
theorem dX8_changes_134 : decode cX8_changes 134 = .ok (.getfield 46, 3) := by decide +kernel
theorem dX8_changes_137 : decode cX8_changes 137 = .ok (.iconst 0, 1) := by decide +kernel
theorem dX8_changes_138 : decode cX8_changes 138 = .ok (.iaload, 1) := by decide +kernel
theorem dX8_changes_139 : decode cX8_changes 139 = .ok (.invokevirtual 137, 3) := by decide +kernel
theorem dX8_changes_142 : decode cX8_changes 142 = .ok (.if_icmp .le 24, 3) := by decide +kernel
theorem dX8_changes_145 : decode cX8_changes 145 = .ok (.aload_n 0, 1) := by decide +kernel
theorem dX8_changes_146 : decode cX8_changes 146 = .ok (.getfield 46, 3) := by decide +kernel
theorem dX8_changes_149 : decode cX8_changes 149 = .ok (.iload_n 2, 1) := by decide +kernel
theorem dX8_changes_150 : decode cX8_changes 150 = .ok (.iload_n 3, 1) := by decide +kernel
theorem dX8_changes_151 : decode cX8_changes 151 = .ok (.invokestatic 133, 3) := by decide +kernel
theorem dX8_changes_154 : decode cX8_changes 154 = .ok (.goto 12, 3) := by decide +kernel
theorem dX8_changes_157 : decode cX8_changes 157 = .ok (.aload_n 0, 1) := by decide +kernel
theorem dX8_changes_158 : decode cX8_changes 158 = .ok (.getfield 46, 3) := by decide +kernel
theorem dX8_changes_161 : decode cX8_changes 161 = .ok (.iload_n 2, 1) := by decide +kernel
theorem dX8_changes_162 : decode cX8_changes 162 = .ok (.iload_n 3, 1) := by decide +kernel
theorem dX8_changes_163 : decode cX8_changes 163 = .ok (.invokestatic 133, 3) := by decide +kernel
theorem dX8_changes_166 : decode cX8_changes 166 = .ok (.return_, 1) := by decide +kernel
theorem dX8_goes_0 : decode cX8_goes 0 = .ok (.iconst 0, 1) := by decide +kernel
theorem dX8_goes_1 : decode cX8_goes 1 = .ok (.istore_n 1, 1) := by decide +kernel
theorem dX8_goes_2 : decode cX8_goes 2 = .ok (.iload_n 1, 1) := by decide +kernel
theorem dX8_goes_3 : decode cX8_goes 3 = .ok (.aload_n 0, 1) := by decide +kernel
theorem dX8_goes_4 : decode cX8_goes 4 = .ok (.getfield 73, 3) := by decide +kernel
theorem dX8_goes_7 : decode cX8_goes 7 = .ok (.if_icmp .ge 40, 3) := by decide +kernel
theorem dX8_goes_10 : decode cX8_goes 10 = .ok (.aload_n 0, 1) := by decide +kernel
theorem dX8_goes_11 : decode cX8_goes 11 = .ok (.getfield 46, 3) := by decide +kernel
theorem dX8_goes_14 : decode cX8_goes 14 = .ok (.bipush 9, 2) := by decide +kernel
theorem dX8_goes_16 : decode cX8_goes 16 = .ok (.aload_n 0, 1) := by decide +kernel
theorem dX8_goes_17 : decode cX8_goes 17 = .ok (.getfield 49, 3) := by decide +kernel
theorem dX8_goes_20 : decode cX8_goes 20 = .ok (.iload_n 1, 1) := by decide +kernel
theorem dX8_goes_21 : decode cX8_goes 21 = .ok (.iaload, 1) := by decide +kernel
theorem dX8_goes_22 : decode cX8_goes 22 = .ok (.iadd, 1) := by decide +kernel
theorem dX8_goes_23 : decode cX8_goes 23 = .ok (.iaload, 1) := by decide +kernel
theorem dX8_goes_24 : decode cX8_goes 24 = .ok (.aload_n 0, 1) := by decide +kernel
theorem dX8_goes_25 : decode cX8_goes 25 = .ok (.getfield 46, 3) := by decide +kernel
theorem dX8_goes_28 : decode cX8_goes 28 = .ok (.iconst 0, 1) := by decide +kernel
theorem dX8_goes_29 : decode cX8_goes 29 = .ok (.iaload, 1) := by decide +kernel
theorem dX8_goes_30 : decode cX8_goes 30 = .ok (.bipush 60, 2) := by decide +kernel
theorem dX8_goes_32 : decode cX8_goes 32 = .ok (.irem, 1) := by decide +kernel
theorem dX8_goes_33 : decode cX8_goes 33 = .ok (.if_icmp .ne 8, 3) := by decide +kernel
theorem dX8_goes_36 : decode cX8_goes 36 = .ok (.aload_n 0, 1) := by decide +kernel
theorem dX8_goes_37 : decode cX8_goes 37 = .ok (.iload_n 1, 1) := by decide +kernel
theorem dX8_goes_38 : decode cX8_goes 38 = .ok (.invokevirtual 141, 3) := by decide +kernel
theorem dX8_goes_41 : decode cX8_goes 41 = .ok (.iinc 1 1, 3) := by decide +kernel
theorem dX8_goes_44 : decode cX8_goes 44 = .ok (.goto (-42), 3) := by decide +kernel
theorem dX8_goes_47 : decode cX8_goes 47 = .ok (.iconst 0, 1) := by decide +kernel
theorem dX8_goes_48 : decode cX8_goes 48 = .ok (.istore_n 1, 1) := by decide +kernel
theorem dX8_goes_49 : decode cX8_goes 49 = .ok (.iconst 0, 1) := by decide +kernel
theorem dX8_goes_50 : decode cX8_goes 50 = .ok (.istore_n 2, 1) := by decide +kernel
theorem dX8_goes_51 : decode cX8_goes 51 = .ok (.iload_n 2, 1) := by decide +kernel
theorem dX8_goes_52 : decode cX8_goes 52 = .ok (.aload_n 0, 1) := by decide +kernel
theorem dX8_goes_53 : decode cX8_goes 53 = .ok (.getfield 73, 3) := by decide +kernel
theorem dX8_goes_56 : decode cX8_goes 56 = .ok (.if_icmp .ge 50, 3) := by decide +kernel
theorem dX8_goes_59 : decode cX8_goes 59 = .ok (.iload_n 1, 1) := by decide +kernel
theorem dX8_goes_60 : decode cX8_goes 60 = .ok (.aload_n 0, 1) := by decide +kernel
theorem dX8_goes_61 : decode cX8_goes 61 = .ok (.aload_n 0, 1) := by decide +kernel
theorem dX8_goes_62 : decode cX8_goes 62 = .ok (.getfield 46, 3) := by decide +kernel
theorem dX8_goes_65 : decode cX8_goes 65 = .ok (.iconst 1, 1) := by decide +kernel
theorem dX8_goes_66 : decode cX8_goes 66 = .ok (.iload_n 2, 1) := by decide +kernel
theorem dX8_goes_67 : decode cX8_goes 67 = .ok (.iadd, 1) := by decide +kernel
theorem dX8_goes_68 : decode cX8_goes 68 = .ok (.iaload, 1) := by decide +kernel
theorem dX8_goes_69 : decode cX8_goes 69 = .ok (.aload_n 0, 1) := by decide +kernel
theorem dX8_goes_70 : decode cX8_goes 70 = .ok (.getfield 46, 3) := by decide +kernel
theorem dX8_goes_73 : decode cX8_goes 73 = .ok (.iconst 0, 1) := by decide +kernel
theorem dX8_goes_74 : decode cX8_goes 74 = .ok (.iaload, 1) := by decide +kernel
theorem dX8_goes_75 : decode cX8_goes 75 = .ok (.invokevirtual 137, 3) := by decide +kernel
theorem dX8_goes_78 : decode cX8_goes 78 = .ok (.aload_n 0, 1) := by decide +kernel
theorem dX8_goes_79 : decode cX8_goes 79 = .ok (.getfield 7, 3) := by decide +kernel
theorem dX8_goes_82 : decode cX8_goes 82 = .ok (.iconst 2, 1) := by decide +kernel
theorem dX8_goes_83 : decode cX8_goes 83 = .ok (.iload_n 2, 1) := by decide +kernel
theorem dX8_goes_84 : decode cX8_goes 84 = .ok (.imul, 1) := by decide +kernel
theorem dX8_goes_85 : decode cX8_goes 85 = .ok (.iconst 1, 1) := by decide +kernel
theorem dX8_goes_86 : decode cX8_goes 86 = .ok (.iadd, 1) := by decide +kernel
theorem dX8_goes_87 : decode cX8_goes 87 = .ok (.iaload, 1) := by decide +kernel
theorem dX8_goes_88 : decode cX8_goes 88 = .ok (.if_icmp .ge 9, 3) := by decide +kernel
theorem dX8_goes_91 : decode cX8_goes 91 = .ok (.iconst 1, 1) := by decide +kernel
theorem dX8_goes_92 : decode cX8_goes 92 = .ok (.iload_n 2, 1) := by decide +kernel
theorem dX8_goes_93 : decode cX8_goes 93 = .ok (.ishl, 1) := by decide +kernel
theorem dX8_goes_94 : decode cX8_goes 94 = .ok (.goto 4, 3) := by decide +kernel
theorem dX8_goes_97 : decode cX8_goes 97 = .ok (.iconst 0, 1) := by decide +kernel
theorem dX8_goes_98 : decode cX8_goes 98 = .ok (.ior, 1) := by decide +kernel
theorem dX8_goes_99 : decode cX8_goes 99 = .ok (.istore_n 1, 1) := by decide +kernel
theorem dX8_goes_100 : decode cX8_goes 100 = .ok (.iinc 2 1, 3) := by decide +kernel
theorem dX8_goes_103 : decode cX8_goes 103 = .ok (.goto (-52), 3) := by decide +kernel
theorem dX8_goes_106 : decode cX8_goes 106 = .ok (.aload_n 0, 1) := by decide +kernel
theorem dX8_goes_107 : decode cX8_goes 107 = .ok (.getfield 46, 3) := by decide +kernel
theorem dX8_goes_110 : decode cX8_goes 110 = .ok (.iconst 0, 1) := by decide +kernel
theorem dX8_goes_111 : decode cX8_goes 111 = .ok (.dup2, 1) := by decide +kernel
theorem dX8_goes_112 : decode cX8_goes 112 = .ok (.iaload, 1) := by decide +kernel
theorem dX8_goes_113 : decode cX8_goes 113 = .ok (.iconst 1, 1) := by decide +kernel
theorem dX8_goes_114 : decode cX8_goes 114 = .ok (.iadd, 1) := by decide +kernel
theorem dX8_goes_115 : decode cX8_goes 115 = .ok (.iastore, 1) := by decide +kernel
theorem dX8_goes_116 : decode cX8_goes 116 = .ok (.iload_n 1, 1) := by decide +kernel
theorem dX8_goes_117 : decode cX8_goes 117 = .ok (.ireturn, 1) := by decide +kernel
theorem dX8_goesOn_0 : decode cX8_goesOn 0 = .ok (.iconst 0, 1) := by decide +kernel
theorem dX8_goesOn_1 : decode cX8_goesOn 1 = .ok (.istore_n 2, 1) := by decide +kernel
theorem dX8_goesOn_2 : decode cX8_goesOn 2 = .ok (.iload_n 2, 1) := by decide +kernel
theorem dX8_goesOn_3 : decode cX8_goesOn 3 = .ok (.iload_n 1, 1) := by decide +kernel
theorem dX8_goesOn_4 : decode cX8_goesOn 4 = .ok (.if_icmp .ge 14, 3) := by decide +kernel
theorem dX8_goesOn_7 : decode cX8_goesOn 7 = .ok (.aload_n 0, 1) := by decide +kernel
theorem dX8_goesOn_8 : decode cX8_goesOn 8 = .ok (.invokevirtual 145, 3) := by decide +kernel
theorem dX8_goesOn_11 : decode cX8_goesOn 11 = .ok (.pop, 1) := by decide +kernel
theorem dX8_goesOn_12 : decode cX8_goesOn 12 = .ok (.iinc 2 1, 3) := by decide +kernel
theorem dX8_goesOn_15 : decode cX8_goesOn 15 = .ok (.goto (-13), 3) := by decide +kernel
theorem dX8_goesOn_18 : decode cX8_goesOn 18 = .ok (.return_, 1) := by decide +kernel
theorem dX8_whoseNow_0 : decode cX8_whoseNow 0 = .ok (.iconst 0, 1) := by decide +kernel
theorem dX8_whoseNow_1 : decode cX8_whoseNow 1 = .ok (.istore_n 2, 1) := by decide +kernel
theorem dX8_whoseNow_2 : decode cX8_whoseNow 2 = .ok (.aload_n 0, 1) := by decide +kernel
theorem dX8_whoseNow_3 : decode cX8_whoseNow 3 = .ok (.getfield 46, 3) := by decide +kernel
theorem dX8_whoseNow_6 : decode cX8_whoseNow 6 = .ok (.iconst 1, 1) := by decide +kernel
theorem dX8_whoseNow_7 : decode cX8_whoseNow 7 = .ok (.iload_n 2, 1) := by decide +kernel
theorem dX8_whoseNow_8 : decode cX8_whoseNow 8 = .ok (.iadd, 1) := by decide +kernel
theorem dX8_whoseNow_9 : decode cX8_whoseNow 9 = .ok (.iaload, 1) := by decide +kernel
theorem dX8_whoseNow_10 : decode cX8_whoseNow 10 = .ok (.iload_n 1, 1) := by decide +kernel
theorem dX8_whoseNow_11 : decode cX8_whoseNow 11 = .ok (.if_icmp .eq 9, 3) := by decide +kernel
theorem dX8_whoseNow_14 : decode cX8_whoseNow 14 = .ok (.iinc 2 1, 3) := by decide +kernel
theorem dX8_whoseNow_17 : decode cX8_whoseNow 17 = .ok (.goto (-15), 3) := by decide +kernel
theorem dX8_whoseNow_20 : decode cX8_whoseNow 20 = .ok (.iload_n 2, 1) := by decide +kernel
theorem dX8_whoseNow_21 : decode cX8_whoseNow 21 = .ok (.ireturn, 1) := by decide +kernel
theorem dX8_sunOn_0 : decode cX8_sunOn 0 = .ok (.iconst 0, 1) := by decide +kernel
theorem dX8_sunOn_1 : decode cX8_sunOn 1 = .ok (.istore_n 3, 1) := by decide +kernel
theorem dX8_sunOn_2 : decode cX8_sunOn 2 = .ok (.iconst 0, 1) := by decide +kernel
theorem dX8_sunOn_3 : decode cX8_sunOn 3 = .ok (.istore 4, 2) := by decide +kernel
theorem dX8_sunOn_5 : decode cX8_sunOn 5 = .ok (.iload 4, 2) := by decide +kernel
theorem dX8_sunOn_7 : decode cX8_sunOn 7 = .ok (.iload_n 2, 1) := by decide +kernel
theorem dX8_sunOn_8 : decode cX8_sunOn 8 = .ok (.if_icmp .ge 37, 3) := by decide +kernel
theorem dX8_sunOn_11 : decode cX8_sunOn 11 = .ok (.aload_n 0, 1) := by decide +kernel
theorem dX8_sunOn_12 : decode cX8_sunOn 12 = .ok (.invokevirtual 145, 3) := by decide +kernel
theorem dX8_sunOn_15 : decode cX8_sunOn 15 = .ok (.pop, 1) := by decide +kernel
theorem dX8_sunOn_16 : decode cX8_sunOn 16 = .ok (.iload_n 3, 1) := by decide +kernel
theorem dX8_sunOn_17 : decode cX8_sunOn 17 = .ok (.aload_n 0, 1) := by decide +kernel
theorem dX8_sunOn_18 : decode cX8_sunOn 18 = .ok (.aload_n 0, 1) := by decide +kernel
theorem dX8_sunOn_19 : decode cX8_sunOn 19 = .ok (.getfield 46, 3) := by decide +kernel
theorem dX8_sunOn_22 : decode cX8_sunOn 22 = .ok (.iconst 1, 1) := by decide +kernel
theorem dX8_sunOn_23 : decode cX8_sunOn 23 = .ok (.iload_n 1, 1) := by decide +kernel
theorem dX8_sunOn_24 : decode cX8_sunOn 24 = .ok (.iadd, 1) := by decide +kernel
theorem dX8_sunOn_25 : decode cX8_sunOn 25 = .ok (.iaload, 1) := by decide +kernel
theorem dX8_sunOn_26 : decode cX8_sunOn 26 = .ok (.aload_n 0, 1) := by decide +kernel
theorem dX8_sunOn_27 : decode cX8_sunOn 27 = .ok (.getfield 46, 3) := by decide +kernel
theorem dX8_sunOn_30 : decode cX8_sunOn 30 = .ok (.iconst 0, 1) := by decide +kernel
theorem dX8_sunOn_31 : decode cX8_sunOn 31 = .ok (.iaload, 1) := by decide +kernel
theorem dX8_sunOn_32 : decode cX8_sunOn 32 = .ok (.iconst 1, 1) := by decide +kernel
theorem dX8_sunOn_33 : decode cX8_sunOn 33 = .ok (.isub, 1) := by decide +kernel
theorem dX8_sunOn_34 : decode cX8_sunOn 34 = .ok (.invokevirtual 137, 3) := by decide +kernel
theorem dX8_sunOn_37 : decode cX8_sunOn 37 = .ok (.iadd, 1) := by decide +kernel
theorem dX8_sunOn_38 : decode cX8_sunOn 38 = .ok (.istore_n 3, 1) := by decide +kernel
theorem dX8_sunOn_39 : decode cX8_sunOn 39 = .ok (.iinc 4 1, 3) := by decide +kernel
theorem dX8_sunOn_42 : decode cX8_sunOn 42 = .ok (.goto (-37), 3) := by decide +kernel
theorem dX8_sunOn_45 : decode cX8_sunOn 45 = .ok (.iload_n 3, 1) := by decide +kernel
theorem dX8_sunOn_46 : decode cX8_sunOn 46 = .ok (.ireturn, 1) := by decide +kernel
theorem dX8_wantOn_0 : decode cX8_wantOn 0 = .ok (.iconst 0, 1) := by decide +kernel
theorem dX8_wantOn_1 : decode cX8_wantOn 1 = .ok (.istore_n 2, 1) := by decide +kernel
theorem dX8_wantOn_2 : decode cX8_wantOn 2 = .ok (.iconst 0, 1) := by decide +kernel
theorem dX8_wantOn_3 : decode cX8_wantOn 3 = .ok (.istore_n 3, 1) := by decide +kernel
theorem dX8_wantOn_4 : decode cX8_wantOn 4 = .ok (.iload_n 3, 1) := by decide +kernel
theorem dX8_wantOn_5 : decode cX8_wantOn 5 = .ok (.iload_n 1, 1) := by decide +kernel
theorem dX8_wantOn_6 : decode cX8_wantOn 6 = .ok (.if_icmp .ge 19, 3) := by decide +kernel
theorem dX8_wantOn_9 : decode cX8_wantOn 9 = .ok (.iload_n 2, 1) := by decide +kernel
theorem dX8_wantOn_10 : decode cX8_wantOn 10 = .ok (.aload_n 0, 1) := by decide +kernel
theorem dX8_wantOn_11 : decode cX8_wantOn 11 = .ok (.invokevirtual 145, 3) := by decide +kernel
theorem dX8_wantOn_14 : decode cX8_wantOn 14 = .ok (.invokestatic 148, 3) := by decide +kernel
theorem dX8_wantOn_17 : decode cX8_wantOn 17 = .ok (.iadd, 1) := by decide +kernel
theorem dX8_wantOn_18 : decode cX8_wantOn 18 = .ok (.istore_n 2, 1) := by decide +kernel
theorem dX8_wantOn_19 : decode cX8_wantOn 19 = .ok (.iinc 3 1, 3) := by decide +kernel
theorem dX8_wantOn_22 : decode cX8_wantOn 22 = .ok (.goto (-18), 3) := by decide +kernel
theorem dX8_wantOn_25 : decode cX8_wantOn 25 = .ok (.iload_n 2, 1) := by decide +kernel
theorem dX8_wantOn_26 : decode cX8_wantOn 26 = .ok (.ireturn, 1) := by decide +kernel
theorem dX8_cousin_0 : decode cX8_cousin 0 = .ok (.aload_n 0, 1) := by decide +kernel
theorem dX8_cousin_1 : decode cX8_cousin 1 = .ok (.iload_n 1, 1) := by decide +kernel
theorem dX8_cousin_2 : decode cX8_cousin 2 = .ok (.invokevirtual 151, 3) := by decide +kernel
theorem dX8_cousin_5 : decode cX8_cousin 5 = .ok (.ifCond .eq 12, 3) := by decide +kernel
theorem dX8_cousin_8 : decode cX8_cousin 8 = .ok (.iload_n 2, 1) := by decide +kernel
theorem dX8_cousin_9 : decode cX8_cousin 9 = .ok (.iconst 0, 1) := by decide +kernel
theorem dX8_cousin_10 : decode cX8_cousin 10 = .ok (.iconst 4, 1) := by decide +kernel
theorem dX8_cousin_11 : decode cX8_cousin 11 = .ok (.invokestatic 76, 3) := by decide +kernel
theorem dX8_cousin_14 : decode cX8_cousin 14 = .ok (.ifCond .ne 5, 3) := by decide +kernel
theorem dX8_cousin_17 : decode cX8_cousin 17 = .ok (.iconst (-1), 1) := by decide +kernel
theorem dX8_cousin_18 : decode cX8_cousin 18 = .ok (.ireturn, 1) := by decide +kernel
theorem dX8_cousin_19 : decode cX8_cousin 19 = .ok (.aload_n 0, 1) := by decide +kernel
theorem dX8_cousin_20 : decode cX8_cousin 20 = .ok (.aload_n 0, 1) := by decide +kernel
theorem dX8_cousin_21 : decode cX8_cousin 21 = .ok (.getfield 16, 3) := by decide +kernel
theorem dX8_cousin_24 : decode cX8_cousin 24 = .ok (.invokevirtual 154, 3) := by decide +kernel
theorem dX8_cousin_27 : decode cX8_cousin 27 = .ok (.iload_n 2, 1) := by decide +kernel
theorem dX8_cousin_28 : decode cX8_cousin 28 = .ok (.tableswitch 71 0 3 #[32, 41, 51, 62], 32) := by decide +kernel
theorem dX8_cousin_60 : decode cX8_cousin 60 = .ok (.aload_n 0, 1) := by decide +kernel
theorem dX8_cousin_61 : decode cX8_cousin 61 = .ok (.getfield 7, 3) := by decide +kernel
theorem dX8_cousin_64 : decode cX8_cousin 64 = .ok (.iconst 2, 1) := by decide +kernel
theorem dX8_cousin_65 : decode cX8_cousin 65 = .ok (.iload_n 1, 1) := by decide +kernel
theorem dX8_cousin_66 : decode cX8_cousin 66 = .ok (.imul, 1) := by decide +kernel
theorem dX8_cousin_67 : decode cX8_cousin 67 = .ok (.iaload, 1) := by decide +kernel
theorem dX8_cousin_68 : decode cX8_cousin 68 = .ok (.ireturn, 1) := by decide +kernel
theorem dX8_cousin_69 : decode cX8_cousin 69 = .ok (.aload_n 0, 1) := by decide +kernel
theorem dX8_cousin_70 : decode cX8_cousin 70 = .ok (.getfield 16, 3) := by decide +kernel
theorem dX8_cousin_73 : decode cX8_cousin 73 = .ok (.bipush 9, 2) := by decide +kernel
theorem dX8_cousin_75 : decode cX8_cousin 75 = .ok (.iload_n 1, 1) := by decide +kernel
theorem dX8_cousin_76 : decode cX8_cousin 76 = .ok (.iadd, 1) := by decide +kernel
theorem dX8_cousin_77 : decode cX8_cousin 77 = .ok (.iaload, 1) := by decide +kernel
theorem dX8_cousin_78 : decode cX8_cousin 78 = .ok (.ireturn, 1) := by decide +kernel
theorem dX8_cousin_79 : decode cX8_cousin 79 = .ok (.aload_n 0, 1) := by decide +kernel
theorem dX8_cousin_80 : decode cX8_cousin 80 = .ok (.getfield 7, 3) := by decide +kernel
theorem dX8_cousin_83 : decode cX8_cousin 83 = .ok (.iconst 2, 1) := by decide +kernel
theorem dX8_cousin_84 : decode cX8_cousin 84 = .ok (.iload_n 1, 1) := by decide +kernel
theorem dX8_cousin_85 : decode cX8_cousin 85 = .ok (.imul, 1) := by decide +kernel
theorem dX8_cousin_86 : decode cX8_cousin 86 = .ok (.iconst 1, 1) := by decide +kernel
theorem dX8_cousin_87 : decode cX8_cousin 87 = .ok (.iadd, 1) := by decide +kernel
theorem dX8_cousin_88 : decode cX8_cousin 88 = .ok (.iaload, 1) := by decide +kernel
theorem dX8_cousin_89 : decode cX8_cousin 89 = .ok (.ireturn, 1) := by decide +kernel
theorem dX8_cousin_90 : decode cX8_cousin 90 = .ok (.aload_n 0, 1) := by decide +kernel
theorem dX8_cousin_91 : decode cX8_cousin 91 = .ok (.getfield 16, 3) := by decide +kernel
theorem dX8_cousin_94 : decode cX8_cousin 94 = .ok (.iconst 1, 1) := by decide +kernel
theorem dX8_cousin_95 : decode cX8_cousin 95 = .ok (.iload_n 1, 1) := by decide +kernel
theorem dX8_cousin_96 : decode cX8_cousin 96 = .ok (.iadd, 1) := by decide +kernel
theorem dX8_cousin_97 : decode cX8_cousin 97 = .ok (.iaload, 1) := by decide +kernel
theorem dX8_cousin_98 : decode cX8_cousin 98 = .ok (.ireturn, 1) := by decide +kernel
theorem dX8_cousin_99 : decode cX8_cousin 99 = .ok (.aload_n 0, 1) := by decide +kernel
theorem dX8_cousin_100 : decode cX8_cousin 100 = .ok (.iload_n 1, 1) := by decide +kernel
theorem dX8_cousin_101 : decode cX8_cousin 101 = .ok (.invokevirtual 130, 3) := by decide +kernel
theorem dX8_cousin_104 : decode cX8_cousin 104 = .ok (.ireturn, 1) := by decide +kernel
theorem dX8_room_0 : decode cX8_room 0 = .ok (.aload_n 0, 1) := by decide +kernel
theorem dX8_room_1 : decode cX8_room 1 = .ok (.iload_n 1, 1) := by decide +kernel
theorem dX8_room_2 : decode cX8_room 2 = .ok (.invokevirtual 151, 3) := by decide +kernel
theorem dX8_room_5 : decode cX8_room 5 = .ok (.ifCond .eq 12, 3) := by decide +kernel
theorem dX8_room_8 : decode cX8_room 8 = .ok (.iload_n 2, 1) := by decide +kernel
theorem dX8_room_9 : decode cX8_room 9 = .ok (.iconst 0, 1) := by decide +kernel
theorem dX8_room_10 : decode cX8_room 10 = .ok (.iconst 2, 1) := by decide +kernel
theorem dX8_room_11 : decode cX8_room 11 = .ok (.invokestatic 76, 3) := by decide +kernel
theorem dX8_room_14 : decode cX8_room 14 = .ok (.ifCond .ne 5, 3) := by decide +kernel
theorem dX8_room_17 : decode cX8_room 17 = .ok (.iconst (-1), 1) := by decide +kernel
theorem dX8_room_18 : decode cX8_room 18 = .ok (.ireturn, 1) := by decide +kernel
theorem dX8_room_19 : decode cX8_room 19 = .ok (.aload_n 0, 1) := by decide +kernel
theorem dX8_room_20 : decode cX8_room 20 = .ok (.aload_n 0, 1) := by decide +kernel
theorem dX8_room_21 : decode cX8_room 21 = .ok (.getfield 16, 3) := by decide +kernel
theorem dX8_room_24 : decode cX8_room 24 = .ok (.invokevirtual 154, 3) := by decide +kernel
theorem dX8_room_27 : decode cX8_room 27 = .ok (.iload_n 2, 1) := by decide +kernel
theorem dX8_room_28 : decode cX8_room 28 = .ok (.iconst 2, 1) := by decide +kernel
theorem dX8_room_29 : decode cX8_room 29 = .ok (.if_icmp .ne 11, 3) := by decide +kernel
theorem dX8_room_32 : decode cX8_room 32 = .ok (.aload_n 0, 1) := by decide +kernel
theorem dX8_room_33 : decode cX8_room 33 = .ok (.iload_n 1, 1) := by decide +kernel
theorem dX8_room_34 : decode cX8_room 34 = .ok (.invokevirtual 158, 3) := by decide +kernel
theorem dX8_room_37 : decode cX8_room 37 = .ok (.goto 13, 3) := by decide +kernel
theorem dX8_room_40 : decode cX8_room 40 = .ok (.aload_n 0, 1) := by decide +kernel
theorem dX8_room_41 : decode cX8_room 41 = .ok (.getfield 13, 3) := by decide +kernel
theorem dX8_room_44 : decode cX8_room 44 = .ok (.iconst 2, 1) := by decide +kernel
theorem dX8_room_45 : decode cX8_room 45 = .ok (.iload_n 1, 1) := by decide +kernel
theorem dX8_room_46 : decode cX8_room 46 = .ok (.imul, 1) := by decide +kernel
theorem dX8_room_47 : decode cX8_room 47 = .ok (.iload_n 2, 1) := by decide +kernel
theorem dX8_room_48 : decode cX8_room 48 = .ok (.iadd, 1) := by decide +kernel
theorem dX8_room_49 : decode cX8_room 49 = .ok (.iaload, 1) := by decide +kernel
theorem dX8_room_50 : decode cX8_room 50 = .ok (.ireturn, 1) := by decide +kernel
theorem dX8_remembers_0 : decode cX8_remembers 0 = .ok (.aload_n 0, 1) := by decide +kernel
theorem dX8_remembers_1 : decode cX8_remembers 1 = .ok (.getfield 118, 3) := by decide +kernel
theorem dX8_remembers_4 : decode cX8_remembers 4 = .ok (.bipush 8, 2) := by decide +kernel
theorem dX8_remembers_6 : decode cX8_remembers 6 = .ok (.if_icmp .ne 42, 3) := by decide +kernel
theorem dX8_remembers_9 : decode cX8_remembers 9 = .ok (.iconst 0, 1) := by decide +kernel
theorem dX8_remembers_10 : decode cX8_remembers 10 = .ok (.istore_n 1, 1) := by decide +kernel
theorem dX8_remembers_11 : decode cX8_remembers 11 = .ok (.iload_n 1, 1) := by decide +kernel
theorem dX8_remembers_12 : decode cX8_remembers 12 = .ok (.bipush 119, 2) := by decide +kernel
theorem dX8_remembers_14 : decode cX8_remembers 14 = .ok (.if_icmp .ge 24, 3) := by decide +kernel
theorem dX8_remembers_17 : decode cX8_remembers 17 = .ok (.aload_n 0, 1) := by decide +kernel
theorem dX8_remembers_18 : decode cX8_remembers 18 = .ok (.getfield 22, 3) := by decide +kernel
theorem dX8_remembers_21 : decode cX8_remembers 21 = .ok (.iload_n 1, 1) := by decide +kernel
theorem dX8_remembers_22 : decode cX8_remembers 22 = .ok (.aload_n 0, 1) := by decide +kernel
theorem dX8_remembers_23 : decode cX8_remembers 23 = .ok (.getfield 22, 3) := by decide +kernel
theorem dX8_remembers_26 : decode cX8_remembers 26 = .ok (.iload_n 1, 1) := by decide +kernel
theorem dX8_remembers_27 : decode cX8_remembers 27 = .ok (.bipush 17, 2) := by decide +kernel
theorem dX8_remembers_29 : decode cX8_remembers 29 = .ok (.iadd, 1) := by decide +kernel
theorem dX8_remembers_30 : decode cX8_remembers 30 = .ok (.iaload, 1) := by decide +kernel
theorem dX8_remembers_31 : decode cX8_remembers 31 = .ok (.iastore, 1) := by decide +kernel
theorem dX8_remembers_32 : decode cX8_remembers 32 = .ok (.iinc 1 1, 3) := by decide +kernel
theorem dX8_remembers_35 : decode cX8_remembers 35 = .ok (.goto (-24), 3) := by decide +kernel
theorem dX8_remembers_38 : decode cX8_remembers 38 = .ok (.aload_n 0, 1) := by decide +kernel
theorem dX8_remembers_39 : decode cX8_remembers 39 = .ok (.dup, 1) := by decide +kernel
theorem dX8_remembers_40 : decode cX8_remembers 40 = .ok (.getfield 118, 3) := by decide +kernel
theorem dX8_remembers_43 : decode cX8_remembers 43 = .ok (.iconst 1, 1) := by decide +kernel
theorem dX8_remembers_44 : decode cX8_remembers 44 = .ok (.isub, 1) := by decide +kernel
theorem dX8_remembers_45 : decode cX8_remembers 45 = .ok (.putfield 118, 3) := by decide +kernel
theorem dX8_remembers_48 : decode cX8_remembers 48 = .ok (.aload_n 0, 1) := by decide +kernel
theorem dX8_remembers_49 : decode cX8_remembers 49 = .ok (.getfield 22, 3) := by decide +kernel
theorem dX8_remembers_52 : decode cX8_remembers 52 = .ok (.bipush 17, 2) := by decide +kernel
theorem dX8_remembers_54 : decode cX8_remembers 54 = .ok (.aload_n 0, 1) := by decide +kernel
theorem dX8_remembers_55 : decode cX8_remembers 55 = .ok (.getfield 118, 3) := by decide +kernel
theorem dX8_remembers_58 : decode cX8_remembers 58 = .ok (.imul, 1) := by decide +kernel
theorem dX8_remembers_59 : decode cX8_remembers 59 = .ok (.aload_n 0, 1) := by decide +kernel
theorem dX8_remembers_60 : decode cX8_remembers 60 = .ok (.getfield 16, 3) := by decide +kernel
theorem dX8_remembers_63 : decode cX8_remembers 63 = .ok (.bipush 17, 2) := by decide +kernel
theorem dX8_remembers_65 : decode cX8_remembers 65 = .ok (.invokestatic 114, 3) := by decide +kernel
theorem dX8_remembers_68 : decode cX8_remembers 68 = .ok (.aload_n 0, 1) := by decide +kernel
theorem dX8_remembers_69 : decode cX8_remembers 69 = .ok (.dup, 1) := by decide +kernel
theorem dX8_remembers_70 : decode cX8_remembers 70 = .ok (.getfield 118, 3) := by decide +kernel
theorem dX8_remembers_73 : decode cX8_remembers 73 = .ok (.iconst 1, 1) := by decide +kernel
theorem dX8_remembers_74 : decode cX8_remembers 74 = .ok (.iadd, 1) := by decide +kernel
theorem dX8_remembers_75 : decode cX8_remembers 75 = .ok (.putfield 118, 3) := by decide +kernel
theorem dX8_remembers_78 : decode cX8_remembers 78 = .ok (.return_, 1) := by decide +kernel
theorem dX8_pass_0 : decode cX8_pass 0 = .ok (.iload_n 1, 1) := by decide +kernel
theorem dX8_pass_1 : decode cX8_pass 1 = .ok (.iconst 1, 1) := by decide +kernel
theorem dX8_pass_2 : decode cX8_pass 2 = .ok (.bipush 120, 2) := by decide +kernel
theorem dX8_pass_4 : decode cX8_pass 4 = .ok (.invokestatic 76, 3) := by decide +kernel
theorem dX8_pass_7 : decode cX8_pass 7 = .ok (.ifCond .ne 5, 3) := by decide +kernel
theorem dX8_pass_10 : decode cX8_pass 10 = .ok (.iconst (-1), 1) := by decide +kernel
theorem dX8_pass_11 : decode cX8_pass 11 = .ok (.ireturn, 1) := by decide +kernel
theorem dX8_pass_12 : decode cX8_pass 12 = .ok (.aload_n 0, 1) := by decide +kernel
theorem dX8_pass_13 : decode cX8_pass 13 = .ok (.getfield 16, 3) := by decide +kernel
theorem dX8_pass_16 : decode cX8_pass 16 = .ok (.iconst 0, 1) := by decide +kernel
theorem dX8_pass_17 : decode cX8_pass 17 = .ok (.iaload, 1) := by decide +kernel
theorem dX8_pass_18 : decode cX8_pass 18 = .ok (.iload_n 1, 1) := by decide +kernel
theorem dX8_pass_19 : decode cX8_pass 19 = .ok (.iadd, 1) := by decide +kernel
theorem dX8_pass_20 : decode cX8_pass 20 = .ok (.sipush 9999, 3) := by decide +kernel
theorem dX8_pass_23 : decode cX8_pass 23 = .ok (.if_icmp .le 6, 3) := by decide +kernel
theorem dX8_pass_26 : decode cX8_pass 26 = .ok (.bipush (-2), 2) := by decide +kernel
theorem dX8_pass_28 : decode cX8_pass 28 = .ok (.ireturn, 1) := by decide +kernel
theorem dX8_pass_29 : decode cX8_pass 29 = .ok (.aload_n 0, 1) := by decide +kernel
theorem dX8_pass_30 : decode cX8_pass 30 = .ok (.invokevirtual 161, 3) := by decide +kernel
theorem dX8_pass_33 : decode cX8_pass 33 = .ok (.aload_n 0, 1) := by decide +kernel
theorem dX8_pass_34 : decode cX8_pass 34 = .ok (.aload_n 0, 1) := by decide +kernel
theorem dX8_pass_35 : decode cX8_pass 35 = .ok (.getfield 16, 3) := by decide +kernel
theorem dX8_pass_38 : decode cX8_pass 38 = .ok (.invokevirtual 154, 3) := by decide +kernel
theorem dX8_pass_41 : decode cX8_pass 41 = .ok (.aload_n 0, 1) := by decide +kernel
theorem dX8_pass_42 : decode cX8_pass 42 = .ok (.iload_n 1, 1) := by decide +kernel
theorem dX8_pass_43 : decode cX8_pass 43 = .ok (.invokevirtual 164, 3) := by decide +kernel
theorem dX8_pass_46 : decode cX8_pass 46 = .ok (.aload_n 0, 1) := by decide +kernel
theorem dX8_pass_47 : decode cX8_pass 47 = .ok (.getfield 16, 3) := by decide +kernel
theorem dX8_pass_50 : decode cX8_pass 50 = .ok (.iconst 0, 1) := by decide +kernel
theorem dX8_pass_51 : decode cX8_pass 51 = .ok (.aload_n 0, 1) := by decide +kernel
theorem dX8_pass_52 : decode cX8_pass 52 = .ok (.getfield 46, 3) := by decide +kernel
theorem dX8_pass_55 : decode cX8_pass 55 = .ok (.bipush 17, 2) := by decide +kernel
theorem dX8_pass_57 : decode cX8_pass 57 = .ok (.invokestatic 114, 3) := by decide +kernel
theorem dX8_pass_60 : decode cX8_pass 60 = .ok (.aload_n 0, 1) := by decide +kernel
theorem dX8_pass_61 : decode cX8_pass 61 = .ok (.getfield 16, 3) := by decide +kernel
theorem dX8_pass_64 : decode cX8_pass 64 = .ok (.iconst 0, 1) := by decide +kernel
theorem dX8_pass_65 : decode cX8_pass 65 = .ok (.iaload, 1) := by decide +kernel
theorem dX8_pass_66 : decode cX8_pass 66 = .ok (.ireturn, 1) := by decide +kernel
theorem dX8_swap_0 : decode cX8_swap 0 = .ok (.aload_n 0, 1) := by decide +kernel
theorem dX8_swap_1 : decode cX8_swap 1 = .ok (.iload_n 1, 1) := by decide +kernel
theorem dX8_swap_2 : decode cX8_swap 2 = .ok (.invokevirtual 151, 3) := by decide +kernel
theorem dX8_swap_5 : decode cX8_swap 5 = .ok (.ifCond .eq 16, 3) := by decide +kernel
theorem dX8_swap_8 : decode cX8_swap 8 = .ok (.aload_n 0, 1) := by decide +kernel
theorem dX8_swap_9 : decode cX8_swap 9 = .ok (.iload_n 2, 1) := by decide +kernel
theorem dX8_swap_10 : decode cX8_swap 10 = .ok (.invokevirtual 151, 3) := by decide +kernel
theorem dX8_swap_13 : decode cX8_swap 13 = .ok (.ifCond .eq 8, 3) := by decide +kernel
theorem dX8_swap_16 : decode cX8_swap 16 = .ok (.iload_n 1, 1) := by decide +kernel
theorem dX8_swap_17 : decode cX8_swap 17 = .ok (.iload_n 2, 1) := by decide +kernel
theorem dX8_swap_18 : decode cX8_swap 18 = .ok (.if_icmp .ne 5, 3) := by decide +kernel
theorem dX8_swap_21 : decode cX8_swap 21 = .ok (.iconst (-1), 1) := by decide +kernel
theorem dX8_swap_22 : decode cX8_swap 22 = .ok (.ireturn, 1) := by decide +kernel
theorem dX8_swap_23 : decode cX8_swap 23 = .ok (.aload_n 0, 1) := by decide +kernel
theorem dX8_swap_24 : decode cX8_swap 24 = .ok (.invokevirtual 161, 3) := by decide +kernel
theorem dX8_swap_27 : decode cX8_swap 27 = .ok (.aload_n 0, 1) := by decide +kernel
theorem dX8_swap_28 : decode cX8_swap 28 = .ok (.getfield 16, 3) := by decide +kernel
theorem dX8_swap_31 : decode cX8_swap 31 = .ok (.iload_n 1, 1) := by decide +kernel
theorem dX8_swap_32 : decode cX8_swap 32 = .ok (.iload_n 2, 1) := by decide +kernel
theorem dX8_swap_33 : decode cX8_swap 33 = .ok (.invokestatic 133, 3) := by decide +kernel
theorem dX8_swap_36 : decode cX8_swap 36 = .ok (.aload_n 0, 1) := by decide +kernel
theorem dX8_swap_37 : decode cX8_swap 37 = .ok (.getfield 16, 3) := by decide +kernel
theorem dX8_swap_40 : decode cX8_swap 40 = .ok (.iconst 1, 1) := by decide +kernel
theorem dX8_swap_41 : decode cX8_swap 41 = .ok (.iload_n 1, 1) := by decide +kernel
theorem dX8_swap_42 : decode cX8_swap 42 = .ok (.iadd, 1) := by decide +kernel
theorem dX8_swap_43 : decode cX8_swap 43 = .ok (.iaload, 1) := by decide +kernel
theorem dX8_swap_44 : decode cX8_swap 44 = .ok (.ireturn, 1) := by decide +kernel
theorem dX8_swapped_0 : decode cX8_swapped 0 = .ok (.aload_n 0, 1) := by decide +kernel
theorem dX8_swapped_1 : decode cX8_swapped 1 = .ok (.iconst 1, 1) := by decide +kernel
theorem dX8_swapped_2 : decode cX8_swapped 2 = .ok (.iload_n 1, 1) := by decide +kernel
theorem dX8_swapped_3 : decode cX8_swapped 3 = .ok (.iadd, 1) := by decide +kernel
theorem dX8_swapped_4 : decode cX8_swapped 4 = .ok (.iaload, 1) := by decide +kernel
theorem dX8_swapped_5 : decode cX8_swapped 5 = .ok (.istore_n 3, 1) := by decide +kernel
theorem dX8_swapped_6 : decode cX8_swapped 6 = .ok (.aload_n 0, 1) := by decide +kernel
theorem dX8_swapped_7 : decode cX8_swapped 7 = .ok (.iconst 1, 1) := by decide +kernel
theorem dX8_swapped_8 : decode cX8_swapped 8 = .ok (.iload_n 1, 1) := by decide +kernel
theorem dX8_swapped_9 : decode cX8_swapped 9 = .ok (.iadd, 1) := by decide +kernel
theorem dX8_swapped_10 : decode cX8_swapped 10 = .ok (.aload_n 0, 1) := by decide +kernel
theorem dX8_swapped_11 : decode cX8_swapped 11 = .ok (.iconst 1, 1) := by decide +kernel
theorem dX8_swapped_12 : decode cX8_swapped 12 = .ok (.iload_n 2, 1) := by decide +kernel
theorem dX8_swapped_13 : decode cX8_swapped 13 = .ok (.iadd, 1) := by decide +kernel
theorem dX8_swapped_14 : decode cX8_swapped 14 = .ok (.iaload, 1) := by decide +kernel
theorem dX8_swapped_15 : decode cX8_swapped 15 = .ok (.iastore, 1) := by decide +kernel
theorem dX8_swapped_16 : decode cX8_swapped 16 = .ok (.aload_n 0, 1) := by decide +kernel
theorem dX8_swapped_17 : decode cX8_swapped 17 = .ok (.iconst 1, 1) := by decide +kernel
theorem dX8_swapped_18 : decode cX8_swapped 18 = .ok (.iload_n 2, 1) := by decide +kernel
theorem dX8_swapped_19 : decode cX8_swapped 19 = .ok (.iadd, 1) := by decide +kernel
theorem dX8_swapped_20 : decode cX8_swapped 20 = .ok (.iload_n 3, 1) := by decide +kernel
theorem dX8_swapped_21 : decode cX8_swapped 21 = .ok (.iastore, 1) := by decide +kernel
theorem dX8_swapped_22 : decode cX8_swapped 22 = .ok (.return_, 1) := by decide +kernel
theorem dX8_alter_0 : decode cX8_alter 0 = .ok (.aload_n 0, 1) := by decide +kernel
theorem dX8_alter_1 : decode cX8_alter 1 = .ok (.iload_n 1, 1) := by decide +kernel
theorem dX8_alter_2 : decode cX8_alter 2 = .ok (.invokevirtual 151, 3) := by decide +kernel
theorem dX8_alter_5 : decode cX8_alter 5 = .ok (.ifCond .eq 13, 3) := by decide +kernel
theorem dX8_alter_8 : decode cX8_alter 8 = .ok (.iload_n 2, 1) := by decide +kernel
theorem dX8_alter_9 : decode cX8_alter 9 = .ok (.iconst 0, 1) := by decide +kernel
theorem dX8_alter_10 : decode cX8_alter 10 = .ok (.bipush 59, 2) := by decide +kernel
theorem dX8_alter_12 : decode cX8_alter 12 = .ok (.invokestatic 76, 3) := by decide +kernel
theorem dX8_alter_15 : decode cX8_alter 15 = .ok (.ifCond .ne 5, 3) := by decide +kernel
theorem dX8_alter_18 : decode cX8_alter 18 = .ok (.iconst (-1), 1) := by decide +kernel
theorem dX8_alter_19 : decode cX8_alter 19 = .ok (.ireturn, 1) := by decide +kernel
theorem dX8_alter_20 : decode cX8_alter 20 = .ok (.aload_n 0, 1) := by decide +kernel
theorem dX8_alter_21 : decode cX8_alter 21 = .ok (.invokevirtual 161, 3) := by decide +kernel
theorem dX8_alter_24 : decode cX8_alter 24 = .ok (.aload_n 0, 1) := by decide +kernel
theorem dX8_alter_25 : decode cX8_alter 25 = .ok (.getfield 16, 3) := by decide +kernel
theorem dX8_alter_28 : decode cX8_alter 28 = .ok (.bipush 9, 2) := by decide +kernel
theorem dX8_alter_30 : decode cX8_alter 30 = .ok (.iload_n 1, 1) := by decide +kernel
theorem dX8_alter_31 : decode cX8_alter 31 = .ok (.iadd, 1) := by decide +kernel
theorem dX8_alter_32 : decode cX8_alter 32 = .ok (.iaload, 1) := by decide +kernel
theorem dX8_alter_33 : decode cX8_alter 33 = .ok (.istore_n 3, 1) := by decide +kernel
theorem dX8_alter_34 : decode cX8_alter 34 = .ok (.aload_n 0, 1) := by decide +kernel
theorem dX8_alter_35 : decode cX8_alter 35 = .ok (.getfield 16, 3) := by decide +kernel
theorem dX8_alter_38 : decode cX8_alter 38 = .ok (.bipush 9, 2) := by decide +kernel
theorem dX8_alter_40 : decode cX8_alter 40 = .ok (.iload_n 1, 1) := by decide +kernel
theorem dX8_alter_41 : decode cX8_alter 41 = .ok (.iadd, 1) := by decide +kernel
theorem dX8_alter_42 : decode cX8_alter 42 = .ok (.iload_n 2, 1) := by decide +kernel
theorem dX8_alter_43 : decode cX8_alter 43 = .ok (.iastore, 1) := by decide +kernel
theorem dX8_alter_44 : decode cX8_alter 44 = .ok (.iload_n 3, 1) := by decide +kernel
theorem dX8_alter_45 : decode cX8_alter 45 = .ok (.ireturn, 1) := by decide +kernel
theorem dX8_undo_0 : decode cX8_undo 0 = .ok (.aload_n 0, 1) := by decide +kernel
theorem dX8_undo_1 : decode cX8_undo 1 = .ok (.getfield 118, 3) := by decide +kernel
theorem dX8_undo_4 : decode cX8_undo 4 = .ok (.ifCond .ne 6, 3) := by decide +kernel
theorem dX8_undo_7 : decode cX8_undo 7 = .ok (.bipush (-2), 2) := by decide +kernel
theorem dX8_undo_9 : decode cX8_undo 9 = .ok (.ireturn, 1) := by decide +kernel
theorem dX8_undo_10 : decode cX8_undo 10 = .ok (.aload_n 0, 1) := by decide +kernel
theorem dX8_undo_11 : decode cX8_undo 11 = .ok (.dup, 1) := by decide +kernel
theorem dX8_undo_12 : decode cX8_undo 12 = .ok (.getfield 118, 3) := by decide +kernel
theorem dX8_undo_15 : decode cX8_undo 15 = .ok (.iconst 1, 1) := by decide +kernel
theorem dX8_undo_16 : decode cX8_undo 16 = .ok (.isub, 1) := by decide +kernel
theorem dX8_undo_17 : decode cX8_undo 17 = .ok (.putfield 118, 3) := by decide +kernel
theorem dX8_undo_20 : decode cX8_undo 20 = .ok (.iconst 0, 1) := by decide +kernel
theorem dX8_undo_21 : decode cX8_undo 21 = .ok (.istore_n 1, 1) := by decide +kernel
theorem dX8_undo_22 : decode cX8_undo 22 = .ok (.iload_n 1, 1) := by decide +kernel
theorem dX8_undo_23 : decode cX8_undo 23 = .ok (.bipush 17, 2) := by decide +kernel
theorem dX8_undo_25 : decode cX8_undo 25 = .ok (.if_icmp .ge 29, 3) := by decide +kernel
theorem dX8_undo_28 : decode cX8_undo 28 = .ok (.aload_n 0, 1) := by decide +kernel
theorem dX8_undo_29 : decode cX8_undo 29 = .ok (.getfield 16, 3) := by decide +kernel
theorem dX8_undo_32 : decode cX8_undo 32 = .ok (.iload_n 1, 1) := by decide +kernel
theorem dX8_undo_33 : decode cX8_undo 33 = .ok (.aload_n 0, 1) := by decide +kernel
theorem dX8_undo_34 : decode cX8_undo 34 = .ok (.getfield 22, 3) := by decide +kernel
theorem dX8_undo_37 : decode cX8_undo 37 = .ok (.bipush 17, 2) := by decide +kernel
theorem dX8_undo_39 : decode cX8_undo 39 = .ok (.aload_n 0, 1) := by decide +kernel
theorem dX8_undo_40 : decode cX8_undo 40 = .ok (.getfield 118, 3) := by decide +kernel
theorem dX8_undo_43 : decode cX8_undo 43 = .ok (.imul, 1) := by decide +kernel
theorem dX8_undo_44 : decode cX8_undo 44 = .ok (.iload_n 1, 1) := by decide +kernel
theorem dX8_undo_45 : decode cX8_undo 45 = .ok (.iadd, 1) := by decide +kernel
theorem dX8_undo_46 : decode cX8_undo 46 = .ok (.iaload, 1) := by decide +kernel
theorem dX8_undo_47 : decode cX8_undo 47 = .ok (.iastore, 1) := by decide +kernel
theorem dX8_undo_48 : decode cX8_undo 48 = .ok (.iinc 1 1, 3) := by decide +kernel
theorem dX8_undo_51 : decode cX8_undo 51 = .ok (.goto (-29), 3) := by decide +kernel
theorem dX8_undo_54 : decode cX8_undo 54 = .ok (.aload_n 0, 1) := by decide +kernel
theorem dX8_undo_55 : decode cX8_undo 55 = .ok (.getfield 118, 3) := by decide +kernel
theorem dX8_undo_58 : decode cX8_undo 58 = .ok (.ireturn, 1) := by decide +kernel
theorem dX8_has_0 : decode cX8_has 0 = .ok (.aload_n 0, 1) := by decide +kernel
theorem dX8_has_1 : decode cX8_has 1 = .ok (.iload_n 1, 1) := by decide +kernel
theorem dX8_has_2 : decode cX8_has 2 = .ok (.invokevirtual 151, 3) := by decide +kernel
theorem dX8_has_5 : decode cX8_has 5 = .ok (.ifCond .eq 13, 3) := by decide +kernel
theorem dX8_has_8 : decode cX8_has 8 = .ok (.iload_n 2, 1) := by decide +kernel
theorem dX8_has_9 : decode cX8_has 9 = .ok (.iconst 0, 1) := by decide +kernel
theorem dX8_has_10 : decode cX8_has 10 = .ok (.bipush 120, 2) := by decide +kernel
theorem dX8_has_12 : decode cX8_has 12 = .ok (.invokestatic 76, 3) := by decide +kernel
theorem dX8_has_15 : decode cX8_has 15 = .ok (.ifCond .ne 5, 3) := by decide +kernel
theorem dX8_has_18 : decode cX8_has 18 = .ok (.iconst (-1), 1) := by decide +kernel
theorem dX8_has_19 : decode cX8_has 19 = .ok (.ireturn, 1) := by decide +kernel
theorem dX8_has_20 : decode cX8_has 20 = .ok (.aload_n 0, 1) := by decide +kernel
theorem dX8_has_21 : decode cX8_has 21 = .ok (.aload_n 0, 1) := by decide +kernel
theorem dX8_has_22 : decode cX8_has 22 = .ok (.getfield 16, 3) := by decide +kernel
theorem dX8_has_25 : decode cX8_has 25 = .ok (.invokevirtual 154, 3) := by decide +kernel
theorem dX8_has_28 : decode cX8_has 28 = .ok (.aload_n 0, 1) := by decide +kernel
theorem dX8_has_29 : decode cX8_has 29 = .ok (.iload_n 2, 1) := by decide +kernel
theorem dX8_has_30 : decode cX8_has 30 = .ok (.iconst 1, 1) := by decide +kernel
theorem dX8_has_31 : decode cX8_has 31 = .ok (.iadd, 1) := by decide +kernel
theorem dX8_has_32 : decode cX8_has 32 = .ok (.invokevirtual 164, 3) := by decide +kernel
theorem dX8_has_35 : decode cX8_has 35 = .ok (.aload_n 0, 1) := by decide +kernel
theorem dX8_has_36 : decode cX8_has 36 = .ok (.getfield 46, 3) := by decide +kernel
theorem dX8_has_39 : decode cX8_has 39 = .ok (.iconst 1, 1) := by decide +kernel
theorem dX8_has_40 : decode cX8_has 40 = .ok (.iload_n 1, 1) := by decide +kernel
theorem dX8_has_41 : decode cX8_has 41 = .ok (.iadd, 1) := by decide +kernel
theorem dX8_has_42 : decode cX8_has 42 = .ok (.iaload, 1) := by decide +kernel
theorem dX8_has_43 : decode cX8_has 43 = .ok (.ireturn, 1) := by decide +kernel
theorem dX8_whose_0 : decode cX8_whose 0 = .ok (.aload_n 0, 1) := by decide +kernel
theorem dX8_whose_1 : decode cX8_whose 1 = .ok (.iload_n 1, 1) := by decide +kernel
theorem dX8_whose_2 : decode cX8_whose 2 = .ok (.invokevirtual 151, 3) := by decide +kernel
theorem dX8_whose_5 : decode cX8_whose 5 = .ok (.ifCond .eq 13, 3) := by decide +kernel
theorem dX8_whose_8 : decode cX8_whose 8 = .ok (.iload_n 2, 1) := by decide +kernel
theorem dX8_whose_9 : decode cX8_whose 9 = .ok (.iconst 0, 1) := by decide +kernel
theorem dX8_whose_10 : decode cX8_whose 10 = .ok (.bipush 120, 2) := by decide +kernel
theorem dX8_whose_12 : decode cX8_whose 12 = .ok (.invokestatic 76, 3) := by decide +kernel
theorem dX8_whose_15 : decode cX8_whose 15 = .ok (.ifCond .ne 5, 3) := by decide +kernel
theorem dX8_whose_18 : decode cX8_whose 18 = .ok (.iconst (-1), 1) := by decide +kernel
theorem dX8_whose_19 : decode cX8_whose 19 = .ok (.ireturn, 1) := by decide +kernel
theorem dX8_whose_20 : decode cX8_whose 20 = .ok (.aload_n 0, 1) := by decide +kernel
theorem dX8_whose_21 : decode cX8_whose 21 = .ok (.aload_n 0, 1) := by decide +kernel
theorem dX8_whose_22 : decode cX8_whose 22 = .ok (.getfield 16, 3) := by decide +kernel
theorem dX8_whose_25 : decode cX8_whose 25 = .ok (.invokevirtual 154, 3) := by decide +kernel
theorem dX8_whose_28 : decode cX8_whose 28 = .ok (.aload_n 0, 1) := by decide +kernel
theorem dX8_whose_29 : decode cX8_whose 29 = .ok (.iload_n 2, 1) := by decide +kernel
theorem dX8_whose_30 : decode cX8_whose 30 = .ok (.iconst 1, 1) := by decide +kernel
theorem dX8_whose_31 : decode cX8_whose 31 = .ok (.iadd, 1) := by decide +kernel
theorem dX8_whose_32 : decode cX8_whose 32 = .ok (.invokevirtual 164, 3) := by decide +kernel
theorem dX8_whose_35 : decode cX8_whose 35 = .ok (.aload_n 0, 1) := by decide +kernel
theorem dX8_whose_36 : decode cX8_whose 36 = .ok (.iload_n 1, 1) := by decide +kernel
theorem dX8_whose_37 : decode cX8_whose 37 = .ok (.invokevirtual 158, 3) := by decide +kernel
theorem dX8_whose_40 : decode cX8_whose 40 = .ok (.ireturn, 1) := by decide +kernel
theorem dX8_sun_0 : decode cX8_sun 0 = .ok (.aload_n 0, 1) := by decide +kernel
theorem dX8_sun_1 : decode cX8_sun 1 = .ok (.iload_n 1, 1) := by decide +kernel
theorem dX8_sun_2 : decode cX8_sun 2 = .ok (.invokevirtual 151, 3) := by decide +kernel
theorem dX8_sun_5 : decode cX8_sun 5 = .ok (.ifCond .eq 13, 3) := by decide +kernel
theorem dX8_sun_8 : decode cX8_sun 8 = .ok (.iload_n 2, 1) := by decide +kernel
theorem dX8_sun_9 : decode cX8_sun 9 = .ok (.iconst 1, 1) := by decide +kernel
theorem dX8_sun_10 : decode cX8_sun 10 = .ok (.bipush 120, 2) := by decide +kernel
theorem dX8_sun_12 : decode cX8_sun 12 = .ok (.invokestatic 76, 3) := by decide +kernel
theorem dX8_sun_15 : decode cX8_sun 15 = .ok (.ifCond .ne 5, 3) := by decide +kernel
theorem dX8_sun_18 : decode cX8_sun 18 = .ok (.iconst (-1), 1) := by decide +kernel
theorem dX8_sun_19 : decode cX8_sun 19 = .ok (.ireturn, 1) := by decide +kernel
theorem dX8_sun_20 : decode cX8_sun 20 = .ok (.aload_n 0, 1) := by decide +kernel
theorem dX8_sun_21 : decode cX8_sun 21 = .ok (.aload_n 0, 1) := by decide +kernel
theorem dX8_sun_22 : decode cX8_sun 22 = .ok (.getfield 16, 3) := by decide +kernel
theorem dX8_sun_25 : decode cX8_sun 25 = .ok (.invokevirtual 154, 3) := by decide +kernel
theorem dX8_sun_28 : decode cX8_sun 28 = .ok (.aload_n 0, 1) := by decide +kernel
theorem dX8_sun_29 : decode cX8_sun 29 = .ok (.iload_n 1, 1) := by decide +kernel
theorem dX8_sun_30 : decode cX8_sun 30 = .ok (.iload_n 2, 1) := by decide +kernel
theorem dX8_sun_31 : decode cX8_sun 31 = .ok (.invokevirtual 167, 3) := by decide +kernel
theorem dX8_sun_34 : decode cX8_sun 34 = .ok (.ireturn, 1) := by decide +kernel
theorem dX8_cold_0 : decode cX8_cold 0 = .ok (.iload_n 1, 1) := by decide +kernel
theorem dX8_cold_1 : decode cX8_cold 1 = .ok (.iconst 0, 1) := by decide +kernel
theorem dX8_cold_2 : decode cX8_cold 2 = .ok (.bipush 120, 2) := by decide +kernel
theorem dX8_cold_4 : decode cX8_cold 4 = .ok (.invokestatic 76, 3) := by decide +kernel
theorem dX8_cold_7 : decode cX8_cold 7 = .ok (.ifCond .ne 5, 3) := by decide +kernel
theorem dX8_cold_10 : decode cX8_cold 10 = .ok (.iconst (-1), 1) := by decide +kernel
theorem dX8_cold_11 : decode cX8_cold 11 = .ok (.ireturn, 1) := by decide +kernel
theorem dX8_cold_12 : decode cX8_cold 12 = .ok (.aload_n 0, 1) := by decide +kernel
theorem dX8_cold_13 : decode cX8_cold 13 = .ok (.aload_n 0, 1) := by decide +kernel
theorem dX8_cold_14 : decode cX8_cold 14 = .ok (.getfield 16, 3) := by decide +kernel
theorem dX8_cold_17 : decode cX8_cold 17 = .ok (.invokevirtual 154, 3) := by decide +kernel
theorem dX8_cold_20 : decode cX8_cold 20 = .ok (.aload_n 0, 1) := by decide +kernel
theorem dX8_cold_21 : decode cX8_cold 21 = .ok (.iload_n 1, 1) := by decide +kernel
theorem dX8_cold_22 : decode cX8_cold 22 = .ok (.invokevirtual 164, 3) := by decide +kernel
theorem dX8_cold_25 : decode cX8_cold 25 = .ok (.aload_n 0, 1) := by decide +kernel
theorem dX8_cold_26 : decode cX8_cold 26 = .ok (.invokevirtual 145, 3) := by decide +kernel
theorem dX8_cold_29 : decode cX8_cold 29 = .ok (.ireturn, 1) := by decide +kernel
theorem dX8_want_0 : decode cX8_want 0 = .ok (.iload_n 1, 1) := by decide +kernel
theorem dX8_want_1 : decode cX8_want 1 = .ok (.iconst 1, 1) := by decide +kernel
theorem dX8_want_2 : decode cX8_want 2 = .ok (.bipush 120, 2) := by decide +kernel
theorem dX8_want_4 : decode cX8_want 4 = .ok (.invokestatic 76, 3) := by decide +kernel
theorem dX8_want_7 : decode cX8_want 7 = .ok (.ifCond .ne 5, 3) := by decide +kernel
theorem dX8_want_10 : decode cX8_want 10 = .ok (.iconst (-1), 1) := by decide +kernel
theorem dX8_want_11 : decode cX8_want 11 = .ok (.ireturn, 1) := by decide +kernel
theorem dX8_want_12 : decode cX8_want 12 = .ok (.aload_n 0, 1) := by decide +kernel
theorem dX8_want_13 : decode cX8_want 13 = .ok (.aload_n 0, 1) := by decide +kernel
theorem dX8_want_14 : decode cX8_want 14 = .ok (.getfield 16, 3) := by decide +kernel
theorem dX8_want_17 : decode cX8_want 17 = .ok (.invokevirtual 154, 3) := by decide +kernel
theorem dX8_want_20 : decode cX8_want 20 = .ok (.aload_n 0, 1) := by decide +kernel
theorem dX8_want_21 : decode cX8_want 21 = .ok (.iload_n 1, 1) := by decide +kernel
theorem dX8_want_22 : decode cX8_want 22 = .ok (.invokevirtual 170, 3) := by decide +kernel
theorem dX8_want_25 : decode cX8_want 25 = .ok (.ireturn, 1) := by decide +kernel
theorem dX8_isPair_0 : decode cX8_isPair 0 = .ok (.iload_n 0, 1) := by decide +kernel
theorem dX8_isPair_1 : decode cX8_isPair 1 = .ok (.bipush 8, 2) := by decide +kernel
theorem dX8_isPair_3 : decode cX8_isPair 3 = .ok (.idiv, 1) := by decide +kernel
theorem dX8_isPair_4 : decode cX8_isPair 4 = .ok (.iload_n 0, 1) := by decide +kernel
theorem dX8_isPair_5 : decode cX8_isPair 5 = .ok (.bipush 8, 2) := by decide +kernel
theorem dX8_isPair_7 : decode cX8_isPair 7 = .ok (.irem, 1) := by decide +kernel
theorem dX8_isPair_8 : decode cX8_isPair 8 = .ok (.if_icmp .ge 15, 3) := by decide +kernel
theorem dX8_isPair_11 : decode cX8_isPair 11 = .ok (.iload_n 0, 1) := by decide +kernel
theorem dX8_isPair_12 : decode cX8_isPair 12 = .ok (.bipush 8, 2) := by decide +kernel
theorem dX8_isPair_14 : decode cX8_isPair 14 = .ok (.irem, 1) := by decide +kernel
theorem dX8_isPair_15 : decode cX8_isPair 15 = .ok (.iload_n 1, 1) := by decide +kernel
theorem dX8_isPair_16 : decode cX8_isPair 16 = .ok (.if_icmp .ge 7, 3) := by decide +kernel
theorem dX8_isPair_19 : decode cX8_isPair 19 = .ok (.iconst 1, 1) := by decide +kernel
theorem dX8_isPair_20 : decode cX8_isPair 20 = .ok (.goto 4, 3) := by decide +kernel
theorem dX8_isPair_23 : decode cX8_isPair 23 = .ok (.iconst 0, 1) := by decide +kernel
theorem dX8_isPair_24 : decode cX8_isPair 24 = .ok (.ireturn, 1) := by decide +kernel
theorem dX8_triesSwaps_0 : decode cX8_triesSwaps 0 = .ok (.aload_n 0, 1) := by decide +kernel
theorem dX8_triesSwaps_1 : decode cX8_triesSwaps 1 = .ok (.aload_n 0, 1) := by decide +kernel
theorem dX8_triesSwaps_2 : decode cX8_triesSwaps 2 = .ok (.getfield 16, 3) := by decide +kernel
theorem dX8_triesSwaps_5 : decode cX8_triesSwaps 5 = .ok (.invokevirtual 154, 3) := by decide +kernel
theorem dX8_triesSwaps_8 : decode cX8_triesSwaps 8 = .ok (.iload_n 3, 1) := by decide +kernel
theorem dX8_triesSwaps_9 : decode cX8_triesSwaps 9 = .ok (.ifCond .lt 18, 3) := by decide +kernel
theorem dX8_triesSwaps_12 : decode cX8_triesSwaps 12 = .ok (.aload_n 0, 1) := by decide +kernel
theorem dX8_triesSwaps_13 : decode cX8_triesSwaps 13 = .ok (.getfield 46, 3) := by decide +kernel
theorem dX8_triesSwaps_16 : decode cX8_triesSwaps 16 = .ok (.iload_n 3, 1) := by decide +kernel
theorem dX8_triesSwaps_17 : decode cX8_triesSwaps 17 = .ok (.bipush 8, 2) := by decide +kernel
theorem dX8_triesSwaps_19 : decode cX8_triesSwaps 19 = .ok (.idiv, 1) := by decide +kernel
theorem dX8_triesSwaps_20 : decode cX8_triesSwaps 20 = .ok (.iload_n 3, 1) := by decide +kernel
theorem dX8_triesSwaps_21 : decode cX8_triesSwaps 21 = .ok (.bipush 8, 2) := by decide +kernel
theorem dX8_triesSwaps_23 : decode cX8_triesSwaps 23 = .ok (.irem, 1) := by decide +kernel
theorem dX8_triesSwaps_24 : decode cX8_triesSwaps 24 = .ok (.invokestatic 133, 3) := by decide +kernel
theorem dX8_triesSwaps_27 : decode cX8_triesSwaps 27 = .ok (.iload 4, 2) := by decide +kernel
theorem dX8_triesSwaps_29 : decode cX8_triesSwaps 29 = .ok (.ifCond .lt 20, 3) := by decide +kernel
theorem dX8_triesSwaps_32 : decode cX8_triesSwaps 32 = .ok (.aload_n 0, 1) := by decide +kernel
theorem dX8_triesSwaps_33 : decode cX8_triesSwaps 33 = .ok (.getfield 46, 3) := by decide +kernel
theorem dX8_triesSwaps_36 : decode cX8_triesSwaps 36 = .ok (.iload 4, 2) := by decide +kernel
theorem dX8_triesSwaps_38 : decode cX8_triesSwaps 38 = .ok (.bipush 8, 2) := by decide +kernel
theorem dX8_triesSwaps_40 : decode cX8_triesSwaps 40 = .ok (.idiv, 1) := by decide +kernel
theorem dX8_triesSwaps_41 : decode cX8_triesSwaps 41 = .ok (.iload 4, 2) := by decide +kernel
theorem dX8_triesSwaps_43 : decode cX8_triesSwaps 43 = .ok (.bipush 8, 2) := by decide +kernel
end
section
theorem dX8_triesSwaps_45 : decode cX8_triesSwaps 45 = .ok (.irem, 1) := by decide +kernel
theorem dX8_triesSwaps_46 : decode cX8_triesSwaps 46 = .ok (.invokestatic 133, 3) := by decide +kernel
theorem dX8_triesSwaps_49 : decode cX8_triesSwaps 49 = .ok (.aload_n 0, 1) := by decide +kernel
theorem dX8_triesSwaps_50 : decode cX8_triesSwaps 50 = .ok (.iload_n 1, 1) := by decide +kernel
theorem dX8_triesSwaps_51 : decode cX8_triesSwaps 51 = .ok (.iload_n 2, 1) := by decide +kernel
theorem dX8_triesSwaps_52 : decode cX8_triesSwaps 52 = .ok (.invokevirtual 167, 3) := by decide +kernel
theorem dX8_triesSwaps_55 : decode cX8_triesSwaps 55 = .ok (.istore 5, 2) := by decide +kernel
theorem dX8_triesSwaps_57 : decode cX8_triesSwaps 57 = .ok (.iload 5, 2) := by decide +kernel
theorem dX8_triesSwaps_59 : decode cX8_triesSwaps 59 = .ok (.aload_n 0, 1) := by decide +kernel
theorem dX8_triesSwaps_60 : decode cX8_triesSwaps 60 = .ok (.getfield 173, 3) := by decide +kernel
theorem dX8_triesSwaps_63 : decode cX8_triesSwaps 63 = .ok (.if_icmp .le 20, 3) := by decide +kernel
theorem dX8_triesSwaps_66 : decode cX8_triesSwaps 66 = .ok (.aload_n 0, 1) := by decide +kernel
theorem dX8_triesSwaps_67 : decode cX8_triesSwaps 67 = .ok (.iload 5, 2) := by decide +kernel
theorem dX8_triesSwaps_69 : decode cX8_triesSwaps 69 = .ok (.putfield 173, 3) := by decide +kernel
theorem dX8_triesSwaps_72 : decode cX8_triesSwaps 72 = .ok (.aload_n 0, 1) := by decide +kernel
theorem dX8_triesSwaps_73 : decode cX8_triesSwaps 73 = .ok (.iload_n 3, 1) := by decide +kernel
theorem dX8_triesSwaps_74 : decode cX8_triesSwaps 74 = .ok (.putfield 176, 3) := by decide +kernel
theorem dX8_triesSwaps_77 : decode cX8_triesSwaps 77 = .ok (.aload_n 0, 1) := by decide +kernel
theorem dX8_triesSwaps_78 : decode cX8_triesSwaps 78 = .ok (.iload 4, 2) := by decide +kernel
theorem dX8_triesSwaps_80 : decode cX8_triesSwaps 80 = .ok (.putfield 179, 3) := by decide +kernel
theorem dX8_triesSwaps_83 : decode cX8_triesSwaps 83 = .ok (.return_, 1) := by decide +kernel
theorem dX8_swaps_0 : decode cX8_swaps 0 = .ok (.aload_n 0, 1) := by decide +kernel
theorem dX8_swaps_1 : decode cX8_swaps 1 = .ok (.iload_n 1, 1) := by decide +kernel
theorem dX8_swaps_2 : decode cX8_swaps 2 = .ok (.invokevirtual 151, 3) := by decide +kernel
theorem dX8_swaps_5 : decode cX8_swaps 5 = .ok (.ifCond .eq 22, 3) := by decide +kernel
theorem dX8_swaps_8 : decode cX8_swaps 8 = .ok (.iload_n 2, 1) := by decide +kernel
theorem dX8_swaps_9 : decode cX8_swaps 9 = .ok (.iconst 1, 1) := by decide +kernel
theorem dX8_swaps_10 : decode cX8_swaps 10 = .ok (.bipush 60, 2) := by decide +kernel
theorem dX8_swaps_12 : decode cX8_swaps 12 = .ok (.invokestatic 76, 3) := by decide +kernel
theorem dX8_swaps_15 : decode cX8_swaps 15 = .ok (.ifCond .eq 12, 3) := by decide +kernel
theorem dX8_swaps_18 : decode cX8_swaps 18 = .ok (.iload_n 3, 1) := by decide +kernel
theorem dX8_swaps_19 : decode cX8_swaps 19 = .ok (.iconst 0, 1) := by decide +kernel
theorem dX8_swaps_20 : decode cX8_swaps 20 = .ok (.iconst 2, 1) := by decide +kernel
theorem dX8_swaps_21 : decode cX8_swaps 21 = .ok (.invokestatic 76, 3) := by decide +kernel
theorem dX8_swaps_24 : decode cX8_swaps 24 = .ok (.ifCond .ne 5, 3) := by decide +kernel
theorem dX8_swaps_27 : decode cX8_swaps 27 = .ok (.iconst (-1), 1) := by decide +kernel
theorem dX8_swaps_28 : decode cX8_swaps 28 = .ok (.ireturn, 1) := by decide +kernel
theorem dX8_swaps_29 : decode cX8_swaps 29 = .ok (.aload_n 0, 1) := by decide +kernel
theorem dX8_swaps_30 : decode cX8_swaps 30 = .ok (.iconst (-1), 1) := by decide +kernel
theorem dX8_swaps_31 : decode cX8_swaps 31 = .ok (.putfield 173, 3) := by decide +kernel
theorem dX8_swaps_34 : decode cX8_swaps 34 = .ok (.aload_n 0, 1) := by decide +kernel
theorem dX8_swaps_35 : decode cX8_swaps 35 = .ok (.iload_n 1, 1) := by decide +kernel
theorem dX8_swaps_36 : decode cX8_swaps 36 = .ok (.iload_n 2, 1) := by decide +kernel
theorem dX8_swaps_37 : decode cX8_swaps 37 = .ok (.bipush (-4), 2) := by decide +kernel
theorem dX8_swaps_39 : decode cX8_swaps 39 = .ok (.bipush (-4), 2) := by decide +kernel
theorem dX8_swaps_41 : decode cX8_swaps 41 = .ok (.invokevirtual 182, 3) := by decide +kernel
theorem dX8_swaps_44 : decode cX8_swaps 44 = .ok (.iconst 0, 1) := by decide +kernel
theorem dX8_swaps_45 : decode cX8_swaps 45 = .ok (.istore 4, 2) := by decide +kernel
theorem dX8_swaps_47 : decode cX8_swaps 47 = .ok (.iload 4, 2) := by decide +kernel
theorem dX8_swaps_49 : decode cX8_swaps 49 = .ok (.bipush 64, 2) := by decide +kernel
theorem dX8_swaps_51 : decode cX8_swaps 51 = .ok (.if_icmp .ge 31, 3) := by decide +kernel
theorem dX8_swaps_54 : decode cX8_swaps 54 = .ok (.iload 4, 2) := by decide +kernel
theorem dX8_swaps_56 : decode cX8_swaps 56 = .ok (.aload_n 0, 1) := by decide +kernel
theorem dX8_swaps_57 : decode cX8_swaps 57 = .ok (.getfield 73, 3) := by decide +kernel
theorem dX8_swaps_60 : decode cX8_swaps 60 = .ok (.invokestatic 186, 3) := by decide +kernel
theorem dX8_swaps_63 : decode cX8_swaps 63 = .ok (.ifCond .eq 13, 3) := by decide +kernel
theorem dX8_swaps_66 : decode cX8_swaps 66 = .ok (.aload_n 0, 1) := by decide +kernel
theorem dX8_swaps_67 : decode cX8_swaps 67 = .ok (.iload_n 1, 1) := by decide +kernel
theorem dX8_swaps_68 : decode cX8_swaps 68 = .ok (.iload_n 2, 1) := by decide +kernel
theorem dX8_swaps_69 : decode cX8_swaps 69 = .ok (.iload 4, 2) := by decide +kernel
theorem dX8_swaps_71 : decode cX8_swaps 71 = .ok (.bipush (-4), 2) := by decide +kernel
theorem dX8_swaps_73 : decode cX8_swaps 73 = .ok (.invokevirtual 182, 3) := by decide +kernel
theorem dX8_swaps_76 : decode cX8_swaps 76 = .ok (.iinc 4 1, 3) := by decide +kernel
theorem dX8_swaps_79 : decode cX8_swaps 79 = .ok (.goto (-32), 3) := by decide +kernel
theorem dX8_swaps_82 : decode cX8_swaps 82 = .ok (.iconst 0, 1) := by decide +kernel
theorem dX8_swaps_83 : decode cX8_swaps 83 = .ok (.istore 4, 2) := by decide +kernel
theorem dX8_swaps_85 : decode cX8_swaps 85 = .ok (.iload 4, 2) := by decide +kernel
theorem dX8_swaps_87 : decode cX8_swaps 87 = .ok (.sipush 4096, 3) := by decide +kernel
theorem dX8_swaps_90 : decode cX8_swaps 90 = .ok (.if_icmp .ge 55, 3) := by decide +kernel
theorem dX8_swaps_93 : decode cX8_swaps 93 = .ok (.iload 4, 2) := by decide +kernel
theorem dX8_swaps_95 : decode cX8_swaps 95 = .ok (.bipush 64, 2) := by decide +kernel
theorem dX8_swaps_97 : decode cX8_swaps 97 = .ok (.idiv, 1) := by decide +kernel
theorem dX8_swaps_98 : decode cX8_swaps 98 = .ok (.aload_n 0, 1) := by decide +kernel
theorem dX8_swaps_99 : decode cX8_swaps 99 = .ok (.getfield 73, 3) := by decide +kernel
theorem dX8_swaps_102 : decode cX8_swaps 102 = .ok (.invokestatic 186, 3) := by decide +kernel
theorem dX8_swaps_105 : decode cX8_swaps 105 = .ok (.ifCond .eq 34, 3) := by decide +kernel
theorem dX8_swaps_108 : decode cX8_swaps 108 = .ok (.iload 4, 2) := by decide +kernel
theorem dX8_swaps_110 : decode cX8_swaps 110 = .ok (.bipush 64, 2) := by decide +kernel
theorem dX8_swaps_112 : decode cX8_swaps 112 = .ok (.irem, 1) := by decide +kernel
theorem dX8_swaps_113 : decode cX8_swaps 113 = .ok (.aload_n 0, 1) := by decide +kernel
theorem dX8_swaps_114 : decode cX8_swaps 114 = .ok (.getfield 73, 3) := by decide +kernel
theorem dX8_swaps_117 : decode cX8_swaps 117 = .ok (.invokestatic 186, 3) := by decide +kernel
theorem dX8_swaps_120 : decode cX8_swaps 120 = .ok (.ifCond .eq 19, 3) := by decide +kernel
theorem dX8_swaps_123 : decode cX8_swaps 123 = .ok (.aload_n 0, 1) := by decide +kernel
theorem dX8_swaps_124 : decode cX8_swaps 124 = .ok (.iload_n 1, 1) := by decide +kernel
theorem dX8_swaps_125 : decode cX8_swaps 125 = .ok (.iload_n 2, 1) := by decide +kernel
theorem dX8_swaps_126 : decode cX8_swaps 126 = .ok (.iload 4, 2) := by decide +kernel
theorem dX8_swaps_128 : decode cX8_swaps 128 = .ok (.bipush 64, 2) := by decide +kernel
theorem dX8_swaps_130 : decode cX8_swaps 130 = .ok (.idiv, 1) := by decide +kernel
theorem dX8_swaps_131 : decode cX8_swaps 131 = .ok (.iload 4, 2) := by decide +kernel
theorem dX8_swaps_133 : decode cX8_swaps 133 = .ok (.bipush 64, 2) := by decide +kernel
theorem dX8_swaps_135 : decode cX8_swaps 135 = .ok (.irem, 1) := by decide +kernel
theorem dX8_swaps_136 : decode cX8_swaps 136 = .ok (.invokevirtual 182, 3) := by decide +kernel
theorem dX8_swaps_139 : decode cX8_swaps 139 = .ok (.iinc 4 1, 3) := by decide +kernel
theorem dX8_swaps_142 : decode cX8_swaps 142 = .ok (.goto (-57), 3) := by decide +kernel
theorem dX8_swaps_145 : decode cX8_swaps 145 = .ok (.iload_n 3, 1) := by decide +kernel
theorem dX8_swaps_146 : decode cX8_swaps 146 = .ok (.ifCond .ne 10, 3) := by decide +kernel
theorem dX8_swaps_149 : decode cX8_swaps 149 = .ok (.aload_n 0, 1) := by decide +kernel
theorem dX8_swaps_150 : decode cX8_swaps 150 = .ok (.getfield 173, 3) := by decide +kernel
theorem dX8_swaps_153 : decode cX8_swaps 153 = .ok (.goto 19, 3) := by decide +kernel
theorem dX8_swaps_156 : decode cX8_swaps 156 = .ok (.iload_n 3, 1) := by decide +kernel
theorem dX8_swaps_157 : decode cX8_swaps 157 = .ok (.iconst 1, 1) := by decide +kernel
theorem dX8_swaps_158 : decode cX8_swaps 158 = .ok (.if_icmp .ne 10, 3) := by decide +kernel
theorem dX8_swaps_161 : decode cX8_swaps 161 = .ok (.aload_n 0, 1) := by decide +kernel
theorem dX8_swaps_162 : decode cX8_swaps 162 = .ok (.getfield 176, 3) := by decide +kernel
theorem dX8_swaps_165 : decode cX8_swaps 165 = .ok (.goto 7, 3) := by decide +kernel
theorem dX8_swaps_168 : decode cX8_swaps 168 = .ok (.aload_n 0, 1) := by decide +kernel
theorem dX8_swaps_169 : decode cX8_swaps 169 = .ok (.getfield 179, 3) := by decide +kernel
theorem dX8_swaps_172 : decode cX8_swaps 172 = .ok (.ireturn, 1) := by decide +kernel
theorem dX8_warm_0 : decode cX8_warm 0 = .ok (.iload_n 1, 1) := by decide +kernel
theorem dX8_warm_1 : decode cX8_warm 1 = .ok (.iconst 1, 1) := by decide +kernel
theorem dX8_warm_2 : decode cX8_warm 2 = .ok (.bipush 60, 2) := by decide +kernel
theorem dX8_warm_4 : decode cX8_warm 4 = .ok (.invokestatic 76, 3) := by decide +kernel
theorem dX8_warm_7 : decode cX8_warm 7 = .ok (.ifCond .eq 12, 3) := by decide +kernel
theorem dX8_warm_10 : decode cX8_warm 10 = .ok (.iload_n 2, 1) := by decide +kernel
theorem dX8_warm_11 : decode cX8_warm 11 = .ok (.iconst 0, 1) := by decide +kernel
theorem dX8_warm_12 : decode cX8_warm 12 = .ok (.iconst 1, 1) := by decide +kernel
theorem dX8_warm_13 : decode cX8_warm 13 = .ok (.invokestatic 76, 3) := by decide +kernel
theorem dX8_warm_16 : decode cX8_warm 16 = .ok (.ifCond .ne 5, 3) := by decide +kernel
theorem dX8_warm_19 : decode cX8_warm 19 = .ok (.iconst (-1), 1) := by decide +kernel
theorem dX8_warm_20 : decode cX8_warm 20 = .ok (.ireturn, 1) := by decide +kernel
theorem dX8_warm_21 : decode cX8_warm 21 = .ok (.aload_n 0, 1) := by decide +kernel
theorem dX8_warm_22 : decode cX8_warm 22 = .ok (.aload_n 0, 1) := by decide +kernel
theorem dX8_warm_23 : decode cX8_warm 23 = .ok (.getfield 16, 3) := by decide +kernel
theorem dX8_warm_26 : decode cX8_warm 26 = .ok (.invokevirtual 154, 3) := by decide +kernel
theorem dX8_warm_29 : decode cX8_warm 29 = .ok (.aload_n 0, 1) := by decide +kernel
theorem dX8_warm_30 : decode cX8_warm 30 = .ok (.iload_n 1, 1) := by decide +kernel
theorem dX8_warm_31 : decode cX8_warm 31 = .ok (.invokevirtual 170, 3) := by decide +kernel
theorem dX8_warm_34 : decode cX8_warm 34 = .ok (.istore_n 3, 1) := by decide +kernel
theorem dX8_warm_35 : decode cX8_warm 35 = .ok (.bipush (-4), 2) := by decide +kernel
theorem dX8_warm_37 : decode cX8_warm 37 = .ok (.istore 4, 2) := by decide +kernel
theorem dX8_warm_39 : decode cX8_warm 39 = .ok (.iconst 0, 1) := by decide +kernel
theorem dX8_warm_40 : decode cX8_warm 40 = .ok (.istore 5, 2) := by decide +kernel
theorem dX8_warm_42 : decode cX8_warm 42 = .ok (.iload 5, 2) := by decide +kernel
theorem dX8_warm_44 : decode cX8_warm 44 = .ok (.bipush 64, 2) := by decide +kernel
theorem dX8_warm_46 : decode cX8_warm 46 = .ok (.if_icmp .ge 81, 3) := by decide +kernel
theorem dX8_warm_49 : decode cX8_warm 49 = .ok (.iload 5, 2) := by decide +kernel
theorem dX8_warm_51 : decode cX8_warm 51 = .ok (.aload_n 0, 1) := by decide +kernel
theorem dX8_warm_52 : decode cX8_warm 52 = .ok (.getfield 73, 3) := by decide +kernel
theorem dX8_warm_55 : decode cX8_warm 55 = .ok (.invokestatic 186, 3) := by decide +kernel
theorem dX8_warm_58 : decode cX8_warm 58 = .ok (.ifCond .eq 63, 3) := by decide +kernel
theorem dX8_warm_61 : decode cX8_warm 61 = .ok (.aload_n 0, 1) := by decide +kernel
theorem dX8_warm_62 : decode cX8_warm 62 = .ok (.aload_n 0, 1) := by decide +kernel
theorem dX8_warm_63 : decode cX8_warm 63 = .ok (.getfield 16, 3) := by decide +kernel
theorem dX8_warm_66 : decode cX8_warm 66 = .ok (.invokevirtual 154, 3) := by decide +kernel
theorem dX8_warm_69 : decode cX8_warm 69 = .ok (.aload_n 0, 1) := by decide +kernel
theorem dX8_warm_70 : decode cX8_warm 70 = .ok (.getfield 46, 3) := by decide +kernel
theorem dX8_warm_73 : decode cX8_warm 73 = .ok (.iload 5, 2) := by decide +kernel
theorem dX8_warm_75 : decode cX8_warm 75 = .ok (.bipush 8, 2) := by decide +kernel
theorem dX8_warm_77 : decode cX8_warm 77 = .ok (.idiv, 1) := by decide +kernel
theorem dX8_warm_78 : decode cX8_warm 78 = .ok (.iload 5, 2) := by decide +kernel
theorem dX8_warm_80 : decode cX8_warm 80 = .ok (.bipush 8, 2) := by decide +kernel
theorem dX8_warm_82 : decode cX8_warm 82 = .ok (.irem, 1) := by decide +kernel
theorem dX8_warm_83 : decode cX8_warm 83 = .ok (.invokestatic 133, 3) := by decide +kernel
theorem dX8_warm_86 : decode cX8_warm 86 = .ok (.aload_n 0, 1) := by decide +kernel
theorem dX8_warm_87 : decode cX8_warm 87 = .ok (.iload_n 1, 1) := by decide +kernel
theorem dX8_warm_88 : decode cX8_warm 88 = .ok (.invokevirtual 170, 3) := by decide +kernel
theorem dX8_warm_91 : decode cX8_warm 91 = .ok (.istore 6, 2) := by decide +kernel
theorem dX8_warm_93 : decode cX8_warm 93 = .ok (.iload 6, 2) := by decide +kernel
theorem dX8_warm_95 : decode cX8_warm 95 = .ok (.iload_n 3, 1) := by decide +kernel
theorem dX8_warm_96 : decode cX8_warm 96 = .ok (.if_icmp .ge 8, 3) := by decide +kernel
theorem dX8_warm_99 : decode cX8_warm 99 = .ok (.iload 5, 2) := by decide +kernel
theorem dX8_warm_101 : decode cX8_warm 101 = .ok (.goto 5, 3) := by decide +kernel
theorem dX8_warm_104 : decode cX8_warm 104 = .ok (.iload 4, 2) := by decide +kernel
theorem dX8_warm_106 : decode cX8_warm 106 = .ok (.istore 4, 2) := by decide +kernel
theorem dX8_warm_108 : decode cX8_warm 108 = .ok (.iload 6, 2) := by decide +kernel
theorem dX8_warm_110 : decode cX8_warm 110 = .ok (.iload_n 3, 1) := by decide +kernel
theorem dX8_warm_111 : decode cX8_warm 111 = .ok (.if_icmp .ge 8, 3) := by decide +kernel
theorem dX8_warm_114 : decode cX8_warm 114 = .ok (.iload 6, 2) := by decide +kernel
theorem dX8_warm_116 : decode cX8_warm 116 = .ok (.goto 4, 3) := by decide +kernel
theorem dX8_warm_119 : decode cX8_warm 119 = .ok (.iload_n 3, 1) := by decide +kernel
theorem dX8_warm_120 : decode cX8_warm 120 = .ok (.istore_n 3, 1) := by decide +kernel
theorem dX8_warm_121 : decode cX8_warm 121 = .ok (.iinc 5 1, 3) := by decide +kernel
theorem dX8_warm_124 : decode cX8_warm 124 = .ok (.goto (-82), 3) := by decide +kernel
theorem dX8_warm_127 : decode cX8_warm 127 = .ok (.iload_n 2, 1) := by decide +kernel
theorem dX8_warm_128 : decode cX8_warm 128 = .ok (.ifCond .ne 7, 3) := by decide +kernel
theorem dX8_warm_131 : decode cX8_warm 131 = .ok (.iload_n 3, 1) := by decide +kernel
theorem dX8_warm_132 : decode cX8_warm 132 = .ok (.goto 5, 3) := by decide +kernel
theorem dX8_warm_135 : decode cX8_warm 135 = .ok (.iload 4, 2) := by decide +kernel
theorem dX8_warm_137 : decode cX8_warm 137 = .ok (.ireturn, 1) := by decide +kernel
theorem dX8_canHave_0 : decode cX8_canHave 0 = .ok (.aload_n 0, 1) := by decide +kernel
theorem dX8_canHave_1 : decode cX8_canHave 1 = .ok (.iload_n 1, 1) := by decide +kernel
theorem dX8_canHave_2 : decode cX8_canHave 2 = .ok (.invokevirtual 151, 3) := by decide +kernel
theorem dX8_canHave_5 : decode cX8_canHave 5 = .ok (.ifCond .eq 13, 3) := by decide +kernel
theorem dX8_canHave_8 : decode cX8_canHave 8 = .ok (.iload_n 2, 1) := by decide +kernel
theorem dX8_canHave_9 : decode cX8_canHave 9 = .ok (.iconst 0, 1) := by decide +kernel
theorem dX8_canHave_10 : decode cX8_canHave 10 = .ok (.bipush 120, 2) := by decide +kernel
theorem dX8_canHave_12 : decode cX8_canHave 12 = .ok (.invokestatic 76, 3) := by decide +kernel
theorem dX8_canHave_15 : decode cX8_canHave 15 = .ok (.ifCond .ne 5, 3) := by decide +kernel
theorem dX8_canHave_18 : decode cX8_canHave 18 = .ok (.iconst (-1), 1) := by decide +kernel
theorem dX8_canHave_19 : decode cX8_canHave 19 = .ok (.ireturn, 1) := by decide +kernel
theorem dX8_canHave_20 : decode cX8_canHave 20 = .ok (.aload_n 0, 1) := by decide +kernel
theorem dX8_canHave_21 : decode cX8_canHave 21 = .ok (.aload_n 0, 1) := by decide +kernel
theorem dX8_canHave_22 : decode cX8_canHave 22 = .ok (.getfield 16, 3) := by decide +kernel
theorem dX8_canHave_25 : decode cX8_canHave 25 = .ok (.invokevirtual 154, 3) := by decide +kernel
theorem dX8_canHave_28 : decode cX8_canHave 28 = .ok (.aload_n 0, 1) := by decide +kernel
theorem dX8_canHave_29 : decode cX8_canHave 29 = .ok (.iload_n 2, 1) := by decide +kernel
theorem dX8_canHave_30 : decode cX8_canHave 30 = .ok (.iconst 1, 1) := by decide +kernel
theorem dX8_canHave_31 : decode cX8_canHave 31 = .ok (.iadd, 1) := by decide +kernel
theorem dX8_canHave_32 : decode cX8_canHave 32 = .ok (.invokevirtual 164, 3) := by decide +kernel
theorem dX8_canHave_35 : decode cX8_canHave 35 = .ok (.iconst 1, 1) := by decide +kernel
theorem dX8_canHave_36 : decode cX8_canHave 36 = .ok (.aload_n 0, 1) := by decide +kernel
theorem dX8_canHave_37 : decode cX8_canHave 37 = .ok (.iload_n 1, 1) := by decide +kernel
theorem dX8_canHave_38 : decode cX8_canHave 38 = .ok (.invokevirtual 158, 3) := by decide +kernel
theorem dX8_canHave_41 : decode cX8_canHave 41 = .ok (.ishl, 1) := by decide +kernel
theorem dX8_canHave_42 : decode cX8_canHave 42 = .ok (.istore_n 3, 1) := by decide +kernel
theorem dX8_canHave_43 : decode cX8_canHave 43 = .ok (.iconst 0, 1) := by decide +kernel
theorem dX8_canHave_44 : decode cX8_canHave 44 = .ok (.istore 4, 2) := by decide +kernel
theorem dX8_canHave_46 : decode cX8_canHave 46 = .ok (.iload 4, 2) := by decide +kernel
theorem dX8_canHave_48 : decode cX8_canHave 48 = .ok (.bipush 64, 2) := by decide +kernel
theorem dX8_canHave_50 : decode cX8_canHave 50 = .ok (.if_icmp .ge 63, 3) := by decide +kernel
theorem dX8_canHave_53 : decode cX8_canHave 53 = .ok (.iload 4, 2) := by decide +kernel
theorem dX8_canHave_55 : decode cX8_canHave 55 = .ok (.aload_n 0, 1) := by decide +kernel
theorem dX8_canHave_56 : decode cX8_canHave 56 = .ok (.getfield 73, 3) := by decide +kernel
theorem dX8_canHave_59 : decode cX8_canHave 59 = .ok (.invokestatic 186, 3) := by decide +kernel
theorem dX8_canHave_62 : decode cX8_canHave 62 = .ok (.ifCond .eq 45, 3) := by decide +kernel
theorem dX8_canHave_65 : decode cX8_canHave 65 = .ok (.aload_n 0, 1) := by decide +kernel
theorem dX8_canHave_66 : decode cX8_canHave 66 = .ok (.aload_n 0, 1) := by decide +kernel
theorem dX8_canHave_67 : decode cX8_canHave 67 = .ok (.getfield 16, 3) := by decide +kernel
theorem dX8_canHave_70 : decode cX8_canHave 70 = .ok (.invokevirtual 154, 3) := by decide +kernel
theorem dX8_canHave_73 : decode cX8_canHave 73 = .ok (.aload_n 0, 1) := by decide +kernel
theorem dX8_canHave_74 : decode cX8_canHave 74 = .ok (.getfield 46, 3) := by decide +kernel
theorem dX8_canHave_77 : decode cX8_canHave 77 = .ok (.iload 4, 2) := by decide +kernel
theorem dX8_canHave_79 : decode cX8_canHave 79 = .ok (.bipush 8, 2) := by decide +kernel
theorem dX8_canHave_81 : decode cX8_canHave 81 = .ok (.idiv, 1) := by decide +kernel
theorem dX8_canHave_82 : decode cX8_canHave 82 = .ok (.iload 4, 2) := by decide +kernel
theorem dX8_canHave_84 : decode cX8_canHave 84 = .ok (.bipush 8, 2) := by decide +kernel
theorem dX8_canHave_86 : decode cX8_canHave 86 = .ok (.irem, 1) := by decide +kernel
theorem dX8_canHave_87 : decode cX8_canHave 87 = .ok (.invokestatic 133, 3) := by decide +kernel
theorem dX8_canHave_90 : decode cX8_canHave 90 = .ok (.aload_n 0, 1) := by decide +kernel
theorem dX8_canHave_91 : decode cX8_canHave 91 = .ok (.iload_n 2, 1) := by decide +kernel
theorem dX8_canHave_92 : decode cX8_canHave 92 = .ok (.iconst 1, 1) := by decide +kernel
theorem dX8_canHave_93 : decode cX8_canHave 93 = .ok (.iadd, 1) := by decide +kernel
theorem dX8_canHave_94 : decode cX8_canHave 94 = .ok (.invokevirtual 164, 3) := by decide +kernel
theorem dX8_canHave_97 : decode cX8_canHave 97 = .ok (.iload_n 3, 1) := by decide +kernel
theorem dX8_canHave_98 : decode cX8_canHave 98 = .ok (.iconst 1, 1) := by decide +kernel
theorem dX8_canHave_99 : decode cX8_canHave 99 = .ok (.aload_n 0, 1) := by decide +kernel
theorem dX8_canHave_100 : decode cX8_canHave 100 = .ok (.iload_n 1, 1) := by decide +kernel
theorem dX8_canHave_101 : decode cX8_canHave 101 = .ok (.invokevirtual 158, 3) := by decide +kernel
theorem dX8_canHave_104 : decode cX8_canHave 104 = .ok (.ishl, 1) := by decide +kernel
theorem dX8_canHave_105 : decode cX8_canHave 105 = .ok (.ior, 1) := by decide +kernel
theorem dX8_canHave_106 : decode cX8_canHave 106 = .ok (.istore_n 3, 1) := by decide +kernel
theorem dX8_canHave_107 : decode cX8_canHave 107 = .ok (.iinc 4 1, 3) := by decide +kernel
theorem dX8_canHave_110 : decode cX8_canHave 110 = .ok (.goto (-64), 3) := by decide +kernel
theorem dX8_canHave_113 : decode cX8_canHave 113 = .ok (.iload_n 3, 1) := by decide +kernel
theorem dX8_canHave_114 : decode cX8_canHave 114 = .ok (.ireturn, 1) := by decide +kernel
theorem dX8_round_0 : decode cX8_round 0 = .ok (.aload_n 0, 1) := by decide +kernel
theorem dX8_round_1 : decode cX8_round 1 = .ok (.aload_n 0, 1) := by decide +kernel
theorem dX8_round_2 : decode cX8_round 2 = .ok (.getfield 16, 3) := by decide +kernel
theorem dX8_round_5 : decode cX8_round 5 = .ok (.invokevirtual 154, 3) := by decide +kernel
theorem dX8_round_8 : decode cX8_round 8 = .ok (.iconst 1, 1) := by decide +kernel
theorem dX8_round_9 : decode cX8_round 9 = .ok (.istore_n 1, 1) := by decide +kernel
theorem dX8_round_10 : decode cX8_round 10 = .ok (.iload_n 1, 1) := by decide +kernel
theorem dX8_round_11 : decode cX8_round 11 = .ok (.iconst 4, 1) := by decide +kernel
theorem dX8_round_12 : decode cX8_round 12 = .ok (.if_icmp .gt 73, 3) := by decide +kernel
theorem dX8_round_15 : decode cX8_round 15 = .ok (.aload_n 0, 1) := by decide +kernel
theorem dX8_round_16 : decode cX8_round 16 = .ok (.sipush 240, 3) := by decide +kernel
theorem dX8_round_19 : decode cX8_round 19 = .ok (.invokevirtual 164, 3) := by decide +kernel
theorem dX8_round_22 : decode cX8_round 22 = .ok (.iconst 1, 1) := by decide +kernel
theorem dX8_round_23 : decode cX8_round 23 = .ok (.istore_n 2, 1) := by decide +kernel
theorem dX8_round_24 : decode cX8_round 24 = .ok (.iconst 0, 1) := by decide +kernel
theorem dX8_round_25 : decode cX8_round 25 = .ok (.istore_n 3, 1) := by decide +kernel
theorem dX8_round_26 : decode cX8_round 26 = .ok (.iload_n 3, 1) := by decide +kernel
theorem dX8_round_27 : decode cX8_round 27 = .ok (.aload_n 0, 1) := by decide +kernel
theorem dX8_round_28 : decode cX8_round 28 = .ok (.getfield 73, 3) := by decide +kernel
theorem dX8_round_31 : decode cX8_round 31 = .ok (.if_icmp .ge 38, 3) := by decide +kernel
theorem dX8_round_34 : decode cX8_round 34 = .ok (.iload_n 2, 1) := by decide +kernel
theorem dX8_round_35 : decode cX8_round 35 = .ok (.ifCond .eq 26, 3) := by decide +kernel
theorem dX8_round_38 : decode cX8_round 38 = .ok (.aload_n 0, 1) := by decide +kernel
theorem dX8_round_39 : decode cX8_round 39 = .ok (.getfield 46, 3) := by decide +kernel
theorem dX8_round_42 : decode cX8_round 42 = .ok (.iconst 1, 1) := by decide +kernel
theorem dX8_round_43 : decode cX8_round 43 = .ok (.iload_n 3, 1) := by decide +kernel
theorem dX8_round_44 : decode cX8_round 44 = .ok (.iadd, 1) := by decide +kernel
theorem dX8_round_45 : decode cX8_round 45 = .ok (.iaload, 1) := by decide +kernel
theorem dX8_round_46 : decode cX8_round 46 = .ok (.aload_n 0, 1) := by decide +kernel
theorem dX8_round_47 : decode cX8_round 47 = .ok (.getfield 16, 3) := by decide +kernel
theorem dX8_round_50 : decode cX8_round 50 = .ok (.iconst 1, 1) := by decide +kernel
theorem dX8_round_51 : decode cX8_round 51 = .ok (.iload_n 3, 1) := by decide +kernel
theorem dX8_round_52 : decode cX8_round 52 = .ok (.iadd, 1) := by decide +kernel
theorem dX8_round_53 : decode cX8_round 53 = .ok (.iaload, 1) := by decide +kernel
theorem dX8_round_54 : decode cX8_round 54 = .ok (.if_icmp .ne 7, 3) := by decide +kernel
theorem dX8_round_57 : decode cX8_round 57 = .ok (.iconst 1, 1) := by decide +kernel
theorem dX8_round_58 : decode cX8_round 58 = .ok (.goto 4, 3) := by decide +kernel
theorem dX8_round_61 : decode cX8_round 61 = .ok (.iconst 0, 1) := by decide +kernel
theorem dX8_round_62 : decode cX8_round 62 = .ok (.istore_n 2, 1) := by decide +kernel
theorem dX8_round_63 : decode cX8_round 63 = .ok (.iinc 3 1, 3) := by decide +kernel
theorem dX8_round_66 : decode cX8_round 66 = .ok (.goto (-40), 3) := by decide +kernel
theorem dX8_round_69 : decode cX8_round 69 = .ok (.iload_n 2, 1) := by decide +kernel
theorem dX8_round_70 : decode cX8_round 70 = .ok (.ifCond .eq 9, 3) := by decide +kernel
theorem dX8_round_73 : decode cX8_round 73 = .ok (.sipush 240, 3) := by decide +kernel
theorem dX8_round_76 : decode cX8_round 76 = .ok (.iload_n 1, 1) := by decide +kernel
theorem dX8_round_77 : decode cX8_round 77 = .ok (.imul, 1) := by decide +kernel
theorem dX8_round_78 : decode cX8_round 78 = .ok (.ireturn, 1) := by decide +kernel
theorem dX8_round_79 : decode cX8_round 79 = .ok (.iinc 1 1, 3) := by decide +kernel
theorem dX8_round_82 : decode cX8_round 82 = .ok (.goto (-72), 3) := by decide +kernel
theorem dX8_round_85 : decode cX8_round 85 = .ok (.bipush (-4), 2) := by decide +kernel
theorem dX8_round_87 : decode cX8_round 87 = .ok (.ireturn, 1) := by decide +kernel
theorem dX8_wayBy_0 : decode cX8_wayBy 0 = .ok (.iconst 0, 1) := by decide +kernel
theorem dX8_wayBy_1 : decode cX8_wayBy 1 = .ok (.istore 4, 2) := by decide +kernel
theorem dX8_wayBy_3 : decode cX8_wayBy 3 = .ok (.iload_n 1, 1) := by decide +kernel
theorem dX8_wayBy_4 : decode cX8_wayBy 4 = .ok (.iload_n 3, 1) := by decide +kernel
theorem dX8_wayBy_5 : decode cX8_wayBy 5 = .ok (.iadd, 1) := by decide +kernel
theorem dX8_wayBy_6 : decode cX8_wayBy 6 = .ok (.aload_n 0, 1) := by decide +kernel
theorem dX8_wayBy_7 : decode cX8_wayBy 7 = .ok (.getfield 73, 3) := by decide +kernel
theorem dX8_wayBy_10 : decode cX8_wayBy 10 = .ok (.iadd, 1) := by decide +kernel
theorem dX8_wayBy_11 : decode cX8_wayBy 11 = .ok (.aload_n 0, 1) := by decide +kernel
theorem dX8_wayBy_12 : decode cX8_wayBy 12 = .ok (.getfield 73, 3) := by decide +kernel
theorem dX8_wayBy_15 : decode cX8_wayBy 15 = .ok (.irem, 1) := by decide +kernel
theorem dX8_wayBy_16 : decode cX8_wayBy 16 = .ok (.istore 5, 2) := by decide +kernel
theorem dX8_wayBy_18 : decode cX8_wayBy 18 = .ok (.iload 5, 2) := by decide +kernel
theorem dX8_wayBy_20 : decode cX8_wayBy 20 = .ok (.iload_n 2, 1) := by decide +kernel
theorem dX8_wayBy_21 : decode cX8_wayBy 21 = .ok (.if_icmp .eq 42, 3) := by decide +kernel
theorem dX8_wayBy_24 : decode cX8_wayBy 24 = .ok (.iload 4, 2) := by decide +kernel
theorem dX8_wayBy_26 : decode cX8_wayBy 26 = .ok (.aload_n 0, 1) := by decide +kernel
theorem dX8_wayBy_27 : decode cX8_wayBy 27 = .ok (.getfield 7, 3) := by decide +kernel
theorem dX8_wayBy_30 : decode cX8_wayBy 30 = .ok (.iconst 2, 1) := by decide +kernel
theorem dX8_wayBy_31 : decode cX8_wayBy 31 = .ok (.aload_n 0, 1) := by decide +kernel
theorem dX8_wayBy_32 : decode cX8_wayBy 32 = .ok (.iload 5, 2) := by decide +kernel
theorem dX8_wayBy_34 : decode cX8_wayBy 34 = .ok (.invokevirtual 158, 3) := by decide +kernel
theorem dX8_wayBy_37 : decode cX8_wayBy 37 = .ok (.imul, 1) := by decide +kernel
theorem dX8_wayBy_38 : decode cX8_wayBy 38 = .ok (.iconst 1, 1) := by decide +kernel
theorem dX8_wayBy_39 : decode cX8_wayBy 39 = .ok (.iadd, 1) := by decide +kernel
theorem dX8_wayBy_40 : decode cX8_wayBy 40 = .ok (.iaload, 1) := by decide +kernel
theorem dX8_wayBy_41 : decode cX8_wayBy 41 = .ok (.iadd, 1) := by decide +kernel
theorem dX8_wayBy_42 : decode cX8_wayBy 42 = .ok (.istore 4, 2) := by decide +kernel
theorem dX8_wayBy_44 : decode cX8_wayBy 44 = .ok (.iload 5, 2) := by decide +kernel
theorem dX8_wayBy_46 : decode cX8_wayBy 46 = .ok (.iload_n 3, 1) := by decide +kernel
theorem dX8_wayBy_47 : decode cX8_wayBy 47 = .ok (.iadd, 1) := by decide +kernel
theorem dX8_wayBy_48 : decode cX8_wayBy 48 = .ok (.aload_n 0, 1) := by decide +kernel
theorem dX8_wayBy_49 : decode cX8_wayBy 49 = .ok (.getfield 73, 3) := by decide +kernel
theorem dX8_wayBy_52 : decode cX8_wayBy 52 = .ok (.iadd, 1) := by decide +kernel
theorem dX8_wayBy_53 : decode cX8_wayBy 53 = .ok (.aload_n 0, 1) := by decide +kernel
theorem dX8_wayBy_54 : decode cX8_wayBy 54 = .ok (.getfield 73, 3) := by decide +kernel
theorem dX8_wayBy_57 : decode cX8_wayBy 57 = .ok (.irem, 1) := by decide +kernel
theorem dX8_wayBy_58 : decode cX8_wayBy 58 = .ok (.istore 5, 2) := by decide +kernel
theorem dX8_wayBy_60 : decode cX8_wayBy 60 = .ok (.goto (-42), 3) := by decide +kernel
theorem dX8_wayBy_63 : decode cX8_wayBy 63 = .ok (.iload 4, 2) := by decide +kernel
theorem dX8_wayBy_65 : decode cX8_wayBy 65 = .ok (.ireturn, 1) := by decide +kernel
theorem dX8_way_0 : decode cX8_way 0 = .ok (.aload_n 0, 1) := by decide +kernel
theorem dX8_way_1 : decode cX8_way 1 = .ok (.iload_n 1, 1) := by decide +kernel
theorem dX8_way_2 : decode cX8_way 2 = .ok (.invokevirtual 151, 3) := by decide +kernel
theorem dX8_way_5 : decode cX8_way 5 = .ok (.ifCond .eq 20, 3) := by decide +kernel
theorem dX8_way_8 : decode cX8_way 8 = .ok (.aload_n 0, 1) := by decide +kernel
theorem dX8_way_9 : decode cX8_way 9 = .ok (.iload_n 2, 1) := by decide +kernel
theorem dX8_way_10 : decode cX8_way 10 = .ok (.invokevirtual 151, 3) := by decide +kernel
theorem dX8_way_13 : decode cX8_way 13 = .ok (.ifCond .eq 12, 3) := by decide +kernel
theorem dX8_way_16 : decode cX8_way 16 = .ok (.iload_n 3, 1) := by decide +kernel
theorem dX8_way_17 : decode cX8_way 17 = .ok (.iconst 0, 1) := by decide +kernel
theorem dX8_way_18 : decode cX8_way 18 = .ok (.iconst 1, 1) := by decide +kernel
theorem dX8_way_19 : decode cX8_way 19 = .ok (.invokestatic 76, 3) := by decide +kernel
theorem dX8_way_22 : decode cX8_way 22 = .ok (.ifCond .ne 5, 3) := by decide +kernel
theorem dX8_way_25 : decode cX8_way 25 = .ok (.iconst (-1), 1) := by decide +kernel
theorem dX8_way_26 : decode cX8_way 26 = .ok (.ireturn, 1) := by decide +kernel
theorem dX8_way_27 : decode cX8_way 27 = .ok (.aload_n 0, 1) := by decide +kernel
theorem dX8_way_28 : decode cX8_way 28 = .ok (.aload_n 0, 1) := by decide +kernel
theorem dX8_way_29 : decode cX8_way 29 = .ok (.getfield 16, 3) := by decide +kernel
theorem dX8_way_32 : decode cX8_way 32 = .ok (.invokevirtual 154, 3) := by decide +kernel
theorem dX8_way_35 : decode cX8_way 35 = .ok (.aload_n 0, 1) := by decide +kernel
theorem dX8_way_36 : decode cX8_way 36 = .ok (.getfield 16, 3) := by decide +kernel
theorem dX8_way_39 : decode cX8_way 39 = .ok (.iconst 1, 1) := by decide +kernel
theorem dX8_way_40 : decode cX8_way 40 = .ok (.iload_n 1, 1) := by decide +kernel
theorem dX8_way_41 : decode cX8_way 41 = .ok (.iadd, 1) := by decide +kernel
theorem dX8_way_42 : decode cX8_way 42 = .ok (.iaload, 1) := by decide +kernel
theorem dX8_way_43 : decode cX8_way 43 = .ok (.istore 4, 2) := by decide +kernel
theorem dX8_way_45 : decode cX8_way 45 = .ok (.iload 4, 2) := by decide +kernel
theorem dX8_way_47 : decode cX8_way 47 = .ok (.iload_n 2, 1) := by decide +kernel
theorem dX8_way_48 : decode cX8_way 48 = .ok (.if_icmp .ne 7, 3) := by decide +kernel
theorem dX8_way_51 : decode cX8_way 51 = .ok (.iconst 0, 1) := by decide +kernel
theorem dX8_way_52 : decode cX8_way 52 = .ok (.goto 11, 3) := by decide +kernel
theorem dX8_way_55 : decode cX8_way 55 = .ok (.aload_n 0, 1) := by decide +kernel
theorem dX8_way_56 : decode cX8_way 56 = .ok (.iload 4, 2) := by decide +kernel
theorem dX8_way_58 : decode cX8_way 58 = .ok (.iload_n 2, 1) := by decide +kernel
theorem dX8_way_59 : decode cX8_way 59 = .ok (.iconst 1, 1) := by decide +kernel
theorem dX8_way_60 : decode cX8_way 60 = .ok (.invokevirtual 190, 3) := by decide +kernel
theorem dX8_way_63 : decode cX8_way 63 = .ok (.istore 5, 2) := by decide +kernel
theorem dX8_way_65 : decode cX8_way 65 = .ok (.iload 4, 2) := by decide +kernel
theorem dX8_way_67 : decode cX8_way 67 = .ok (.iload_n 2, 1) := by decide +kernel
theorem dX8_way_68 : decode cX8_way 68 = .ok (.if_icmp .ne 7, 3) := by decide +kernel
theorem dX8_way_71 : decode cX8_way 71 = .ok (.iconst 0, 1) := by decide +kernel
theorem dX8_way_72 : decode cX8_way 72 = .ok (.goto 11, 3) := by decide +kernel
theorem dX8_way_75 : decode cX8_way 75 = .ok (.aload_n 0, 1) := by decide +kernel
theorem dX8_way_76 : decode cX8_way 76 = .ok (.iload 4, 2) := by decide +kernel
theorem dX8_way_78 : decode cX8_way 78 = .ok (.iload_n 2, 1) := by decide +kernel
theorem dX8_way_79 : decode cX8_way 79 = .ok (.iconst (-1), 1) := by decide +kernel
theorem dX8_way_80 : decode cX8_way 80 = .ok (.invokevirtual 190, 3) := by decide +kernel
theorem dX8_way_83 : decode cX8_way 83 = .ok (.istore 6, 2) := by decide +kernel
theorem dX8_way_85 : decode cX8_way 85 = .ok (.iload_n 3, 1) := by decide +kernel
theorem dX8_way_86 : decode cX8_way 86 = .ok (.iconst 1, 1) := by decide +kernel
theorem dX8_way_87 : decode cX8_way 87 = .ok (.if_icmp .ne 18, 3) := by decide +kernel
theorem dX8_way_90 : decode cX8_way 90 = .ok (.iload 6, 2) := by decide +kernel
theorem dX8_way_92 : decode cX8_way 92 = .ok (.iload 5, 2) := by decide +kernel
theorem dX8_way_94 : decode cX8_way 94 = .ok (.if_icmp .ge 7, 3) := by decide +kernel
theorem dX8_way_97 : decode cX8_way 97 = .ok (.iconst 1, 1) := by decide +kernel
theorem dX8_way_98 : decode cX8_way 98 = .ok (.goto 21, 3) := by decide +kernel
theorem dX8_way_101 : decode cX8_way 101 = .ok (.iconst 0, 1) := by decide +kernel
theorem dX8_way_102 : decode cX8_way 102 = .ok (.goto 17, 3) := by decide +kernel
theorem dX8_way_105 : decode cX8_way 105 = .ok (.iload 6, 2) := by decide +kernel
theorem dX8_way_107 : decode cX8_way 107 = .ok (.iload 5, 2) := by decide +kernel
theorem dX8_way_109 : decode cX8_way 109 = .ok (.if_icmp .ge 8, 3) := by decide +kernel
theorem dX8_way_112 : decode cX8_way 112 = .ok (.iload 6, 2) := by decide +kernel
theorem dX8_way_114 : decode cX8_way 114 = .ok (.goto 5, 3) := by decide +kernel
theorem dX8_way_117 : decode cX8_way 117 = .ok (.iload 5, 2) := by decide +kernel
theorem dX8_way_119 : decode cX8_way 119 = .ok (.ireturn, 1) := by decide +kernel
theorem dX8_seen_0 : decode cX8_seen 0 = .ok (.aload_n 0, 1) := by decide +kernel
theorem dX8_seen_1 : decode cX8_seen 1 = .ok (.iload_n 1, 1) := by decide +kernel
theorem dX8_seen_2 : decode cX8_seen 2 = .ok (.invokevirtual 151, 3) := by decide +kernel
theorem dX8_seen_5 : decode cX8_seen 5 = .ok (.ifCond .eq 21, 3) := by decide +kernel
theorem dX8_seen_8 : decode cX8_seen 8 = .ok (.aload_n 0, 1) := by decide +kernel
theorem dX8_seen_9 : decode cX8_seen 9 = .ok (.iload_n 2, 1) := by decide +kernel
theorem dX8_seen_10 : decode cX8_seen 10 = .ok (.invokevirtual 151, 3) := by decide +kernel
theorem dX8_seen_13 : decode cX8_seen 13 = .ok (.ifCond .eq 13, 3) := by decide +kernel
theorem dX8_seen_16 : decode cX8_seen 16 = .ok (.iload_n 3, 1) := by decide +kernel
theorem dX8_seen_17 : decode cX8_seen 17 = .ok (.iconst 0, 1) := by decide +kernel
theorem dX8_seen_18 : decode cX8_seen 18 = .ok (.bipush 120, 2) := by decide +kernel
theorem dX8_seen_20 : decode cX8_seen 20 = .ok (.invokestatic 76, 3) := by decide +kernel
theorem dX8_seen_23 : decode cX8_seen 23 = .ok (.ifCond .ne 5, 3) := by decide +kernel
theorem dX8_seen_26 : decode cX8_seen 26 = .ok (.iconst (-1), 1) := by decide +kernel
theorem dX8_seen_27 : decode cX8_seen 27 = .ok (.ireturn, 1) := by decide +kernel
theorem dX8_seen_28 : decode cX8_seen 28 = .ok (.aload_n 0, 1) := by decide +kernel
theorem dX8_seen_29 : decode cX8_seen 29 = .ok (.getfield 124, 3) := by decide +kernel
theorem dX8_seen_32 : decode cX8_seen 32 = .ok (.bipush 8, 2) := by decide +kernel
theorem dX8_seen_34 : decode cX8_seen 34 = .ok (.if_icmp .ne 6, 3) := by decide +kernel
theorem dX8_seen_37 : decode cX8_seen 37 = .ok (.bipush (-3), 2) := by decide +kernel
theorem dX8_seen_39 : decode cX8_seen 39 = .ok (.ireturn, 1) := by decide +kernel
theorem dX8_seen_40 : decode cX8_seen 40 = .ok (.aload_n 0, 1) := by decide +kernel
theorem dX8_seen_41 : decode cX8_seen 41 = .ok (.getfield 28, 3) := by decide +kernel
theorem dX8_seen_44 : decode cX8_seen 44 = .ok (.iconst 3, 1) := by decide +kernel
theorem dX8_seen_45 : decode cX8_seen 45 = .ok (.aload_n 0, 1) := by decide +kernel
theorem dX8_seen_46 : decode cX8_seen 46 = .ok (.getfield 124, 3) := by decide +kernel
theorem dX8_seen_49 : decode cX8_seen 49 = .ok (.imul, 1) := by decide +kernel
theorem dX8_seen_50 : decode cX8_seen 50 = .ok (.iload_n 1, 1) := by decide +kernel
theorem dX8_seen_51 : decode cX8_seen 51 = .ok (.iastore, 1) := by decide +kernel
theorem dX8_seen_52 : decode cX8_seen 52 = .ok (.aload_n 0, 1) := by decide +kernel
theorem dX8_seen_53 : decode cX8_seen 53 = .ok (.getfield 28, 3) := by decide +kernel
theorem dX8_seen_56 : decode cX8_seen 56 = .ok (.iconst 3, 1) := by decide +kernel
theorem dX8_seen_57 : decode cX8_seen 57 = .ok (.aload_n 0, 1) := by decide +kernel
theorem dX8_seen_58 : decode cX8_seen 58 = .ok (.getfield 124, 3) := by decide +kernel
theorem dX8_seen_61 : decode cX8_seen 61 = .ok (.imul, 1) := by decide +kernel
theorem dX8_seen_62 : decode cX8_seen 62 = .ok (.iconst 1, 1) := by decide +kernel
theorem dX8_seen_63 : decode cX8_seen 63 = .ok (.iadd, 1) := by decide +kernel
theorem dX8_seen_64 : decode cX8_seen 64 = .ok (.iload_n 2, 1) := by decide +kernel
theorem dX8_seen_65 : decode cX8_seen 65 = .ok (.iastore, 1) := by decide +kernel
theorem dX8_seen_66 : decode cX8_seen 66 = .ok (.aload_n 0, 1) := by decide +kernel
theorem dX8_seen_67 : decode cX8_seen 67 = .ok (.getfield 28, 3) := by decide +kernel
theorem dX8_seen_70 : decode cX8_seen 70 = .ok (.iconst 3, 1) := by decide +kernel
theorem dX8_seen_71 : decode cX8_seen 71 = .ok (.aload_n 0, 1) := by decide +kernel
theorem dX8_seen_72 : decode cX8_seen 72 = .ok (.getfield 124, 3) := by decide +kernel
theorem dX8_seen_75 : decode cX8_seen 75 = .ok (.imul, 1) := by decide +kernel
theorem dX8_seen_76 : decode cX8_seen 76 = .ok (.iconst 2, 1) := by decide +kernel
theorem dX8_seen_77 : decode cX8_seen 77 = .ok (.iadd, 1) := by decide +kernel
theorem dX8_seen_78 : decode cX8_seen 78 = .ok (.iload_n 3, 1) := by decide +kernel
theorem dX8_seen_79 : decode cX8_seen 79 = .ok (.iastore, 1) := by decide +kernel
theorem dX8_seen_80 : decode cX8_seen 80 = .ok (.aload_n 0, 1) := by decide +kernel
theorem dX8_seen_81 : decode cX8_seen 81 = .ok (.dup, 1) := by decide +kernel
theorem dX8_seen_82 : decode cX8_seen 82 = .ok (.getfield 124, 3) := by decide +kernel
theorem dX8_seen_85 : decode cX8_seen 85 = .ok (.iconst 1, 1) := by decide +kernel
theorem dX8_seen_86 : decode cX8_seen 86 = .ok (.iadd, 1) := by decide +kernel
theorem dX8_seen_87 : decode cX8_seen 87 = .ok (.putfield 124, 3) := by decide +kernel
theorem dX8_seen_90 : decode cX8_seen 90 = .ok (.aload_n 0, 1) := by decide +kernel
theorem dX8_seen_91 : decode cX8_seen 91 = .ok (.getfield 124, 3) := by decide +kernel
theorem dX8_seen_94 : decode cX8_seen 94 = .ok (.ireturn, 1) := by decide +kernel
theorem dX8_forget_0 : decode cX8_forget 0 = .ok (.aload_n 0, 1) := by decide +kernel
theorem dX8_forget_1 : decode cX8_forget 1 = .ok (.getfield 124, 3) := by decide +kernel
theorem dX8_forget_4 : decode cX8_forget 4 = .ok (.istore_n 1, 1) := by decide +kernel
theorem dX8_forget_5 : decode cX8_forget 5 = .ok (.aload_n 0, 1) := by decide +kernel
theorem dX8_forget_6 : decode cX8_forget 6 = .ok (.iconst 0, 1) := by decide +kernel
theorem dX8_forget_7 : decode cX8_forget 7 = .ok (.putfield 124, 3) := by decide +kernel
theorem dX8_forget_10 : decode cX8_forget 10 = .ok (.iload_n 1, 1) := by decide +kernel
theorem dX8_forget_11 : decode cX8_forget 11 = .ok (.ireturn, 1) := by decide +kernel
theorem dX8_register_0 : decode cX8_register 0 = .ok (.aload_n 0, 1) := by decide +kernel
theorem dX8_register_1 : decode cX8_register 1 = .ok (.iload_n 1, 1) := by decide +kernel
theorem dX8_register_2 : decode cX8_register 2 = .ok (.invokevirtual 151, 3) := by decide +kernel
theorem dX8_register_5 : decode cX8_register 5 = .ok (.ifCond .eq 12, 3) := by decide +kernel
theorem dX8_register_8 : decode cX8_register 8 = .ok (.iload_n 2, 1) := by decide +kernel
theorem dX8_register_9 : decode cX8_register 9 = .ok (.iconst 0, 1) := by decide +kernel
theorem dX8_register_10 : decode cX8_register 10 = .ok (.iconst 1, 1) := by decide +kernel
theorem dX8_register_11 : decode cX8_register 11 = .ok (.invokestatic 76, 3) := by decide +kernel
theorem dX8_register_14 : decode cX8_register 14 = .ok (.ifCond .ne 5, 3) := by decide +kernel
theorem dX8_register_17 : decode cX8_register 17 = .ok (.iconst (-1), 1) := by decide +kernel
theorem dX8_register_18 : decode cX8_register 18 = .ok (.ireturn, 1) := by decide +kernel
theorem dX8_register_19 : decode cX8_register 19 = .ok (.iconst 0, 1) := by decide +kernel
theorem dX8_register_20 : decode cX8_register 20 = .ok (.istore_n 3, 1) := by decide +kernel
theorem dX8_register_21 : decode cX8_register 21 = .ok (.bipush (-4), 2) := by decide +kernel
theorem dX8_register_23 : decode cX8_register 23 = .ok (.istore 4, 2) := by decide +kernel
theorem dX8_register_25 : decode cX8_register 25 = .ok (.bipush 59, 2) := by decide +kernel
theorem dX8_register_27 : decode cX8_register 27 = .ok (.istore 5, 2) := by decide +kernel
theorem dX8_register_29 : decode cX8_register 29 = .ok (.iload 5, 2) := by decide +kernel
theorem dX8_register_31 : decode cX8_register 31 = .ok (.ifCond .lt 159, 3) := by decide +kernel
theorem dX8_register_34 : decode cX8_register 34 = .ok (.aload_n 0, 1) := by decide +kernel
theorem dX8_register_35 : decode cX8_register 35 = .ok (.aload_n 0, 1) := by decide +kernel
theorem dX8_register_36 : decode cX8_register 36 = .ok (.getfield 19, 3) := by decide +kernel
theorem dX8_register_39 : decode cX8_register 39 = .ok (.invokevirtual 154, 3) := by decide +kernel
theorem dX8_register_42 : decode cX8_register 42 = .ok (.aload_n 0, 1) := by decide +kernel
theorem dX8_register_43 : decode cX8_register 43 = .ok (.getfield 46, 3) := by decide +kernel
theorem dX8_register_46 : decode cX8_register 46 = .ok (.bipush 9, 2) := by decide +kernel
theorem dX8_register_48 : decode cX8_register 48 = .ok (.iload_n 1, 1) := by decide +kernel
theorem dX8_register_49 : decode cX8_register 49 = .ok (.iadd, 1) := by decide +kernel
theorem dX8_register_50 : decode cX8_register 50 = .ok (.iload 5, 2) := by decide +kernel
theorem dX8_register_52 : decode cX8_register 52 = .ok (.iastore, 1) := by decide +kernel
theorem dX8_register_53 : decode cX8_register 53 = .ok (.aload_n 0, 1) := by decide +kernel
theorem dX8_register_54 : decode cX8_register 54 = .ok (.invokevirtual 127, 3) := by decide +kernel
theorem dX8_register_57 : decode cX8_register 57 = .ok (.iconst 1, 1) := by decide +kernel
theorem dX8_register_58 : decode cX8_register 58 = .ok (.istore 6, 2) := by decide +kernel
theorem dX8_register_60 : decode cX8_register 60 = .ok (.iconst 0, 1) := by decide +kernel
theorem dX8_register_61 : decode cX8_register 61 = .ok (.istore 7, 2) := by decide +kernel
theorem dX8_register_63 : decode cX8_register 63 = .ok (.iload 7, 2) := by decide +kernel
theorem dX8_register_65 : decode cX8_register 65 = .ok (.bipush 120, 2) := by decide +kernel
theorem dX8_register_67 : decode cX8_register 67 = .ok (.if_icmp .gt 90, 3) := by decide +kernel
theorem dX8_register_70 : decode cX8_register 70 = .ok (.aload_n 0, 1) := by decide +kernel
theorem dX8_register_71 : decode cX8_register 71 = .ok (.invokevirtual 145, 3) := by decide +kernel
theorem dX8_register_74 : decode cX8_register 74 = .ok (.pop, 1) := by decide +kernel
theorem dX8_register_75 : decode cX8_register 75 = .ok (.iconst 0, 1) := by decide +kernel
theorem dX8_register_76 : decode cX8_register 76 = .ok (.istore 8, 2) := by decide +kernel
theorem dX8_register_78 : decode cX8_register 78 = .ok (.iload 8, 2) := by decide +kernel
theorem dX8_register_80 : decode cX8_register 80 = .ok (.aload_n 0, 1) := by decide +kernel
theorem dX8_register_81 : decode cX8_register 81 = .ok (.getfield 124, 3) := by decide +kernel
theorem dX8_register_84 : decode cX8_register 84 = .ok (.if_icmp .ge 67, 3) := by decide +kernel
theorem dX8_register_87 : decode cX8_register 87 = .ok (.iload 6, 2) := by decide +kernel
theorem dX8_register_89 : decode cX8_register 89 = .ok (.ifCond .eq 53, 3) := by decide +kernel
theorem dX8_register_92 : decode cX8_register 92 = .ok (.aload_n 0, 1) := by decide +kernel
theorem dX8_register_93 : decode cX8_register 93 = .ok (.getfield 28, 3) := by decide +kernel
theorem dX8_register_96 : decode cX8_register 96 = .ok (.iconst 3, 1) := by decide +kernel
theorem dX8_register_97 : decode cX8_register 97 = .ok (.iload 8, 2) := by decide +kernel
theorem dX8_register_99 : decode cX8_register 99 = .ok (.imul, 1) := by decide +kernel
theorem dX8_register_100 : decode cX8_register 100 = .ok (.iconst 2, 1) := by decide +kernel
theorem dX8_register_101 : decode cX8_register 101 = .ok (.iadd, 1) := by decide +kernel
theorem dX8_register_102 : decode cX8_register 102 = .ok (.iaload, 1) := by decide +kernel
theorem dX8_register_103 : decode cX8_register 103 = .ok (.iload 7, 2) := by decide +kernel
theorem dX8_register_105 : decode cX8_register 105 = .ok (.if_icmp .ne 33, 3) := by decide +kernel
theorem dX8_register_108 : decode cX8_register 108 = .ok (.aload_n 0, 1) := by decide +kernel
theorem dX8_register_109 : decode cX8_register 109 = .ok (.getfield 46, 3) := by decide +kernel
theorem dX8_register_112 : decode cX8_register 112 = .ok (.iconst 1, 1) := by decide +kernel
theorem dX8_register_113 : decode cX8_register 113 = .ok (.aload_n 0, 1) := by decide +kernel
theorem dX8_register_114 : decode cX8_register 114 = .ok (.getfield 28, 3) := by decide +kernel
theorem dX8_register_117 : decode cX8_register 117 = .ok (.iconst 3, 1) := by decide +kernel
theorem dX8_register_118 : decode cX8_register 118 = .ok (.iload 8, 2) := by decide +kernel
theorem dX8_register_120 : decode cX8_register 120 = .ok (.imul, 1) := by decide +kernel
theorem dX8_register_121 : decode cX8_register 121 = .ok (.iaload, 1) := by decide +kernel
theorem dX8_register_122 : decode cX8_register 122 = .ok (.iadd, 1) := by decide +kernel
theorem dX8_register_123 : decode cX8_register 123 = .ok (.iaload, 1) := by decide +kernel
theorem dX8_register_124 : decode cX8_register 124 = .ok (.aload_n 0, 1) := by decide +kernel
theorem dX8_register_125 : decode cX8_register 125 = .ok (.getfield 28, 3) := by decide +kernel
theorem dX8_register_128 : decode cX8_register 128 = .ok (.iconst 3, 1) := by decide +kernel
theorem dX8_register_129 : decode cX8_register 129 = .ok (.iload 8, 2) := by decide +kernel
theorem dX8_register_131 : decode cX8_register 131 = .ok (.imul, 1) := by decide +kernel
theorem dX8_register_132 : decode cX8_register 132 = .ok (.iconst 1, 1) := by decide +kernel
theorem dX8_register_133 : decode cX8_register 133 = .ok (.iadd, 1) := by decide +kernel
theorem dX8_register_134 : decode cX8_register 134 = .ok (.iaload, 1) := by decide +kernel
theorem dX8_register_135 : decode cX8_register 135 = .ok (.if_icmp .ne 7, 3) := by decide +kernel
theorem dX8_register_138 : decode cX8_register 138 = .ok (.iconst 1, 1) := by decide +kernel
theorem dX8_register_139 : decode cX8_register 139 = .ok (.goto 4, 3) := by decide +kernel
theorem dX8_register_142 : decode cX8_register 142 = .ok (.iconst 0, 1) := by decide +kernel
theorem dX8_register_143 : decode cX8_register 143 = .ok (.istore 6, 2) := by decide +kernel
theorem dX8_register_145 : decode cX8_register 145 = .ok (.iinc 8 1, 3) := by decide +kernel
theorem dX8_register_148 : decode cX8_register 148 = .ok (.goto (-70), 3) := by decide +kernel
theorem dX8_register_151 : decode cX8_register 151 = .ok (.iinc 7 1, 3) := by decide +kernel
theorem dX8_register_154 : decode cX8_register 154 = .ok (.goto (-91), 3) := by decide +kernel
theorem dX8_register_157 : decode cX8_register 157 = .ok (.iload_n 3, 1) := by decide +kernel
theorem dX8_register_158 : decode cX8_register 158 = .ok (.iload 6, 2) := by decide +kernel
theorem dX8_register_160 : decode cX8_register 160 = .ok (.ifCond .eq 7, 3) := by decide +kernel
theorem dX8_register_163 : decode cX8_register 163 = .ok (.iconst 1, 1) := by decide +kernel
theorem dX8_register_164 : decode cX8_register 164 = .ok (.goto 4, 3) := by decide +kernel
theorem dX8_register_167 : decode cX8_register 167 = .ok (.iconst 0, 1) := by decide +kernel
theorem dX8_register_168 : decode cX8_register 168 = .ok (.iadd, 1) := by decide +kernel
theorem dX8_register_169 : decode cX8_register 169 = .ok (.istore_n 3, 1) := by decide +kernel
theorem dX8_register_170 : decode cX8_register 170 = .ok (.iload 6, 2) := by decide +kernel
theorem dX8_register_172 : decode cX8_register 172 = .ok (.ifCond .eq 8, 3) := by decide +kernel
theorem dX8_register_175 : decode cX8_register 175 = .ok (.iload 5, 2) := by decide +kernel
theorem dX8_register_177 : decode cX8_register 177 = .ok (.goto 5, 3) := by decide +kernel
theorem dX8_register_180 : decode cX8_register 180 = .ok (.iload 4, 2) := by decide +kernel
theorem dX8_register_182 : decode cX8_register 182 = .ok (.istore 4, 2) := by decide +kernel
theorem dX8_register_184 : decode cX8_register 184 = .ok (.iinc 5 (-1), 3) := by decide +kernel
theorem dX8_register_187 : decode cX8_register 187 = .ok (.goto (-158), 3) := by decide +kernel
theorem dX8_register_190 : decode cX8_register 190 = .ok (.iload_n 2, 1) := by decide +kernel
theorem dX8_register_191 : decode cX8_register 191 = .ok (.ifCond .ne 7, 3) := by decide +kernel
theorem dX8_register_194 : decode cX8_register 194 = .ok (.iload_n 3, 1) := by decide +kernel
theorem dX8_register_195 : decode cX8_register 195 = .ok (.goto 5, 3) := by decide +kernel
theorem dX8_register_198 : decode cX8_register 198 = .ok (.iload 4, 2) := by decide +kernel
theorem dX8_register_200 : decode cX8_register 200 = .ok (.ireturn, 1) := by decide +kernel
theorem dX8_foundling_0 : decode cX8_foundling 0 = .ok (.aload_n 0, 1) := by decide +kernel
theorem dX8_foundling_1 : decode cX8_foundling 1 = .ok (.iload_n 1, 1) := by decide +kernel
theorem dX8_foundling_2 : decode cX8_foundling 2 = .ok (.invokevirtual 151, 3) := by decide +kernel
theorem dX8_foundling_5 : decode cX8_foundling 5 = .ok (.ifCond .eq 31, 3) := by decide +kernel
theorem dX8_foundling_8 : decode cX8_foundling 8 = .ok (.aload_n 0, 1) := by decide +kernel
theorem dX8_foundling_9 : decode cX8_foundling 9 = .ok (.iload_n 2, 1) := by decide +kernel
theorem dX8_foundling_10 : decode cX8_foundling 10 = .ok (.invokevirtual 151, 3) := by decide +kernel
theorem dX8_foundling_13 : decode cX8_foundling 13 = .ok (.ifCond .eq 23, 3) := by decide +kernel
theorem dX8_foundling_16 : decode cX8_foundling 16 = .ok (.iload_n 3, 1) := by decide +kernel
theorem dX8_foundling_17 : decode cX8_foundling 17 = .ok (.iconst 0, 1) := by decide +kernel
theorem dX8_foundling_18 : decode cX8_foundling 18 = .ok (.bipush 120, 2) := by decide +kernel
theorem dX8_foundling_20 : decode cX8_foundling 20 = .ok (.invokestatic 76, 3) := by decide +kernel
theorem dX8_foundling_23 : decode cX8_foundling 23 = .ok (.ifCond .eq 13, 3) := by decide +kernel
theorem dX8_foundling_26 : decode cX8_foundling 26 = .ok (.iload 4, 2) := by decide +kernel
theorem dX8_foundling_28 : decode cX8_foundling 28 = .ok (.iconst 0, 1) := by decide +kernel
theorem dX8_foundling_29 : decode cX8_foundling 29 = .ok (.iconst 1, 1) := by decide +kernel
theorem dX8_foundling_30 : decode cX8_foundling 30 = .ok (.invokestatic 76, 3) := by decide +kernel
theorem dX8_foundling_33 : decode cX8_foundling 33 = .ok (.ifCond .ne 5, 3) := by decide +kernel
theorem dX8_foundling_36 : decode cX8_foundling 36 = .ok (.iconst (-1), 1) := by decide +kernel
theorem dX8_foundling_37 : decode cX8_foundling 37 = .ok (.ireturn, 1) := by decide +kernel
theorem dX8_foundling_38 : decode cX8_foundling 38 = .ok (.iconst 0, 1) := by decide +kernel
theorem dX8_foundling_39 : decode cX8_foundling 39 = .ok (.istore 5, 2) := by decide +kernel
theorem dX8_foundling_41 : decode cX8_foundling 41 = .ok (.iconst 0, 1) := by decide +kernel
theorem dX8_foundling_42 : decode cX8_foundling 42 = .ok (.istore 6, 2) := by decide +kernel
theorem dX8_foundling_44 : decode cX8_foundling 44 = .ok (.iload 6, 2) := by decide +kernel
theorem dX8_foundling_46 : decode cX8_foundling 46 = .ok (.bipush 60, 2) := by decide +kernel
theorem dX8_foundling_48 : decode cX8_foundling 48 = .ok (.if_icmp .ge 61, 3) := by decide +kernel
theorem dX8_foundling_51 : decode cX8_foundling 51 = .ok (.aload_n 0, 1) := by decide +kernel
theorem dX8_foundling_52 : decode cX8_foundling 52 = .ok (.aload_n 0, 1) := by decide +kernel
theorem dX8_foundling_53 : decode cX8_foundling 53 = .ok (.getfield 16, 3) := by decide +kernel
theorem dX8_foundling_56 : decode cX8_foundling 56 = .ok (.invokevirtual 154, 3) := by decide +kernel
theorem dX8_foundling_59 : decode cX8_foundling 59 = .ok (.aload_n 0, 1) := by decide +kernel
theorem dX8_foundling_60 : decode cX8_foundling 60 = .ok (.getfield 46, 3) := by decide +kernel
theorem dX8_foundling_63 : decode cX8_foundling 63 = .ok (.bipush 9, 2) := by decide +kernel
theorem dX8_foundling_65 : decode cX8_foundling 65 = .ok (.iload_n 1, 1) := by decide +kernel
theorem dX8_foundling_66 : decode cX8_foundling 66 = .ok (.iadd, 1) := by decide +kernel
theorem dX8_foundling_67 : decode cX8_foundling 67 = .ok (.iload 6, 2) := by decide +kernel
theorem dX8_foundling_69 : decode cX8_foundling 69 = .ok (.iastore, 1) := by decide +kernel
theorem dX8_foundling_70 : decode cX8_foundling 70 = .ok (.aload_n 0, 1) := by decide +kernel
theorem dX8_foundling_71 : decode cX8_foundling 71 = .ok (.invokevirtual 127, 3) := by decide +kernel
theorem dX8_foundling_74 : decode cX8_foundling 74 = .ok (.aload_n 0, 1) := by decide +kernel
theorem dX8_foundling_75 : decode cX8_foundling 75 = .ok (.iload_n 3, 1) := by decide +kernel
theorem dX8_foundling_76 : decode cX8_foundling 76 = .ok (.iconst 1, 1) := by decide +kernel
theorem dX8_foundling_77 : decode cX8_foundling 77 = .ok (.iadd, 1) := by decide +kernel
theorem dX8_foundling_78 : decode cX8_foundling 78 = .ok (.invokevirtual 164, 3) := by decide +kernel
theorem dX8_foundling_81 : decode cX8_foundling 81 = .ok (.iload 5, 2) := by decide +kernel
theorem dX8_foundling_83 : decode cX8_foundling 83 = .ok (.aload_n 0, 1) := by decide +kernel
theorem dX8_foundling_84 : decode cX8_foundling 84 = .ok (.getfield 46, 3) := by decide +kernel
theorem dX8_foundling_87 : decode cX8_foundling 87 = .ok (.iconst 1, 1) := by decide +kernel
theorem dX8_foundling_88 : decode cX8_foundling 88 = .ok (.iload_n 1, 1) := by decide +kernel
theorem dX8_foundling_89 : decode cX8_foundling 89 = .ok (.iadd, 1) := by decide +kernel
theorem dX8_foundling_90 : decode cX8_foundling 90 = .ok (.iaload, 1) := by decide +kernel
theorem dX8_foundling_91 : decode cX8_foundling 91 = .ok (.iload_n 2, 1) := by decide +kernel
theorem dX8_foundling_92 : decode cX8_foundling 92 = .ok (.if_icmp .ne 7, 3) := by decide +kernel
theorem dX8_foundling_95 : decode cX8_foundling 95 = .ok (.iconst 1, 1) := by decide +kernel
theorem dX8_foundling_96 : decode cX8_foundling 96 = .ok (.goto 4, 3) := by decide +kernel
theorem dX8_foundling_99 : decode cX8_foundling 99 = .ok (.iconst 0, 1) := by decide +kernel
theorem dX8_foundling_100 : decode cX8_foundling 100 = .ok (.iadd, 1) := by decide +kernel
theorem dX8_foundling_101 : decode cX8_foundling 101 = .ok (.istore 5, 2) := by decide +kernel
theorem dX8_foundling_103 : decode cX8_foundling 103 = .ok (.iinc 6 1, 3) := by decide +kernel
theorem dX8_foundling_106 : decode cX8_foundling 106 = .ok (.goto (-62), 3) := by decide +kernel
theorem dX8_foundling_109 : decode cX8_foundling 109 = .ok (.iload 5, 2) := by decide +kernel
theorem dX8_foundling_111 : decode cX8_foundling 111 = .ok (.istore 6, 2) := by decide +kernel
theorem dX8_foundling_113 : decode cX8_foundling 113 = .ok (.bipush 60, 2) := by decide +kernel
theorem dX8_foundling_115 : decode cX8_foundling 115 = .ok (.istore 7, 2) := by decide +kernel
theorem dX8_foundling_117 : decode cX8_foundling 117 = .ok (.iload 7, 2) := by decide +kernel
theorem dX8_foundling_119 : decode cX8_foundling 119 = .ok (.ifCond .le 21, 3) := by decide +kernel
theorem dX8_foundling_122 : decode cX8_foundling 122 = .ok (.iload 6, 2) := by decide +kernel
theorem dX8_foundling_124 : decode cX8_foundling 124 = .ok (.iload 7, 2) := by decide +kernel
theorem dX8_foundling_126 : decode cX8_foundling 126 = .ok (.irem, 1) := by decide +kernel
theorem dX8_foundling_127 : decode cX8_foundling 127 = .ok (.istore 8, 2) := by decide +kernel
theorem dX8_foundling_129 : decode cX8_foundling 129 = .ok (.iload 7, 2) := by decide +kernel
theorem dX8_foundling_131 : decode cX8_foundling 131 = .ok (.istore 6, 2) := by decide +kernel
theorem dX8_foundling_133 : decode cX8_foundling 133 = .ok (.iload 8, 2) := by decide +kernel
theorem dX8_foundling_135 : decode cX8_foundling 135 = .ok (.istore 7, 2) := by decide +kernel
theorem dX8_foundling_137 : decode cX8_foundling 137 = .ok (.goto (-20), 3) := by decide +kernel
theorem dX8_foundling_140 : decode cX8_foundling 140 = .ok (.iload 4, 2) := by decide +kernel
theorem dX8_foundling_142 : decode cX8_foundling 142 = .ok (.ifCond .ne 8, 3) := by decide +kernel
theorem dX8_foundling_145 : decode cX8_foundling 145 = .ok (.iload 5, 2) := by decide +kernel
theorem dX8_foundling_147 : decode cX8_foundling 147 = .ok (.goto 5, 3) := by decide +kernel
theorem dX8_foundling_150 : decode cX8_foundling 150 = .ok (.bipush 60, 2) := by decide +kernel
theorem dX8_foundling_152 : decode cX8_foundling 152 = .ok (.iload 6, 2) := by decide +kernel
theorem dX8_foundling_154 : decode cX8_foundling 154 = .ok (.idiv, 1) := by decide +kernel
theorem dX8_foundling_155 : decode cX8_foundling 155 = .ok (.ireturn, 1) := by decide +kernel
theorem dX8_loses_0 : decode cX8_loses 0 = .ok (.iload_n 1, 1) := by decide +kernel
theorem dX8_loses_1 : decode cX8_loses 1 = .ok (.iconst 0, 1) := by decide +kernel
theorem dX8_loses_2 : decode cX8_loses 2 = .ok (.iconst 1, 1) := by decide +kernel
theorem dX8_loses_3 : decode cX8_loses 3 = .ok (.invokestatic 76, 3) := by decide +kernel
theorem dX8_loses_6 : decode cX8_loses 6 = .ok (.ifCond .ne 5, 3) := by decide +kernel
theorem dX8_loses_9 : decode cX8_loses 9 = .ok (.iconst (-1), 1) := by decide +kernel
theorem dX8_loses_10 : decode cX8_loses 10 = .ok (.ireturn, 1) := by decide +kernel
theorem dX8_loses_11 : decode cX8_loses 11 = .ok (.bipush (-4), 2) := by decide +kernel
theorem dX8_loses_13 : decode cX8_loses 13 = .ok (.istore_n 2, 1) := by decide +kernel
theorem dX8_loses_14 : decode cX8_loses 14 = .ok (.bipush (-4), 2) := by decide +kernel
theorem dX8_loses_16 : decode cX8_loses 16 = .ok (.istore_n 3, 1) := by decide +kernel
theorem dX8_loses_17 : decode cX8_loses 17 = .ok (.iconst 0, 1) := by decide +kernel
theorem dX8_loses_18 : decode cX8_loses 18 = .ok (.istore 4, 2) := by decide +kernel
theorem dX8_loses_20 : decode cX8_loses 20 = .ok (.iload 4, 2) := by decide +kernel
theorem dX8_loses_22 : decode cX8_loses 22 = .ok (.aload_n 0, 1) := by decide +kernel
theorem dX8_loses_23 : decode cX8_loses 23 = .ok (.getfield 73, 3) := by decide +kernel
theorem dX8_loses_26 : decode cX8_loses 26 = .ok (.if_icmp .ge 68, 3) := by decide +kernel
theorem dX8_loses_29 : decode cX8_loses 29 = .ok (.aload_n 0, 1) := by decide +kernel
theorem dX8_loses_30 : decode cX8_loses 30 = .ok (.aload_n 0, 1) := by decide +kernel
theorem dX8_loses_31 : decode cX8_loses 31 = .ok (.getfield 16, 3) := by decide +kernel
theorem dX8_loses_34 : decode cX8_loses 34 = .ok (.invokevirtual 154, 3) := by decide +kernel
theorem dX8_loses_37 : decode cX8_loses 37 = .ok (.aload_n 0, 1) := by decide +kernel
theorem dX8_loses_38 : decode cX8_loses 38 = .ok (.iload 4, 2) := by decide +kernel
theorem dX8_loses_40 : decode cX8_loses 40 = .ok (.bipush 60, 2) := by decide +kernel
theorem dX8_loses_42 : decode cX8_loses 42 = .ok (.invokevirtual 167, 3) := by decide +kernel
theorem dX8_loses_45 : decode cX8_loses 45 = .ok (.istore 5, 2) := by decide +kernel
theorem dX8_loses_47 : decode cX8_loses 47 = .ok (.iload_n 2, 1) := by decide +kernel
theorem dX8_loses_48 : decode cX8_loses 48 = .ok (.ifCond .lt 9, 3) := by decide +kernel
theorem dX8_loses_51 : decode cX8_loses 51 = .ok (.iload 5, 2) := by decide +kernel
theorem dX8_loses_53 : decode cX8_loses 53 = .ok (.iload_n 3, 1) := by decide +kernel
theorem dX8_loses_54 : decode cX8_loses 54 = .ok (.if_icmp .ge 7, 3) := by decide +kernel
theorem dX8_loses_57 : decode cX8_loses 57 = .ok (.iconst 1, 1) := by decide +kernel
theorem dX8_loses_58 : decode cX8_loses 58 = .ok (.goto 4, 3) := by decide +kernel
theorem dX8_loses_61 : decode cX8_loses 61 = .ok (.iconst 0, 1) := by decide +kernel
theorem dX8_loses_62 : decode cX8_loses 62 = .ok (.istore 6, 2) := by decide +kernel
theorem dX8_loses_64 : decode cX8_loses 64 = .ok (.iload 6, 2) := by decide +kernel
theorem dX8_loses_66 : decode cX8_loses 66 = .ok (.ifCond .eq 8, 3) := by decide +kernel
theorem dX8_loses_69 : decode cX8_loses 69 = .ok (.iload 4, 2) := by decide +kernel
theorem dX8_loses_71 : decode cX8_loses 71 = .ok (.goto 4, 3) := by decide +kernel
theorem dX8_loses_74 : decode cX8_loses 74 = .ok (.iload_n 2, 1) := by decide +kernel
theorem dX8_loses_75 : decode cX8_loses 75 = .ok (.istore_n 2, 1) := by decide +kernel
theorem dX8_loses_76 : decode cX8_loses 76 = .ok (.iload 6, 2) := by decide +kernel
theorem dX8_loses_78 : decode cX8_loses 78 = .ok (.ifCond .eq 8, 3) := by decide +kernel
theorem dX8_loses_81 : decode cX8_loses 81 = .ok (.iload 5, 2) := by decide +kernel
theorem dX8_loses_83 : decode cX8_loses 83 = .ok (.goto 4, 3) := by decide +kernel
theorem dX8_loses_86 : decode cX8_loses 86 = .ok (.iload_n 3, 1) := by decide +kernel
theorem dX8_loses_87 : decode cX8_loses 87 = .ok (.istore_n 3, 1) := by decide +kernel
theorem dX8_loses_88 : decode cX8_loses 88 = .ok (.iinc 4 1, 3) := by decide +kernel
theorem dX8_loses_91 : decode cX8_loses 91 = .ok (.goto (-71), 3) := by decide +kernel
theorem dX8_loses_94 : decode cX8_loses 94 = .ok (.iload_n 1, 1) := by decide +kernel
theorem dX8_loses_95 : decode cX8_loses 95 = .ok (.ifCond .ne 7, 3) := by decide +kernel
theorem dX8_loses_98 : decode cX8_loses 98 = .ok (.iload_n 2, 1) := by decide +kernel
theorem dX8_loses_99 : decode cX8_loses 99 = .ok (.goto 4, 3) := by decide +kernel
theorem dX8_loses_102 : decode cX8_loses 102 = .ok (.iload_n 3, 1) := by decide +kernel
theorem dX8_loses_103 : decode cX8_loses 103 = .ok (.ireturn, 1) := by decide +kernel
theorem dX8_next_0 : decode cX8_next 0 = .ok (.iload_n 1, 1) := by decide +kernel
theorem dX8_next_1 : decode cX8_next 1 = .ok (.iconst 0, 1) := by decide +kernel
theorem dX8_next_2 : decode cX8_next 2 = .ok (.iconst 1, 1) := by decide +kernel
theorem dX8_next_3 : decode cX8_next 3 = .ok (.invokestatic 76, 3) := by decide +kernel
theorem dX8_next_6 : decode cX8_next 6 = .ok (.ifCond .ne 5, 3) := by decide +kernel
theorem dX8_next_9 : decode cX8_next 9 = .ok (.iconst (-1), 1) := by decide +kernel
theorem dX8_next_10 : decode cX8_next 10 = .ok (.ireturn, 1) := by decide +kernel
theorem dX8_next_11 : decode cX8_next 11 = .ok (.aload_n 0, 1) := by decide +kernel
theorem dX8_next_12 : decode cX8_next 12 = .ok (.aload_n 0, 1) := by decide +kernel
theorem dX8_next_13 : decode cX8_next 13 = .ok (.getfield 16, 3) := by decide +kernel
theorem dX8_next_16 : decode cX8_next 16 = .ok (.invokevirtual 154, 3) := by decide +kernel
theorem dX8_next_19 : decode cX8_next 19 = .ok (.bipush (-4), 2) := by decide +kernel
theorem dX8_next_21 : decode cX8_next 21 = .ok (.istore_n 2, 1) := by decide +kernel
theorem dX8_next_22 : decode cX8_next 22 = .ok (.bipush (-4), 2) := by decide +kernel
theorem dX8_next_24 : decode cX8_next 24 = .ok (.istore_n 3, 1) := by decide +kernel
theorem dX8_next_25 : decode cX8_next 25 = .ok (.iconst 0, 1) := by decide +kernel
theorem dX8_next_26 : decode cX8_next 26 = .ok (.istore 4, 2) := by decide +kernel
theorem dX8_next_28 : decode cX8_next 28 = .ok (.iload 4, 2) := by decide +kernel
theorem dX8_next_30 : decode cX8_next 30 = .ok (.aload_n 0, 1) := by decide +kernel
theorem dX8_next_31 : decode cX8_next 31 = .ok (.getfield 73, 3) := by decide +kernel
theorem dX8_next_34 : decode cX8_next 34 = .ok (.if_icmp .ge 87, 3) := by decide +kernel
theorem dX8_next_37 : decode cX8_next 37 = .ok (.aload_n 0, 1) := by decide +kernel
theorem dX8_next_38 : decode cX8_next 38 = .ok (.getfield 49, 3) := by decide +kernel
theorem dX8_next_41 : decode cX8_next 41 = .ok (.iload 4, 2) := by decide +kernel
theorem dX8_next_43 : decode cX8_next 43 = .ok (.iaload, 1) := by decide +kernel
theorem dX8_next_44 : decode cX8_next 44 = .ok (.istore 5, 2) := by decide +kernel
theorem dX8_next_46 : decode cX8_next 46 = .ok (.aload_n 0, 1) := by decide +kernel
theorem dX8_next_47 : decode cX8_next 47 = .ok (.getfield 16, 3) := by decide +kernel
theorem dX8_next_50 : decode cX8_next 50 = .ok (.bipush 9, 2) := by decide +kernel
theorem dX8_next_52 : decode cX8_next 52 = .ok (.iload 5, 2) := by decide +kernel
theorem dX8_next_54 : decode cX8_next 54 = .ok (.iadd, 1) := by decide +kernel
theorem dX8_next_55 : decode cX8_next 55 = .ok (.iaload, 1) := by decide +kernel
theorem dX8_next_56 : decode cX8_next 56 = .ok (.bipush 60, 2) := by decide +kernel
theorem dX8_next_58 : decode cX8_next 58 = .ok (.iadd, 1) := by decide +kernel
theorem dX8_next_59 : decode cX8_next 59 = .ok (.aload_n 0, 1) := by decide +kernel
theorem dX8_next_60 : decode cX8_next 60 = .ok (.getfield 16, 3) := by decide +kernel
theorem dX8_next_63 : decode cX8_next 63 = .ok (.iconst 0, 1) := by decide +kernel
theorem dX8_next_64 : decode cX8_next 64 = .ok (.iaload, 1) := by decide +kernel
theorem dX8_next_65 : decode cX8_next 65 = .ok (.bipush 60, 2) := by decide +kernel
theorem dX8_next_67 : decode cX8_next 67 = .ok (.irem, 1) := by decide +kernel
theorem dX8_next_68 : decode cX8_next 68 = .ok (.isub, 1) := by decide +kernel
theorem dX8_next_69 : decode cX8_next 69 = .ok (.bipush 60, 2) := by decide +kernel
theorem dX8_next_71 : decode cX8_next 71 = .ok (.irem, 1) := by decide +kernel
theorem dX8_next_72 : decode cX8_next 72 = .ok (.istore 6, 2) := by decide +kernel
theorem dX8_next_74 : decode cX8_next 74 = .ok (.iload_n 2, 1) := by decide +kernel
theorem dX8_next_75 : decode cX8_next 75 = .ok (.ifCond .lt 9, 3) := by decide +kernel
theorem dX8_next_78 : decode cX8_next 78 = .ok (.iload 6, 2) := by decide +kernel
theorem dX8_next_80 : decode cX8_next 80 = .ok (.iload_n 3, 1) := by decide +kernel
theorem dX8_next_81 : decode cX8_next 81 = .ok (.if_icmp .ge 7, 3) := by decide +kernel
theorem dX8_next_84 : decode cX8_next 84 = .ok (.iconst 1, 1) := by decide +kernel
theorem dX8_next_85 : decode cX8_next 85 = .ok (.goto 4, 3) := by decide +kernel
theorem dX8_next_88 : decode cX8_next 88 = .ok (.iconst 0, 1) := by decide +kernel
theorem dX8_next_89 : decode cX8_next 89 = .ok (.istore 7, 2) := by decide +kernel
theorem dX8_next_91 : decode cX8_next 91 = .ok (.iload 7, 2) := by decide +kernel
theorem dX8_next_93 : decode cX8_next 93 = .ok (.ifCond .eq 8, 3) := by decide +kernel
theorem dX8_next_96 : decode cX8_next 96 = .ok (.iload 5, 2) := by decide +kernel
theorem dX8_next_98 : decode cX8_next 98 = .ok (.goto 4, 3) := by decide +kernel
theorem dX8_next_101 : decode cX8_next 101 = .ok (.iload_n 2, 1) := by decide +kernel
theorem dX8_next_102 : decode cX8_next 102 = .ok (.istore_n 2, 1) := by decide +kernel
theorem dX8_next_103 : decode cX8_next 103 = .ok (.iload 7, 2) := by decide +kernel
theorem dX8_next_105 : decode cX8_next 105 = .ok (.ifCond .eq 8, 3) := by decide +kernel
theorem dX8_next_108 : decode cX8_next 108 = .ok (.iload 6, 2) := by decide +kernel
theorem dX8_next_110 : decode cX8_next 110 = .ok (.goto 4, 3) := by decide +kernel
theorem dX8_next_113 : decode cX8_next 113 = .ok (.iload_n 3, 1) := by decide +kernel
theorem dX8_next_114 : decode cX8_next 114 = .ok (.istore_n 3, 1) := by decide +kernel
theorem dX8_next_115 : decode cX8_next 115 = .ok (.iinc 4 1, 3) := by decide +kernel
theorem dX8_next_118 : decode cX8_next 118 = .ok (.goto (-90), 3) := by decide +kernel
theorem dX8_next_121 : decode cX8_next 121 = .ok (.iload_n 1, 1) := by decide +kernel
theorem dX8_next_122 : decode cX8_next 122 = .ok (.ifCond .ne 7, 3) := by decide +kernel
theorem dX8_next_125 : decode cX8_next 125 = .ok (.iload_n 2, 1) := by decide +kernel
theorem dX8_next_126 : decode cX8_next 126 = .ok (.goto 4, 3) := by decide +kernel
theorem dX8_next_129 : decode cX8_next 129 = .ok (.iload_n 3, 1) := by decide +kernel
theorem dX8_next_130 : decode cX8_next 130 = .ok (.ireturn, 1) := by decide +kernel
theorem dX8_year_0 : decode cX8_year 0 = .ok (.iload_n 1, 1) := by decide +kernel
theorem dX8_year_1 : decode cX8_year 1 = .ok (.iconst 0, 1) := by decide +kernel
theorem dX8_year_2 : decode cX8_year 2 = .ok (.sipush 9999, 3) := by decide +kernel
theorem dX8_year_5 : decode cX8_year 5 = .ok (.invokestatic 76, 3) := by decide +kernel
theorem dX8_year_8 : decode cX8_year 8 = .ok (.ifCond .eq 22, 3) := by decide +kernel
theorem dX8_year_11 : decode cX8_year 11 = .ok (.iload_n 2, 1) := by decide +kernel
theorem dX8_year_12 : decode cX8_year 12 = .ok (.iconst 1, 1) := by decide +kernel
theorem dX8_year_13 : decode cX8_year 13 = .ok (.bipush 120, 2) := by decide +kernel
theorem dX8_year_15 : decode cX8_year 15 = .ok (.invokestatic 76, 3) := by decide +kernel
theorem dX8_year_18 : decode cX8_year 18 = .ok (.ifCond .eq 12, 3) := by decide +kernel
theorem dX8_year_21 : decode cX8_year 21 = .ok (.iload_n 3, 1) := by decide +kernel
theorem dX8_year_22 : decode cX8_year 22 = .ok (.iconst 0, 1) := by decide +kernel
theorem dX8_year_23 : decode cX8_year 23 = .ok (.iconst 1, 1) := by decide +kernel
theorem dX8_year_24 : decode cX8_year 24 = .ok (.invokestatic 76, 3) := by decide +kernel
theorem dX8_year_27 : decode cX8_year 27 = .ok (.ifCond .ne 5, 3) := by decide +kernel
theorem dX8_year_30 : decode cX8_year 30 = .ok (.iconst (-1), 1) := by decide +kernel
theorem dX8_year_31 : decode cX8_year 31 = .ok (.ireturn, 1) := by decide +kernel
theorem dX8_year_32 : decode cX8_year 32 = .ok (.aload_n 0, 1) := by decide +kernel
theorem dX8_year_33 : decode cX8_year 33 = .ok (.aload_n 0, 1) := by decide +kernel
theorem dX8_year_34 : decode cX8_year 34 = .ok (.getfield 16, 3) := by decide +kernel
theorem dX8_year_37 : decode cX8_year 37 = .ok (.invokevirtual 154, 3) := by decide +kernel
theorem dX8_year_40 : decode cX8_year 40 = .ok (.iconst 0, 1) := by decide +kernel
theorem dX8_year_41 : decode cX8_year 41 = .ok (.istore 4, 2) := by decide +kernel
theorem dX8_year_43 : decode cX8_year 43 = .ok (.iconst 0, 1) := by decide +kernel
theorem dX8_year_44 : decode cX8_year 44 = .ok (.istore 5, 2) := by decide +kernel
theorem dX8_year_46 : decode cX8_year 46 = .ok (.iload 5, 2) := by decide +kernel
theorem dX8_year_48 : decode cX8_year 48 = .ok (.iload_n 2, 1) := by decide +kernel
theorem dX8_year_49 : decode cX8_year 49 = .ok (.if_icmp .ge 89, 3) := by decide +kernel
theorem dX8_year_52 : decode cX8_year 52 = .ok (.ldc2_w 194, 3) := by decide +kernel
theorem dX8_year_55 : decode cX8_year 55 = .ok (.iload_n 1, 1) := by decide +kernel
theorem dX8_year_56 : decode cX8_year 56 = .ok (.i2l, 1) := by decide +kernel
theorem dX8_year_57 : decode cX8_year 57 = .ok (.lmul, 1) := by decide +kernel
theorem dX8_year_58 : decode cX8_year 58 = .ok (.ldc2_w 196, 3) := by decide +kernel
theorem dX8_year_61 : decode cX8_year 61 = .ok (.iload 5, 2) := by decide +kernel
theorem dX8_year_63 : decode cX8_year 63 = .ok (.i2l, 1) := by decide +kernel
theorem dX8_year_64 : decode cX8_year 64 = .ok (.lmul, 1) := by decide +kernel
theorem dX8_year_65 : decode cX8_year 65 = .ok (.ladd, 1) := by decide +kernel
theorem dX8_year_66 : decode cX8_year 66 = .ok (.lconst 1, 1) := by decide +kernel
theorem dX8_year_67 : decode cX8_year 67 = .ok (.ladd, 1) := by decide +kernel
theorem dX8_year_68 : decode cX8_year 68 = .ok (.lstore 6, 2) := by decide +kernel
theorem dX8_year_70 : decode cX8_year 70 = .ok (.lload 6, 2) := by decide +kernel
theorem dX8_year_72 : decode cX8_year 72 = .ok (.lload 6, 2) := by decide +kernel
theorem dX8_year_74 : decode cX8_year 74 = .ok (.lmul, 1) := by decide +kernel
theorem dX8_year_75 : decode cX8_year 75 = .ok (.ldc2_w 198, 3) := by decide +kernel
theorem dX8_year_78 : decode cX8_year 78 = .ok (.lrem, 1) := by decide +kernel
theorem dX8_year_79 : decode cX8_year 79 = .ok (.ldc2_w 200, 3) := by decide +kernel
theorem dX8_year_82 : decode cX8_year 82 = .ok (.ldiv, 1) := by decide +kernel
theorem dX8_year_83 : decode cX8_year 83 = .ok (.l2i, 1) := by decide +kernel
theorem dX8_year_84 : decode cX8_year 84 = .ok (.istore 8, 2) := by decide +kernel
theorem dX8_year_86 : decode cX8_year 86 = .ok (.iload 8, 2) := by decide +kernel
theorem dX8_year_88 : decode cX8_year 88 = .ok (.bipush 64, 2) := by decide +kernel
theorem dX8_year_90 : decode cX8_year 90 = .ok (.idiv, 1) := by decide +kernel
theorem dX8_year_91 : decode cX8_year 91 = .ok (.iconst 5, 1) := by decide +kernel
theorem dX8_year_92 : decode cX8_year 92 = .ok (.irem, 1) := by decide +kernel
theorem dX8_year_93 : decode cX8_year 93 = .ok (.ifCond .ne 27, 3) := by decide +kernel
theorem dX8_year_96 : decode cX8_year 96 = .ok (.aload_n 0, 1) := by decide +kernel
theorem dX8_year_97 : decode cX8_year 97 = .ok (.getfield 46, 3) := by decide +kernel
theorem dX8_year_100 : decode cX8_year 100 = .ok (.iload 8, 2) := by decide +kernel
theorem dX8_year_102 : decode cX8_year 102 = .ok (.aload_n 0, 1) := by decide +kernel
theorem dX8_year_103 : decode cX8_year 103 = .ok (.getfield 73, 3) := by decide +kernel
theorem dX8_year_106 : decode cX8_year 106 = .ok (.irem, 1) := by decide +kernel
theorem dX8_year_107 : decode cX8_year 107 = .ok (.iload 8, 2) := by decide +kernel
theorem dX8_year_109 : decode cX8_year 109 = .ok (.bipush 8, 2) := by decide +kernel
theorem dX8_year_111 : decode cX8_year 111 = .ok (.idiv, 1) := by decide +kernel
theorem dX8_year_112 : decode cX8_year 112 = .ok (.aload_n 0, 1) := by decide +kernel
theorem dX8_year_113 : decode cX8_year 113 = .ok (.getfield 73, 3) := by decide +kernel
theorem dX8_year_116 : decode cX8_year 116 = .ok (.irem, 1) := by decide +kernel
theorem dX8_year_117 : decode cX8_year 117 = .ok (.invokestatic 133, 3) := by decide +kernel
theorem dX8_year_120 : decode cX8_year 120 = .ok (.iload 4, 2) := by decide +kernel
theorem dX8_year_122 : decode cX8_year 122 = .ok (.aload_n 0, 1) := by decide +kernel
theorem dX8_year_123 : decode cX8_year 123 = .ok (.invokevirtual 145, 3) := by decide +kernel
theorem dX8_year_126 : decode cX8_year 126 = .ok (.invokestatic 148, 3) := by decide +kernel
theorem dX8_year_129 : decode cX8_year 129 = .ok (.iadd, 1) := by decide +kernel
theorem dX8_year_130 : decode cX8_year 130 = .ok (.istore 4, 2) := by decide +kernel
theorem dX8_year_132 : decode cX8_year 132 = .ok (.iinc 5 1, 3) := by decide +kernel
theorem dX8_year_135 : decode cX8_year 135 = .ok (.goto (-89), 3) := by decide +kernel
theorem dX8_year_138 : decode cX8_year 138 = .ok (.iload_n 3, 1) := by decide +kernel
theorem dX8_year_139 : decode cX8_year 139 = .ok (.ifCond .ne 8, 3) := by decide +kernel
theorem dX8_year_142 : decode cX8_year 142 = .ok (.iload 4, 2) := by decide +kernel
theorem dX8_year_144 : decode cX8_year 144 = .ok (.goto 8, 3) := by decide +kernel
theorem dX8_year_147 : decode cX8_year 147 = .ok (.aload_n 0, 1) := by decide +kernel
theorem dX8_year_148 : decode cX8_year 148 = .ok (.iconst 0, 1) := by decide +kernel
theorem dX8_year_149 : decode cX8_year 149 = .ok (.invokevirtual 158, 3) := by decide +kernel
theorem dX8_year_152 : decode cX8_year 152 = .ok (.ireturn, 1) := by decide +kernel
theorem dX8_keep_0 : decode cX8_keep 0 = .ok (.aload_n 0, 1) := by decide +kernel
theorem dX8_keep_1 : decode cX8_keep 1 = .ok (.getfield 121, 3) := by decide +kernel
theorem dX8_keep_4 : decode cX8_keep 4 = .ok (.iconst 2, 1) := by decide +kernel
theorem dX8_keep_5 : decode cX8_keep 5 = .ok (.if_icmp .ne 6, 3) := by decide +kernel
theorem dX8_keep_8 : decode cX8_keep 8 = .ok (.bipush (-3), 2) := by decide +kernel
theorem dX8_keep_10 : decode cX8_keep 10 = .ok (.ireturn, 1) := by decide +kernel
theorem dX8_keep_11 : decode cX8_keep 11 = .ok (.aload_n 0, 1) := by decide +kernel
theorem dX8_keep_12 : decode cX8_keep 12 = .ok (.getfield 25, 3) := by decide +kernel
theorem dX8_keep_15 : decode cX8_keep 15 = .ok (.bipush 17, 2) := by decide +kernel
theorem dX8_keep_17 : decode cX8_keep 17 = .ok (.aload_n 0, 1) := by decide +kernel
theorem dX8_keep_18 : decode cX8_keep 18 = .ok (.getfield 121, 3) := by decide +kernel
theorem dX8_keep_21 : decode cX8_keep 21 = .ok (.imul, 1) := by decide +kernel
theorem dX8_keep_22 : decode cX8_keep 22 = .ok (.aload_n 0, 1) := by decide +kernel
theorem dX8_keep_23 : decode cX8_keep 23 = .ok (.getfield 16, 3) := by decide +kernel
theorem dX8_keep_26 : decode cX8_keep 26 = .ok (.bipush 17, 2) := by decide +kernel
theorem dX8_keep_28 : decode cX8_keep 28 = .ok (.invokestatic 114, 3) := by decide +kernel
theorem dX8_keep_31 : decode cX8_keep 31 = .ok (.aload_n 0, 1) := by decide +kernel
theorem dX8_keep_32 : decode cX8_keep 32 = .ok (.dup, 1) := by decide +kernel
theorem dX8_keep_33 : decode cX8_keep 33 = .ok (.getfield 121, 3) := by decide +kernel
theorem dX8_keep_36 : decode cX8_keep 36 = .ok (.iconst 1, 1) := by decide +kernel
theorem dX8_keep_37 : decode cX8_keep 37 = .ok (.iadd, 1) := by decide +kernel
theorem dX8_keep_38 : decode cX8_keep 38 = .ok (.putfield 121, 3) := by decide +kernel
theorem dX8_keep_41 : decode cX8_keep 41 = .ok (.aload_n 0, 1) := by decide +kernel
theorem dX8_keep_42 : decode cX8_keep 42 = .ok (.getfield 121, 3) := by decide +kernel
theorem dX8_keep_45 : decode cX8_keep 45 = .ok (.ireturn, 1) := by decide +kernel
theorem dX8_back_0 : decode cX8_back 0 = .ok (.aload_n 0, 1) := by decide +kernel
theorem dX8_back_1 : decode cX8_back 1 = .ok (.getfield 121, 3) := by decide +kernel
theorem dX8_back_4 : decode cX8_back 4 = .ok (.ifCond .ne 6, 3) := by decide +kernel
theorem dX8_back_7 : decode cX8_back 7 = .ok (.bipush (-2), 2) := by decide +kernel
theorem dX8_back_9 : decode cX8_back 9 = .ok (.ireturn, 1) := by decide +kernel
theorem dX8_back_10 : decode cX8_back 10 = .ok (.aload_n 0, 1) := by decide +kernel
theorem dX8_back_11 : decode cX8_back 11 = .ok (.dup, 1) := by decide +kernel
theorem dX8_back_12 : decode cX8_back 12 = .ok (.getfield 121, 3) := by decide +kernel
theorem dX8_back_15 : decode cX8_back 15 = .ok (.iconst 1, 1) := by decide +kernel
theorem dX8_back_16 : decode cX8_back 16 = .ok (.isub, 1) := by decide +kernel
theorem dX8_back_17 : decode cX8_back 17 = .ok (.putfield 121, 3) := by decide +kernel
theorem dX8_back_20 : decode cX8_back 20 = .ok (.iconst 0, 1) := by decide +kernel
theorem dX8_back_21 : decode cX8_back 21 = .ok (.istore_n 1, 1) := by decide +kernel
theorem dX8_back_22 : decode cX8_back 22 = .ok (.iload_n 1, 1) := by decide +kernel
theorem dX8_back_23 : decode cX8_back 23 = .ok (.bipush 17, 2) := by decide +kernel
theorem dX8_back_25 : decode cX8_back 25 = .ok (.if_icmp .ge 29, 3) := by decide +kernel
theorem dX8_back_28 : decode cX8_back 28 = .ok (.aload_n 0, 1) := by decide +kernel
theorem dX8_back_29 : decode cX8_back 29 = .ok (.getfield 16, 3) := by decide +kernel
theorem dX8_back_32 : decode cX8_back 32 = .ok (.iload_n 1, 1) := by decide +kernel
theorem dX8_back_33 : decode cX8_back 33 = .ok (.aload_n 0, 1) := by decide +kernel
theorem dX8_back_34 : decode cX8_back 34 = .ok (.getfield 25, 3) := by decide +kernel
theorem dX8_back_37 : decode cX8_back 37 = .ok (.bipush 17, 2) := by decide +kernel
theorem dX8_back_39 : decode cX8_back 39 = .ok (.aload_n 0, 1) := by decide +kernel
theorem dX8_back_40 : decode cX8_back 40 = .ok (.getfield 121, 3) := by decide +kernel
theorem dX8_back_43 : decode cX8_back 43 = .ok (.imul, 1) := by decide +kernel
theorem dX8_back_44 : decode cX8_back 44 = .ok (.iload_n 1, 1) := by decide +kernel
theorem dX8_back_45 : decode cX8_back 45 = .ok (.iadd, 1) := by decide +kernel
theorem dX8_back_46 : decode cX8_back 46 = .ok (.iaload, 1) := by decide +kernel
theorem dX8_back_47 : decode cX8_back 47 = .ok (.iastore, 1) := by decide +kernel
theorem dX8_back_48 : decode cX8_back 48 = .ok (.iinc 1 1, 3) := by decide +kernel
theorem dX8_back_51 : decode cX8_back 51 = .ok (.goto (-29), 3) := by decide +kernel
theorem dX8_back_54 : decode cX8_back 54 = .ok (.aload_n 0, 1) := by decide +kernel
theorem dX8_back_55 : decode cX8_back 55 = .ok (.iconst 0, 1) := by decide +kernel
theorem dX8_back_56 : decode cX8_back 56 = .ok (.putfield 118, 3) := by decide +kernel
theorem dX8_back_59 : decode cX8_back 59 = .ok (.aload_n 0, 1) := by decide +kernel
theorem dX8_back_60 : decode cX8_back 60 = .ok (.getfield 121, 3) := by decide +kernel
theorem dX8_back_63 : decode cX8_back 63 = .ok (.ireturn, 1) := by decide +kernel
theorem dX8_count_0 : decode cX8_count 0 = .ok (.iload_n 1, 1) := by decide +kernel
theorem dX8_count_1 : decode cX8_count 1 = .ok (.tableswitch 71 0 5 #[39, 44, 51, 56, 61, 66], 39) := by decide +kernel
theorem dX8_count_40 : decode cX8_count 40 = .ok (.aload_n 0, 1) := by decide +kernel
theorem dX8_count_41 : decode cX8_count 41 = .ok (.getfield 73, 3) := by decide +kernel
theorem dX8_count_44 : decode cX8_count 44 = .ok (.ireturn, 1) := by decide +kernel
theorem dX8_count_45 : decode cX8_count 45 = .ok (.aload_n 0, 1) := by decide +kernel
theorem dX8_count_46 : decode cX8_count 46 = .ok (.getfield 16, 3) := by decide +kernel
theorem dX8_count_49 : decode cX8_count 49 = .ok (.iconst 0, 1) := by decide +kernel
theorem dX8_count_50 : decode cX8_count 50 = .ok (.iaload, 1) := by decide +kernel
theorem dX8_count_51 : decode cX8_count 51 = .ok (.ireturn, 1) := by decide +kernel
theorem dX8_count_52 : decode cX8_count 52 = .ok (.aload_n 0, 1) := by decide +kernel
theorem dX8_count_53 : decode cX8_count 53 = .ok (.getfield 124, 3) := by decide +kernel
theorem dX8_count_56 : decode cX8_count 56 = .ok (.ireturn, 1) := by decide +kernel
theorem dX8_count_57 : decode cX8_count 57 = .ok (.aload_n 0, 1) := by decide +kernel
theorem dX8_count_58 : decode cX8_count 58 = .ok (.getfield 118, 3) := by decide +kernel
theorem dX8_count_61 : decode cX8_count 61 = .ok (.ireturn, 1) := by decide +kernel
theorem dX8_count_62 : decode cX8_count 62 = .ok (.aload_n 0, 1) := by decide +kernel
theorem dX8_count_63 : decode cX8_count 63 = .ok (.getfield 121, 3) := by decide +kernel
theorem dX8_count_66 : decode cX8_count 66 = .ok (.ireturn, 1) := by decide +kernel
theorem dX8_count_67 : decode cX8_count 67 = .ok (.aload_n 0, 1) := by decide +kernel
theorem dX8_count_68 : decode cX8_count 68 = .ok (.getfield 80, 3) := by decide +kernel
theorem dX8_count_71 : decode cX8_count 71 = .ok (.ireturn, 1) := by decide +kernel
theorem dX8_count_72 : decode cX8_count 72 = .ok (.iconst (-1), 1) := by decide +kernel
theorem dX8_count_73 : decode cX8_count 73 = .ok (.ireturn, 1) := by decide +kernel
theorem dL_law_0 : decode cL_law 0 = .ok (.new 7, 3) := by decide +kernel
theorem dL_law_3 : decode cL_law 3 = .ok (.dup, 1) := by decide +kernel
theorem dL_law_4 : decode cL_law 4 = .ok (.invokespecial 9, 3) := by decide +kernel
theorem dL_law_7 : decode cL_law 7 = .ok (.astore_n 1, 1) := by decide +kernel
theorem dL_law_8 : decode cL_law 8 = .ok (.new 10, 3) := by decide +kernel
theorem dL_law_11 : decode cL_law 11 = .ok (.dup, 1) := by decide +kernel
theorem dL_law_12 : decode cL_law 12 = .ok (.invokespecial 12, 3) := by decide +kernel
theorem dL_law_15 : decode cL_law 15 = .ok (.astore_n 2, 1) := by decide +kernel
theorem dL_law_16 : decode cL_law 16 = .ok (.iconst 0, 1) := by decide +kernel
theorem dL_law_17 : decode cL_law 17 = .ok (.istore_n 3, 1) := by decide +kernel
theorem dL_law_18 : decode cL_law 18 = .ok (.iload_n 3, 1) := by decide +kernel
theorem dL_law_19 : decode cL_law 19 = .ok (.aload_n 0, 1) := by decide +kernel
theorem dL_law_20 : decode cL_law 20 = .ok (.arraylength, 1) := by decide +kernel
theorem dL_law_21 : decode cL_law 21 = .ok (.iconst 5, 1) := by decide +kernel
theorem dL_law_22 : decode cL_law 22 = .ok (.isub, 1) := by decide +kernel
theorem dL_law_23 : decode cL_law 23 = .ok (.if_icmp .gt 971, 3) := by decide +kernel
theorem dL_law_26 : decode cL_law 26 = .ok (.aload_n 0, 1) := by decide +kernel
theorem dL_law_27 : decode cL_law 27 = .ok (.iload_n 3, 1) := by decide +kernel
theorem dL_law_28 : decode cL_law 28 = .ok (.iaload, 1) := by decide +kernel
theorem dL_law_29 : decode cL_law 29 = .ok (.bipush 31, 2) := by decide +kernel
theorem dL_law_31 : decode cL_law 31 = .ok (.iand, 1) := by decide +kernel
theorem dL_law_32 : decode cL_law 32 = .ok (.tableswitch 956 0 29 #[136, 159, 172, 185, 198, 231, 264, 287, 320, 353, 366, 399, 432, 465, 488, 511, 554, 587, 620, 633, 676, 719, 732, 765, 818, 841, 864, 907, 920, 933], 136) := by decide +kernel
theorem dL_law_168 : decode cL_law 168 = .ok (.aload_n 1, 1) := by decide +kernel
theorem dL_law_169 : decode cL_law 169 = .ok (.aload_n 0, 1) := by decide +kernel
theorem dL_law_170 : decode cL_law 170 = .ok (.iload_n 3, 1) := by decide +kernel
theorem dL_law_171 : decode cL_law 171 = .ok (.iconst 1, 1) := by decide +kernel
theorem dL_law_172 : decode cL_law 172 = .ok (.iadd, 1) := by decide +kernel
theorem dL_law_173 : decode cL_law 173 = .ok (.iaload, 1) := by decide +kernel
theorem dL_law_174 : decode cL_law 174 = .ok (.invokevirtual 13, 3) := by decide +kernel
theorem dL_law_177 : decode cL_law 177 = .ok (.aload_n 2, 1) := by decide +kernel
theorem dL_law_178 : decode cL_law 178 = .ok (.aload_n 0, 1) := by decide +kernel
theorem dL_law_179 : decode cL_law 179 = .ok (.iload_n 3, 1) := by decide +kernel
theorem dL_law_180 : decode cL_law 180 = .ok (.iconst 1, 1) := by decide +kernel
theorem dL_law_181 : decode cL_law 181 = .ok (.iadd, 1) := by decide +kernel
theorem dL_law_182 : decode cL_law 182 = .ok (.iaload, 1) := by decide +kernel
theorem dL_law_183 : decode cL_law 183 = .ok (.invokevirtual 17, 3) := by decide +kernel
theorem dL_law_186 : decode cL_law 186 = .ok (.if_icmp .eq 802, 3) := by decide +kernel
theorem dL_law_189 : decode cL_law 189 = .ok (.iconst 0, 1) := by decide +kernel
theorem dL_law_190 : decode cL_law 190 = .ok (.ireturn, 1) := by decide +kernel
end
section
theorem dL_law_191 : decode cL_law 191 = .ok (.aload_n 1, 1) := by decide +kernel
theorem dL_law_192 : decode cL_law 192 = .ok (.invokevirtual 18, 3) := by decide +kernel
theorem dL_law_195 : decode cL_law 195 = .ok (.aload_n 2, 1) := by decide +kernel
theorem dL_law_196 : decode cL_law 196 = .ok (.invokevirtual 22, 3) := by decide +kernel
theorem dL_law_199 : decode cL_law 199 = .ok (.if_icmp .eq 789, 3) := by decide +kernel
theorem dL_law_202 : decode cL_law 202 = .ok (.iconst 0, 1) := by decide +kernel
theorem dL_law_203 : decode cL_law 203 = .ok (.ireturn, 1) := by decide +kernel
theorem dL_law_204 : decode cL_law 204 = .ok (.aload_n 1, 1) := by decide +kernel
theorem dL_law_205 : decode cL_law 205 = .ok (.invokevirtual 23, 3) := by decide +kernel
theorem dL_law_208 : decode cL_law 208 = .ok (.aload_n 2, 1) := by decide +kernel
theorem dL_law_209 : decode cL_law 209 = .ok (.invokevirtual 26, 3) := by decide +kernel
theorem dL_law_212 : decode cL_law 212 = .ok (.if_icmp .eq 776, 3) := by decide +kernel
theorem dL_law_215 : decode cL_law 215 = .ok (.iconst 0, 1) := by decide +kernel
theorem dL_law_216 : decode cL_law 216 = .ok (.ireturn, 1) := by decide +kernel
theorem dL_law_217 : decode cL_law 217 = .ok (.aload_n 1, 1) := by decide +kernel
theorem dL_law_218 : decode cL_law 218 = .ok (.invokevirtual 27, 3) := by decide +kernel
theorem dL_law_221 : decode cL_law 221 = .ok (.aload_n 2, 1) := by decide +kernel
theorem dL_law_222 : decode cL_law 222 = .ok (.invokevirtual 30, 3) := by decide +kernel
theorem dL_law_225 : decode cL_law 225 = .ok (.if_icmp .eq 763, 3) := by decide +kernel
theorem dL_law_228 : decode cL_law 228 = .ok (.iconst 0, 1) := by decide +kernel
theorem dL_law_229 : decode cL_law 229 = .ok (.ireturn, 1) := by decide +kernel
theorem dL_law_230 : decode cL_law 230 = .ok (.aload_n 1, 1) := by decide +kernel
theorem dL_law_231 : decode cL_law 231 = .ok (.aload_n 0, 1) := by decide +kernel
theorem dL_law_232 : decode cL_law 232 = .ok (.iload_n 3, 1) := by decide +kernel
theorem dL_law_233 : decode cL_law 233 = .ok (.iconst 1, 1) := by decide +kernel
theorem dL_law_234 : decode cL_law 234 = .ok (.iadd, 1) := by decide +kernel
theorem dL_law_235 : decode cL_law 235 = .ok (.iaload, 1) := by decide +kernel
theorem dL_law_236 : decode cL_law 236 = .ok (.aload_n 0, 1) := by decide +kernel
theorem dL_law_237 : decode cL_law 237 = .ok (.iload_n 3, 1) := by decide +kernel
theorem dL_law_238 : decode cL_law 238 = .ok (.iconst 2, 1) := by decide +kernel
theorem dL_law_239 : decode cL_law 239 = .ok (.iadd, 1) := by decide +kernel
theorem dL_law_240 : decode cL_law 240 = .ok (.iaload, 1) := by decide +kernel
theorem dL_law_241 : decode cL_law 241 = .ok (.invokevirtual 31, 3) := by decide +kernel
theorem dL_law_244 : decode cL_law 244 = .ok (.aload_n 2, 1) := by decide +kernel
theorem dL_law_245 : decode cL_law 245 = .ok (.aload_n 0, 1) := by decide +kernel
theorem dL_law_246 : decode cL_law 246 = .ok (.iload_n 3, 1) := by decide +kernel
theorem dL_law_247 : decode cL_law 247 = .ok (.iconst 1, 1) := by decide +kernel
theorem dL_law_248 : decode cL_law 248 = .ok (.iadd, 1) := by decide +kernel
theorem dL_law_249 : decode cL_law 249 = .ok (.iaload, 1) := by decide +kernel
theorem dL_law_250 : decode cL_law 250 = .ok (.aload_n 0, 1) := by decide +kernel
theorem dL_law_251 : decode cL_law 251 = .ok (.iload_n 3, 1) := by decide +kernel
theorem dL_law_252 : decode cL_law 252 = .ok (.iconst 2, 1) := by decide +kernel
theorem dL_law_253 : decode cL_law 253 = .ok (.iadd, 1) := by decide +kernel
theorem dL_law_254 : decode cL_law 254 = .ok (.iaload, 1) := by decide +kernel
theorem dL_law_255 : decode cL_law 255 = .ok (.invokevirtual 35, 3) := by decide +kernel
theorem dL_law_258 : decode cL_law 258 = .ok (.if_icmp .eq 730, 3) := by decide +kernel
theorem dL_law_261 : decode cL_law 261 = .ok (.iconst 0, 1) := by decide +kernel
theorem dL_law_262 : decode cL_law 262 = .ok (.ireturn, 1) := by decide +kernel
theorem dL_law_263 : decode cL_law 263 = .ok (.aload_n 1, 1) := by decide +kernel
theorem dL_law_264 : decode cL_law 264 = .ok (.aload_n 0, 1) := by decide +kernel
theorem dL_law_265 : decode cL_law 265 = .ok (.iload_n 3, 1) := by decide +kernel
theorem dL_law_266 : decode cL_law 266 = .ok (.iconst 1, 1) := by decide +kernel
theorem dL_law_267 : decode cL_law 267 = .ok (.iadd, 1) := by decide +kernel
theorem dL_law_268 : decode cL_law 268 = .ok (.iaload, 1) := by decide +kernel
theorem dL_law_269 : decode cL_law 269 = .ok (.aload_n 0, 1) := by decide +kernel
theorem dL_law_270 : decode cL_law 270 = .ok (.iload_n 3, 1) := by decide +kernel
theorem dL_law_271 : decode cL_law 271 = .ok (.iconst 2, 1) := by decide +kernel
theorem dL_law_272 : decode cL_law 272 = .ok (.iadd, 1) := by decide +kernel
theorem dL_law_273 : decode cL_law 273 = .ok (.iaload, 1) := by decide +kernel
theorem dL_law_274 : decode cL_law 274 = .ok (.invokevirtual 36, 3) := by decide +kernel
theorem dL_law_277 : decode cL_law 277 = .ok (.aload_n 2, 1) := by decide +kernel
theorem dL_law_278 : decode cL_law 278 = .ok (.aload_n 0, 1) := by decide +kernel
theorem dL_law_279 : decode cL_law 279 = .ok (.iload_n 3, 1) := by decide +kernel
theorem dL_law_280 : decode cL_law 280 = .ok (.iconst 1, 1) := by decide +kernel
theorem dL_law_281 : decode cL_law 281 = .ok (.iadd, 1) := by decide +kernel
theorem dL_law_282 : decode cL_law 282 = .ok (.iaload, 1) := by decide +kernel
theorem dL_law_283 : decode cL_law 283 = .ok (.aload_n 0, 1) := by decide +kernel
theorem dL_law_284 : decode cL_law 284 = .ok (.iload_n 3, 1) := by decide +kernel
theorem dL_law_285 : decode cL_law 285 = .ok (.iconst 2, 1) := by decide +kernel
theorem dL_law_286 : decode cL_law 286 = .ok (.iadd, 1) := by decide +kernel
theorem dL_law_287 : decode cL_law 287 = .ok (.iaload, 1) := by decide +kernel
theorem dL_law_288 : decode cL_law 288 = .ok (.invokevirtual 39, 3) := by decide +kernel
theorem dL_law_291 : decode cL_law 291 = .ok (.if_icmp .eq 697, 3) := by decide +kernel
theorem dL_law_294 : decode cL_law 294 = .ok (.iconst 0, 1) := by decide +kernel
theorem dL_law_295 : decode cL_law 295 = .ok (.ireturn, 1) := by decide +kernel
theorem dL_law_296 : decode cL_law 296 = .ok (.aload_n 1, 1) := by decide +kernel
theorem dL_law_297 : decode cL_law 297 = .ok (.aload_n 0, 1) := by decide +kernel
theorem dL_law_298 : decode cL_law 298 = .ok (.iload_n 3, 1) := by decide +kernel
theorem dL_law_299 : decode cL_law 299 = .ok (.iconst 1, 1) := by decide +kernel
theorem dL_law_300 : decode cL_law 300 = .ok (.iadd, 1) := by decide +kernel
theorem dL_law_301 : decode cL_law 301 = .ok (.iaload, 1) := by decide +kernel
theorem dL_law_302 : decode cL_law 302 = .ok (.invokevirtual 40, 3) := by decide +kernel
theorem dL_law_305 : decode cL_law 305 = .ok (.aload_n 2, 1) := by decide +kernel
theorem dL_law_306 : decode cL_law 306 = .ok (.aload_n 0, 1) := by decide +kernel
theorem dL_law_307 : decode cL_law 307 = .ok (.iload_n 3, 1) := by decide +kernel
theorem dL_law_308 : decode cL_law 308 = .ok (.iconst 1, 1) := by decide +kernel
theorem dL_law_309 : decode cL_law 309 = .ok (.iadd, 1) := by decide +kernel
theorem dL_law_310 : decode cL_law 310 = .ok (.iaload, 1) := by decide +kernel
theorem dL_law_311 : decode cL_law 311 = .ok (.invokevirtual 43, 3) := by decide +kernel
theorem dL_law_314 : decode cL_law 314 = .ok (.if_icmp .eq 674, 3) := by decide +kernel
theorem dL_law_317 : decode cL_law 317 = .ok (.iconst 0, 1) := by decide +kernel
theorem dL_law_318 : decode cL_law 318 = .ok (.ireturn, 1) := by decide +kernel
theorem dL_law_319 : decode cL_law 319 = .ok (.aload_n 1, 1) := by decide +kernel
theorem dL_law_320 : decode cL_law 320 = .ok (.aload_n 0, 1) := by decide +kernel
theorem dL_law_321 : decode cL_law 321 = .ok (.iload_n 3, 1) := by decide +kernel
theorem dL_law_322 : decode cL_law 322 = .ok (.iconst 1, 1) := by decide +kernel
theorem dL_law_323 : decode cL_law 323 = .ok (.iadd, 1) := by decide +kernel
theorem dL_law_324 : decode cL_law 324 = .ok (.iaload, 1) := by decide +kernel
theorem dL_law_325 : decode cL_law 325 = .ok (.aload_n 0, 1) := by decide +kernel
theorem dL_law_326 : decode cL_law 326 = .ok (.iload_n 3, 1) := by decide +kernel
theorem dL_law_327 : decode cL_law 327 = .ok (.iconst 2, 1) := by decide +kernel
theorem dL_law_328 : decode cL_law 328 = .ok (.iadd, 1) := by decide +kernel
theorem dL_law_329 : decode cL_law 329 = .ok (.iaload, 1) := by decide +kernel
theorem dL_law_330 : decode cL_law 330 = .ok (.invokevirtual 44, 3) := by decide +kernel
theorem dL_law_333 : decode cL_law 333 = .ok (.aload_n 2, 1) := by decide +kernel
theorem dL_law_334 : decode cL_law 334 = .ok (.aload_n 0, 1) := by decide +kernel
theorem dL_law_335 : decode cL_law 335 = .ok (.iload_n 3, 1) := by decide +kernel
theorem dL_law_336 : decode cL_law 336 = .ok (.iconst 1, 1) := by decide +kernel
theorem dL_law_337 : decode cL_law 337 = .ok (.iadd, 1) := by decide +kernel
theorem dL_law_338 : decode cL_law 338 = .ok (.iaload, 1) := by decide +kernel
theorem dL_law_339 : decode cL_law 339 = .ok (.aload_n 0, 1) := by decide +kernel
theorem dL_law_340 : decode cL_law 340 = .ok (.iload_n 3, 1) := by decide +kernel
theorem dL_law_341 : decode cL_law 341 = .ok (.iconst 2, 1) := by decide +kernel
theorem dL_law_342 : decode cL_law 342 = .ok (.iadd, 1) := by decide +kernel
theorem dL_law_343 : decode cL_law 343 = .ok (.iaload, 1) := by decide +kernel
theorem dL_law_344 : decode cL_law 344 = .ok (.invokevirtual 47, 3) := by decide +kernel
theorem dL_law_347 : decode cL_law 347 = .ok (.if_icmp .eq 641, 3) := by decide +kernel
theorem dL_law_350 : decode cL_law 350 = .ok (.iconst 0, 1) := by decide +kernel
theorem dL_law_351 : decode cL_law 351 = .ok (.ireturn, 1) := by decide +kernel
theorem dL_law_352 : decode cL_law 352 = .ok (.aload_n 1, 1) := by decide +kernel
theorem dL_law_353 : decode cL_law 353 = .ok (.aload_n 0, 1) := by decide +kernel
theorem dL_law_354 : decode cL_law 354 = .ok (.iload_n 3, 1) := by decide +kernel
theorem dL_law_355 : decode cL_law 355 = .ok (.iconst 1, 1) := by decide +kernel
theorem dL_law_356 : decode cL_law 356 = .ok (.iadd, 1) := by decide +kernel
theorem dL_law_357 : decode cL_law 357 = .ok (.iaload, 1) := by decide +kernel
theorem dL_law_358 : decode cL_law 358 = .ok (.aload_n 0, 1) := by decide +kernel
theorem dL_law_359 : decode cL_law 359 = .ok (.iload_n 3, 1) := by decide +kernel
theorem dL_law_360 : decode cL_law 360 = .ok (.iconst 2, 1) := by decide +kernel
theorem dL_law_361 : decode cL_law 361 = .ok (.iadd, 1) := by decide +kernel
theorem dL_law_362 : decode cL_law 362 = .ok (.iaload, 1) := by decide +kernel
theorem dL_law_363 : decode cL_law 363 = .ok (.invokevirtual 48, 3) := by decide +kernel
theorem dL_law_366 : decode cL_law 366 = .ok (.aload_n 2, 1) := by decide +kernel
theorem dL_law_367 : decode cL_law 367 = .ok (.aload_n 0, 1) := by decide +kernel
theorem dL_law_368 : decode cL_law 368 = .ok (.iload_n 3, 1) := by decide +kernel
theorem dL_law_369 : decode cL_law 369 = .ok (.iconst 1, 1) := by decide +kernel
theorem dL_law_370 : decode cL_law 370 = .ok (.iadd, 1) := by decide +kernel
theorem dL_law_371 : decode cL_law 371 = .ok (.iaload, 1) := by decide +kernel
theorem dL_law_372 : decode cL_law 372 = .ok (.aload_n 0, 1) := by decide +kernel
theorem dL_law_373 : decode cL_law 373 = .ok (.iload_n 3, 1) := by decide +kernel
theorem dL_law_374 : decode cL_law 374 = .ok (.iconst 2, 1) := by decide +kernel
theorem dL_law_375 : decode cL_law 375 = .ok (.iadd, 1) := by decide +kernel
theorem dL_law_376 : decode cL_law 376 = .ok (.iaload, 1) := by decide +kernel
theorem dL_law_377 : decode cL_law 377 = .ok (.invokevirtual 51, 3) := by decide +kernel
theorem dL_law_380 : decode cL_law 380 = .ok (.if_icmp .eq 608, 3) := by decide +kernel
theorem dL_law_383 : decode cL_law 383 = .ok (.iconst 0, 1) := by decide +kernel
theorem dL_law_384 : decode cL_law 384 = .ok (.ireturn, 1) := by decide +kernel
theorem dL_law_385 : decode cL_law 385 = .ok (.aload_n 1, 1) := by decide +kernel
theorem dL_law_386 : decode cL_law 386 = .ok (.invokevirtual 52, 3) := by decide +kernel
theorem dL_law_389 : decode cL_law 389 = .ok (.aload_n 2, 1) := by decide +kernel
theorem dL_law_390 : decode cL_law 390 = .ok (.invokevirtual 55, 3) := by decide +kernel
theorem dL_law_393 : decode cL_law 393 = .ok (.if_icmp .eq 595, 3) := by decide +kernel
theorem dL_law_396 : decode cL_law 396 = .ok (.iconst 0, 1) := by decide +kernel
theorem dL_law_397 : decode cL_law 397 = .ok (.ireturn, 1) := by decide +kernel
theorem dL_law_398 : decode cL_law 398 = .ok (.aload_n 1, 1) := by decide +kernel
theorem dL_law_399 : decode cL_law 399 = .ok (.aload_n 0, 1) := by decide +kernel
theorem dL_law_400 : decode cL_law 400 = .ok (.iload_n 3, 1) := by decide +kernel
theorem dL_law_401 : decode cL_law 401 = .ok (.iconst 1, 1) := by decide +kernel
theorem dL_law_402 : decode cL_law 402 = .ok (.iadd, 1) := by decide +kernel
theorem dL_law_403 : decode cL_law 403 = .ok (.iaload, 1) := by decide +kernel
theorem dL_law_404 : decode cL_law 404 = .ok (.aload_n 0, 1) := by decide +kernel
theorem dL_law_405 : decode cL_law 405 = .ok (.iload_n 3, 1) := by decide +kernel
theorem dL_law_406 : decode cL_law 406 = .ok (.iconst 2, 1) := by decide +kernel
theorem dL_law_407 : decode cL_law 407 = .ok (.iadd, 1) := by decide +kernel
theorem dL_law_408 : decode cL_law 408 = .ok (.iaload, 1) := by decide +kernel
theorem dL_law_409 : decode cL_law 409 = .ok (.invokevirtual 56, 3) := by decide +kernel
theorem dL_law_412 : decode cL_law 412 = .ok (.aload_n 2, 1) := by decide +kernel
theorem dL_law_413 : decode cL_law 413 = .ok (.aload_n 0, 1) := by decide +kernel
theorem dL_law_414 : decode cL_law 414 = .ok (.iload_n 3, 1) := by decide +kernel
theorem dL_law_415 : decode cL_law 415 = .ok (.iconst 1, 1) := by decide +kernel
theorem dL_law_416 : decode cL_law 416 = .ok (.iadd, 1) := by decide +kernel
theorem dL_law_417 : decode cL_law 417 = .ok (.iaload, 1) := by decide +kernel
theorem dL_law_418 : decode cL_law 418 = .ok (.aload_n 0, 1) := by decide +kernel
theorem dL_law_419 : decode cL_law 419 = .ok (.iload_n 3, 1) := by decide +kernel
theorem dL_law_420 : decode cL_law 420 = .ok (.iconst 2, 1) := by decide +kernel
theorem dL_law_421 : decode cL_law 421 = .ok (.iadd, 1) := by decide +kernel
theorem dL_law_422 : decode cL_law 422 = .ok (.iaload, 1) := by decide +kernel
theorem dL_law_423 : decode cL_law 423 = .ok (.invokevirtual 59, 3) := by decide +kernel
theorem dL_law_426 : decode cL_law 426 = .ok (.if_icmp .eq 562, 3) := by decide +kernel
theorem dL_law_429 : decode cL_law 429 = .ok (.iconst 0, 1) := by decide +kernel
theorem dL_law_430 : decode cL_law 430 = .ok (.ireturn, 1) := by decide +kernel
theorem dL_law_431 : decode cL_law 431 = .ok (.aload_n 1, 1) := by decide +kernel
theorem dL_law_432 : decode cL_law 432 = .ok (.aload_n 0, 1) := by decide +kernel
theorem dL_law_433 : decode cL_law 433 = .ok (.iload_n 3, 1) := by decide +kernel
theorem dL_law_434 : decode cL_law 434 = .ok (.iconst 1, 1) := by decide +kernel
theorem dL_law_435 : decode cL_law 435 = .ok (.iadd, 1) := by decide +kernel
theorem dL_law_436 : decode cL_law 436 = .ok (.iaload, 1) := by decide +kernel
theorem dL_law_437 : decode cL_law 437 = .ok (.aload_n 0, 1) := by decide +kernel
theorem dL_law_438 : decode cL_law 438 = .ok (.iload_n 3, 1) := by decide +kernel
theorem dL_law_439 : decode cL_law 439 = .ok (.iconst 2, 1) := by decide +kernel
theorem dL_law_440 : decode cL_law 440 = .ok (.iadd, 1) := by decide +kernel
theorem dL_law_441 : decode cL_law 441 = .ok (.iaload, 1) := by decide +kernel
theorem dL_law_442 : decode cL_law 442 = .ok (.invokevirtual 60, 3) := by decide +kernel
theorem dL_law_445 : decode cL_law 445 = .ok (.aload_n 2, 1) := by decide +kernel
theorem dL_law_446 : decode cL_law 446 = .ok (.aload_n 0, 1) := by decide +kernel
theorem dL_law_447 : decode cL_law 447 = .ok (.iload_n 3, 1) := by decide +kernel
theorem dL_law_448 : decode cL_law 448 = .ok (.iconst 1, 1) := by decide +kernel
theorem dL_law_449 : decode cL_law 449 = .ok (.iadd, 1) := by decide +kernel
theorem dL_law_450 : decode cL_law 450 = .ok (.iaload, 1) := by decide +kernel
theorem dL_law_451 : decode cL_law 451 = .ok (.aload_n 0, 1) := by decide +kernel
theorem dL_law_452 : decode cL_law 452 = .ok (.iload_n 3, 1) := by decide +kernel
theorem dL_law_453 : decode cL_law 453 = .ok (.iconst 2, 1) := by decide +kernel
theorem dL_law_454 : decode cL_law 454 = .ok (.iadd, 1) := by decide +kernel
theorem dL_law_455 : decode cL_law 455 = .ok (.iaload, 1) := by decide +kernel
theorem dL_law_456 : decode cL_law 456 = .ok (.invokevirtual 63, 3) := by decide +kernel
theorem dL_law_459 : decode cL_law 459 = .ok (.if_icmp .eq 529, 3) := by decide +kernel
theorem dL_law_462 : decode cL_law 462 = .ok (.iconst 0, 1) := by decide +kernel
theorem dL_law_463 : decode cL_law 463 = .ok (.ireturn, 1) := by decide +kernel
theorem dL_law_464 : decode cL_law 464 = .ok (.aload_n 1, 1) := by decide +kernel
theorem dL_law_465 : decode cL_law 465 = .ok (.aload_n 0, 1) := by decide +kernel
theorem dL_law_466 : decode cL_law 466 = .ok (.iload_n 3, 1) := by decide +kernel
theorem dL_law_467 : decode cL_law 467 = .ok (.iconst 1, 1) := by decide +kernel
theorem dL_law_468 : decode cL_law 468 = .ok (.iadd, 1) := by decide +kernel
theorem dL_law_469 : decode cL_law 469 = .ok (.iaload, 1) := by decide +kernel
theorem dL_law_470 : decode cL_law 470 = .ok (.aload_n 0, 1) := by decide +kernel
theorem dL_law_471 : decode cL_law 471 = .ok (.iload_n 3, 1) := by decide +kernel
theorem dL_law_472 : decode cL_law 472 = .ok (.iconst 2, 1) := by decide +kernel
theorem dL_law_473 : decode cL_law 473 = .ok (.iadd, 1) := by decide +kernel
theorem dL_law_474 : decode cL_law 474 = .ok (.iaload, 1) := by decide +kernel
theorem dL_law_475 : decode cL_law 475 = .ok (.invokevirtual 64, 3) := by decide +kernel
theorem dL_law_478 : decode cL_law 478 = .ok (.aload_n 2, 1) := by decide +kernel
theorem dL_law_479 : decode cL_law 479 = .ok (.aload_n 0, 1) := by decide +kernel
theorem dL_law_480 : decode cL_law 480 = .ok (.iload_n 3, 1) := by decide +kernel
theorem dL_law_481 : decode cL_law 481 = .ok (.iconst 1, 1) := by decide +kernel
theorem dL_law_482 : decode cL_law 482 = .ok (.iadd, 1) := by decide +kernel
theorem dL_law_483 : decode cL_law 483 = .ok (.iaload, 1) := by decide +kernel
theorem dL_law_484 : decode cL_law 484 = .ok (.aload_n 0, 1) := by decide +kernel
theorem dL_law_485 : decode cL_law 485 = .ok (.iload_n 3, 1) := by decide +kernel
theorem dL_law_486 : decode cL_law 486 = .ok (.iconst 2, 1) := by decide +kernel
theorem dL_law_487 : decode cL_law 487 = .ok (.iadd, 1) := by decide +kernel
theorem dL_law_488 : decode cL_law 488 = .ok (.iaload, 1) := by decide +kernel
theorem dL_law_489 : decode cL_law 489 = .ok (.invokevirtual 67, 3) := by decide +kernel
theorem dL_law_492 : decode cL_law 492 = .ok (.if_icmp .eq 496, 3) := by decide +kernel
theorem dL_law_495 : decode cL_law 495 = .ok (.iconst 0, 1) := by decide +kernel
theorem dL_law_496 : decode cL_law 496 = .ok (.ireturn, 1) := by decide +kernel
theorem dL_law_497 : decode cL_law 497 = .ok (.aload_n 1, 1) := by decide +kernel
theorem dL_law_498 : decode cL_law 498 = .ok (.aload_n 0, 1) := by decide +kernel
theorem dL_law_499 : decode cL_law 499 = .ok (.iload_n 3, 1) := by decide +kernel
theorem dL_law_500 : decode cL_law 500 = .ok (.iconst 1, 1) := by decide +kernel
theorem dL_law_501 : decode cL_law 501 = .ok (.iadd, 1) := by decide +kernel
theorem dL_law_502 : decode cL_law 502 = .ok (.iaload, 1) := by decide +kernel
theorem dL_law_503 : decode cL_law 503 = .ok (.invokevirtual 68, 3) := by decide +kernel
theorem dL_law_506 : decode cL_law 506 = .ok (.aload_n 2, 1) := by decide +kernel
theorem dL_law_507 : decode cL_law 507 = .ok (.aload_n 0, 1) := by decide +kernel
theorem dL_law_508 : decode cL_law 508 = .ok (.iload_n 3, 1) := by decide +kernel
theorem dL_law_509 : decode cL_law 509 = .ok (.iconst 1, 1) := by decide +kernel
theorem dL_law_510 : decode cL_law 510 = .ok (.iadd, 1) := by decide +kernel
theorem dL_law_511 : decode cL_law 511 = .ok (.iaload, 1) := by decide +kernel
theorem dL_law_512 : decode cL_law 512 = .ok (.invokevirtual 71, 3) := by decide +kernel
theorem dL_law_515 : decode cL_law 515 = .ok (.if_icmp .eq 473, 3) := by decide +kernel
theorem dL_law_518 : decode cL_law 518 = .ok (.iconst 0, 1) := by decide +kernel
theorem dL_law_519 : decode cL_law 519 = .ok (.ireturn, 1) := by decide +kernel
theorem dL_law_520 : decode cL_law 520 = .ok (.aload_n 1, 1) := by decide +kernel
theorem dL_law_521 : decode cL_law 521 = .ok (.aload_n 0, 1) := by decide +kernel
theorem dL_law_522 : decode cL_law 522 = .ok (.iload_n 3, 1) := by decide +kernel
theorem dL_law_523 : decode cL_law 523 = .ok (.iconst 1, 1) := by decide +kernel
theorem dL_law_524 : decode cL_law 524 = .ok (.iadd, 1) := by decide +kernel
theorem dL_law_525 : decode cL_law 525 = .ok (.iaload, 1) := by decide +kernel
theorem dL_law_526 : decode cL_law 526 = .ok (.invokevirtual 72, 3) := by decide +kernel
theorem dL_law_529 : decode cL_law 529 = .ok (.aload_n 2, 1) := by decide +kernel
theorem dL_law_530 : decode cL_law 530 = .ok (.aload_n 0, 1) := by decide +kernel
theorem dL_law_531 : decode cL_law 531 = .ok (.iload_n 3, 1) := by decide +kernel
theorem dL_law_532 : decode cL_law 532 = .ok (.iconst 1, 1) := by decide +kernel
theorem dL_law_533 : decode cL_law 533 = .ok (.iadd, 1) := by decide +kernel
theorem dL_law_534 : decode cL_law 534 = .ok (.iaload, 1) := by decide +kernel
theorem dL_law_535 : decode cL_law 535 = .ok (.invokevirtual 75, 3) := by decide +kernel
theorem dL_law_538 : decode cL_law 538 = .ok (.if_icmp .eq 450, 3) := by decide +kernel
theorem dL_law_541 : decode cL_law 541 = .ok (.iconst 0, 1) := by decide +kernel
theorem dL_law_542 : decode cL_law 542 = .ok (.ireturn, 1) := by decide +kernel
theorem dL_law_543 : decode cL_law 543 = .ok (.aload_n 1, 1) := by decide +kernel
theorem dL_law_544 : decode cL_law 544 = .ok (.aload_n 0, 1) := by decide +kernel
theorem dL_law_545 : decode cL_law 545 = .ok (.iload_n 3, 1) := by decide +kernel
theorem dL_law_546 : decode cL_law 546 = .ok (.iconst 1, 1) := by decide +kernel
theorem dL_law_547 : decode cL_law 547 = .ok (.iadd, 1) := by decide +kernel
theorem dL_law_548 : decode cL_law 548 = .ok (.iaload, 1) := by decide +kernel
theorem dL_law_549 : decode cL_law 549 = .ok (.aload_n 0, 1) := by decide +kernel
theorem dL_law_550 : decode cL_law 550 = .ok (.iload_n 3, 1) := by decide +kernel
theorem dL_law_551 : decode cL_law 551 = .ok (.iconst 2, 1) := by decide +kernel
theorem dL_law_552 : decode cL_law 552 = .ok (.iadd, 1) := by decide +kernel
theorem dL_law_553 : decode cL_law 553 = .ok (.iaload, 1) := by decide +kernel
theorem dL_law_554 : decode cL_law 554 = .ok (.aload_n 0, 1) := by decide +kernel
theorem dL_law_555 : decode cL_law 555 = .ok (.iload_n 3, 1) := by decide +kernel
theorem dL_law_556 : decode cL_law 556 = .ok (.iconst 3, 1) := by decide +kernel
theorem dL_law_557 : decode cL_law 557 = .ok (.iadd, 1) := by decide +kernel
theorem dL_law_558 : decode cL_law 558 = .ok (.iaload, 1) := by decide +kernel
theorem dL_law_559 : decode cL_law 559 = .ok (.invokevirtual 76, 3) := by decide +kernel
theorem dL_law_562 : decode cL_law 562 = .ok (.aload_n 2, 1) := by decide +kernel
theorem dL_law_563 : decode cL_law 563 = .ok (.aload_n 0, 1) := by decide +kernel
theorem dL_law_564 : decode cL_law 564 = .ok (.iload_n 3, 1) := by decide +kernel
theorem dL_law_565 : decode cL_law 565 = .ok (.iconst 1, 1) := by decide +kernel
theorem dL_law_566 : decode cL_law 566 = .ok (.iadd, 1) := by decide +kernel
theorem dL_law_567 : decode cL_law 567 = .ok (.iaload, 1) := by decide +kernel
theorem dL_law_568 : decode cL_law 568 = .ok (.aload_n 0, 1) := by decide +kernel
theorem dL_law_569 : decode cL_law 569 = .ok (.iload_n 3, 1) := by decide +kernel
theorem dL_law_570 : decode cL_law 570 = .ok (.iconst 2, 1) := by decide +kernel
theorem dL_law_571 : decode cL_law 571 = .ok (.iadd, 1) := by decide +kernel
theorem dL_law_572 : decode cL_law 572 = .ok (.iaload, 1) := by decide +kernel
theorem dL_law_573 : decode cL_law 573 = .ok (.aload_n 0, 1) := by decide +kernel
theorem dL_law_574 : decode cL_law 574 = .ok (.iload_n 3, 1) := by decide +kernel
theorem dL_law_575 : decode cL_law 575 = .ok (.iconst 3, 1) := by decide +kernel
theorem dL_law_576 : decode cL_law 576 = .ok (.iadd, 1) := by decide +kernel
theorem dL_law_577 : decode cL_law 577 = .ok (.iaload, 1) := by decide +kernel
theorem dL_law_578 : decode cL_law 578 = .ok (.invokevirtual 80, 3) := by decide +kernel
theorem dL_law_581 : decode cL_law 581 = .ok (.if_icmp .eq 407, 3) := by decide +kernel
theorem dL_law_584 : decode cL_law 584 = .ok (.iconst 0, 1) := by decide +kernel
theorem dL_law_585 : decode cL_law 585 = .ok (.ireturn, 1) := by decide +kernel
theorem dL_law_586 : decode cL_law 586 = .ok (.aload_n 1, 1) := by decide +kernel
theorem dL_law_587 : decode cL_law 587 = .ok (.aload_n 0, 1) := by decide +kernel
theorem dL_law_588 : decode cL_law 588 = .ok (.iload_n 3, 1) := by decide +kernel
theorem dL_law_589 : decode cL_law 589 = .ok (.iconst 1, 1) := by decide +kernel
theorem dL_law_590 : decode cL_law 590 = .ok (.iadd, 1) := by decide +kernel
theorem dL_law_591 : decode cL_law 591 = .ok (.iaload, 1) := by decide +kernel
theorem dL_law_592 : decode cL_law 592 = .ok (.aload_n 0, 1) := by decide +kernel
theorem dL_law_593 : decode cL_law 593 = .ok (.iload_n 3, 1) := by decide +kernel
theorem dL_law_594 : decode cL_law 594 = .ok (.iconst 2, 1) := by decide +kernel
theorem dL_law_595 : decode cL_law 595 = .ok (.iadd, 1) := by decide +kernel
theorem dL_law_596 : decode cL_law 596 = .ok (.iaload, 1) := by decide +kernel
theorem dL_law_597 : decode cL_law 597 = .ok (.invokevirtual 81, 3) := by decide +kernel
theorem dL_law_600 : decode cL_law 600 = .ok (.aload_n 2, 1) := by decide +kernel
theorem dL_law_601 : decode cL_law 601 = .ok (.aload_n 0, 1) := by decide +kernel
theorem dL_law_602 : decode cL_law 602 = .ok (.iload_n 3, 1) := by decide +kernel
theorem dL_law_603 : decode cL_law 603 = .ok (.iconst 1, 1) := by decide +kernel
theorem dL_law_604 : decode cL_law 604 = .ok (.iadd, 1) := by decide +kernel
theorem dL_law_605 : decode cL_law 605 = .ok (.iaload, 1) := by decide +kernel
theorem dL_law_606 : decode cL_law 606 = .ok (.aload_n 0, 1) := by decide +kernel
theorem dL_law_607 : decode cL_law 607 = .ok (.iload_n 3, 1) := by decide +kernel
theorem dL_law_608 : decode cL_law 608 = .ok (.iconst 2, 1) := by decide +kernel
theorem dL_law_609 : decode cL_law 609 = .ok (.iadd, 1) := by decide +kernel
theorem dL_law_610 : decode cL_law 610 = .ok (.iaload, 1) := by decide +kernel
theorem dL_law_611 : decode cL_law 611 = .ok (.invokevirtual 84, 3) := by decide +kernel
theorem dL_law_614 : decode cL_law 614 = .ok (.if_icmp .eq 374, 3) := by decide +kernel
theorem dL_law_617 : decode cL_law 617 = .ok (.iconst 0, 1) := by decide +kernel
theorem dL_law_618 : decode cL_law 618 = .ok (.ireturn, 1) := by decide +kernel
theorem dL_law_619 : decode cL_law 619 = .ok (.aload_n 1, 1) := by decide +kernel
theorem dL_law_620 : decode cL_law 620 = .ok (.aload_n 0, 1) := by decide +kernel
theorem dL_law_621 : decode cL_law 621 = .ok (.iload_n 3, 1) := by decide +kernel
theorem dL_law_622 : decode cL_law 622 = .ok (.iconst 1, 1) := by decide +kernel
theorem dL_law_623 : decode cL_law 623 = .ok (.iadd, 1) := by decide +kernel
theorem dL_law_624 : decode cL_law 624 = .ok (.iaload, 1) := by decide +kernel
theorem dL_law_625 : decode cL_law 625 = .ok (.aload_n 0, 1) := by decide +kernel
theorem dL_law_626 : decode cL_law 626 = .ok (.iload_n 3, 1) := by decide +kernel
theorem dL_law_627 : decode cL_law 627 = .ok (.iconst 2, 1) := by decide +kernel
theorem dL_law_628 : decode cL_law 628 = .ok (.iadd, 1) := by decide +kernel
theorem dL_law_629 : decode cL_law 629 = .ok (.iaload, 1) := by decide +kernel
theorem dL_law_630 : decode cL_law 630 = .ok (.invokevirtual 85, 3) := by decide +kernel
theorem dL_law_633 : decode cL_law 633 = .ok (.aload_n 2, 1) := by decide +kernel
theorem dL_law_634 : decode cL_law 634 = .ok (.aload_n 0, 1) := by decide +kernel
theorem dL_law_635 : decode cL_law 635 = .ok (.iload_n 3, 1) := by decide +kernel
theorem dL_law_636 : decode cL_law 636 = .ok (.iconst 1, 1) := by decide +kernel
theorem dL_law_637 : decode cL_law 637 = .ok (.iadd, 1) := by decide +kernel
theorem dL_law_638 : decode cL_law 638 = .ok (.iaload, 1) := by decide +kernel
theorem dL_law_639 : decode cL_law 639 = .ok (.aload_n 0, 1) := by decide +kernel
theorem dL_law_640 : decode cL_law 640 = .ok (.iload_n 3, 1) := by decide +kernel
theorem dL_law_641 : decode cL_law 641 = .ok (.iconst 2, 1) := by decide +kernel
theorem dL_law_642 : decode cL_law 642 = .ok (.iadd, 1) := by decide +kernel
theorem dL_law_643 : decode cL_law 643 = .ok (.iaload, 1) := by decide +kernel
theorem dL_law_644 : decode cL_law 644 = .ok (.invokevirtual 88, 3) := by decide +kernel
theorem dL_law_647 : decode cL_law 647 = .ok (.if_icmp .eq 341, 3) := by decide +kernel
theorem dL_law_650 : decode cL_law 650 = .ok (.iconst 0, 1) := by decide +kernel
theorem dL_law_651 : decode cL_law 651 = .ok (.ireturn, 1) := by decide +kernel
theorem dL_law_652 : decode cL_law 652 = .ok (.aload_n 1, 1) := by decide +kernel
theorem dL_law_653 : decode cL_law 653 = .ok (.invokevirtual 89, 3) := by decide +kernel
theorem dL_law_656 : decode cL_law 656 = .ok (.aload_n 2, 1) := by decide +kernel
theorem dL_law_657 : decode cL_law 657 = .ok (.invokevirtual 92, 3) := by decide +kernel
theorem dL_law_660 : decode cL_law 660 = .ok (.if_icmp .eq 328, 3) := by decide +kernel
theorem dL_law_663 : decode cL_law 663 = .ok (.iconst 0, 1) := by decide +kernel
theorem dL_law_664 : decode cL_law 664 = .ok (.ireturn, 1) := by decide +kernel
theorem dL_law_665 : decode cL_law 665 = .ok (.aload_n 1, 1) := by decide +kernel
theorem dL_law_666 : decode cL_law 666 = .ok (.aload_n 0, 1) := by decide +kernel
theorem dL_law_667 : decode cL_law 667 = .ok (.iload_n 3, 1) := by decide +kernel
theorem dL_law_668 : decode cL_law 668 = .ok (.iconst 1, 1) := by decide +kernel
theorem dL_law_669 : decode cL_law 669 = .ok (.iadd, 1) := by decide +kernel
theorem dL_law_670 : decode cL_law 670 = .ok (.iaload, 1) := by decide +kernel
theorem dL_law_671 : decode cL_law 671 = .ok (.aload_n 0, 1) := by decide +kernel
theorem dL_law_672 : decode cL_law 672 = .ok (.iload_n 3, 1) := by decide +kernel
theorem dL_law_673 : decode cL_law 673 = .ok (.iconst 2, 1) := by decide +kernel
theorem dL_law_674 : decode cL_law 674 = .ok (.iadd, 1) := by decide +kernel
theorem dL_law_675 : decode cL_law 675 = .ok (.iaload, 1) := by decide +kernel
theorem dL_law_676 : decode cL_law 676 = .ok (.aload_n 0, 1) := by decide +kernel
theorem dL_law_677 : decode cL_law 677 = .ok (.iload_n 3, 1) := by decide +kernel
theorem dL_law_678 : decode cL_law 678 = .ok (.iconst 3, 1) := by decide +kernel
theorem dL_law_679 : decode cL_law 679 = .ok (.iadd, 1) := by decide +kernel
theorem dL_law_680 : decode cL_law 680 = .ok (.iaload, 1) := by decide +kernel
theorem dL_law_681 : decode cL_law 681 = .ok (.invokevirtual 93, 3) := by decide +kernel
theorem dL_law_684 : decode cL_law 684 = .ok (.aload_n 2, 1) := by decide +kernel
theorem dL_law_685 : decode cL_law 685 = .ok (.aload_n 0, 1) := by decide +kernel
theorem dL_law_686 : decode cL_law 686 = .ok (.iload_n 3, 1) := by decide +kernel
theorem dL_law_687 : decode cL_law 687 = .ok (.iconst 1, 1) := by decide +kernel
theorem dL_law_688 : decode cL_law 688 = .ok (.iadd, 1) := by decide +kernel
theorem dL_law_689 : decode cL_law 689 = .ok (.iaload, 1) := by decide +kernel
theorem dL_law_690 : decode cL_law 690 = .ok (.aload_n 0, 1) := by decide +kernel
theorem dL_law_691 : decode cL_law 691 = .ok (.iload_n 3, 1) := by decide +kernel
theorem dL_law_692 : decode cL_law 692 = .ok (.iconst 2, 1) := by decide +kernel
theorem dL_law_693 : decode cL_law 693 = .ok (.iadd, 1) := by decide +kernel
theorem dL_law_694 : decode cL_law 694 = .ok (.iaload, 1) := by decide +kernel
theorem dL_law_695 : decode cL_law 695 = .ok (.aload_n 0, 1) := by decide +kernel
theorem dL_law_696 : decode cL_law 696 = .ok (.iload_n 3, 1) := by decide +kernel
theorem dL_law_697 : decode cL_law 697 = .ok (.iconst 3, 1) := by decide +kernel
theorem dL_law_698 : decode cL_law 698 = .ok (.iadd, 1) := by decide +kernel
theorem dL_law_699 : decode cL_law 699 = .ok (.iaload, 1) := by decide +kernel
theorem dL_law_700 : decode cL_law 700 = .ok (.invokevirtual 96, 3) := by decide +kernel
theorem dL_law_703 : decode cL_law 703 = .ok (.if_icmp .eq 285, 3) := by decide +kernel
theorem dL_law_706 : decode cL_law 706 = .ok (.iconst 0, 1) := by decide +kernel
theorem dL_law_707 : decode cL_law 707 = .ok (.ireturn, 1) := by decide +kernel
theorem dL_law_708 : decode cL_law 708 = .ok (.aload_n 1, 1) := by decide +kernel
theorem dL_law_709 : decode cL_law 709 = .ok (.aload_n 0, 1) := by decide +kernel
theorem dL_law_710 : decode cL_law 710 = .ok (.iload_n 3, 1) := by decide +kernel
theorem dL_law_711 : decode cL_law 711 = .ok (.iconst 1, 1) := by decide +kernel
theorem dL_law_712 : decode cL_law 712 = .ok (.iadd, 1) := by decide +kernel
theorem dL_law_713 : decode cL_law 713 = .ok (.iaload, 1) := by decide +kernel
theorem dL_law_714 : decode cL_law 714 = .ok (.aload_n 0, 1) := by decide +kernel
theorem dL_law_715 : decode cL_law 715 = .ok (.iload_n 3, 1) := by decide +kernel
theorem dL_law_716 : decode cL_law 716 = .ok (.iconst 2, 1) := by decide +kernel
theorem dL_law_717 : decode cL_law 717 = .ok (.iadd, 1) := by decide +kernel
theorem dL_law_718 : decode cL_law 718 = .ok (.iaload, 1) := by decide +kernel
theorem dL_law_719 : decode cL_law 719 = .ok (.aload_n 0, 1) := by decide +kernel
theorem dL_law_720 : decode cL_law 720 = .ok (.iload_n 3, 1) := by decide +kernel
theorem dL_law_721 : decode cL_law 721 = .ok (.iconst 3, 1) := by decide +kernel
theorem dL_law_722 : decode cL_law 722 = .ok (.iadd, 1) := by decide +kernel
theorem dL_law_723 : decode cL_law 723 = .ok (.iaload, 1) := by decide +kernel
theorem dL_law_724 : decode cL_law 724 = .ok (.invokevirtual 97, 3) := by decide +kernel
theorem dL_law_727 : decode cL_law 727 = .ok (.aload_n 2, 1) := by decide +kernel
theorem dL_law_728 : decode cL_law 728 = .ok (.aload_n 0, 1) := by decide +kernel
theorem dL_law_729 : decode cL_law 729 = .ok (.iload_n 3, 1) := by decide +kernel
theorem dL_law_730 : decode cL_law 730 = .ok (.iconst 1, 1) := by decide +kernel
theorem dL_law_731 : decode cL_law 731 = .ok (.iadd, 1) := by decide +kernel
theorem dL_law_732 : decode cL_law 732 = .ok (.iaload, 1) := by decide +kernel
theorem dL_law_733 : decode cL_law 733 = .ok (.aload_n 0, 1) := by decide +kernel
theorem dL_law_734 : decode cL_law 734 = .ok (.iload_n 3, 1) := by decide +kernel
theorem dL_law_735 : decode cL_law 735 = .ok (.iconst 2, 1) := by decide +kernel
theorem dL_law_736 : decode cL_law 736 = .ok (.iadd, 1) := by decide +kernel
theorem dL_law_737 : decode cL_law 737 = .ok (.iaload, 1) := by decide +kernel
theorem dL_law_738 : decode cL_law 738 = .ok (.aload_n 0, 1) := by decide +kernel
theorem dL_law_739 : decode cL_law 739 = .ok (.iload_n 3, 1) := by decide +kernel
theorem dL_law_740 : decode cL_law 740 = .ok (.iconst 3, 1) := by decide +kernel
theorem dL_law_741 : decode cL_law 741 = .ok (.iadd, 1) := by decide +kernel
theorem dL_law_742 : decode cL_law 742 = .ok (.iaload, 1) := by decide +kernel
theorem dL_law_743 : decode cL_law 743 = .ok (.invokevirtual 100, 3) := by decide +kernel
theorem dL_law_746 : decode cL_law 746 = .ok (.if_icmp .eq 242, 3) := by decide +kernel
theorem dL_law_749 : decode cL_law 749 = .ok (.iconst 0, 1) := by decide +kernel
theorem dL_law_750 : decode cL_law 750 = .ok (.ireturn, 1) := by decide +kernel
theorem dL_law_751 : decode cL_law 751 = .ok (.aload_n 1, 1) := by decide +kernel
theorem dL_law_752 : decode cL_law 752 = .ok (.invokevirtual 101, 3) := by decide +kernel
theorem dL_law_755 : decode cL_law 755 = .ok (.aload_n 2, 1) := by decide +kernel
theorem dL_law_756 : decode cL_law 756 = .ok (.invokevirtual 104, 3) := by decide +kernel
theorem dL_law_759 : decode cL_law 759 = .ok (.if_icmp .eq 229, 3) := by decide +kernel
theorem dL_law_762 : decode cL_law 762 = .ok (.iconst 0, 1) := by decide +kernel
theorem dL_law_763 : decode cL_law 763 = .ok (.ireturn, 1) := by decide +kernel
theorem dL_law_764 : decode cL_law 764 = .ok (.aload_n 1, 1) := by decide +kernel
theorem dL_law_765 : decode cL_law 765 = .ok (.aload_n 0, 1) := by decide +kernel
theorem dL_law_766 : decode cL_law 766 = .ok (.iload_n 3, 1) := by decide +kernel
theorem dL_law_767 : decode cL_law 767 = .ok (.iconst 1, 1) := by decide +kernel
theorem dL_law_768 : decode cL_law 768 = .ok (.iadd, 1) := by decide +kernel
theorem dL_law_769 : decode cL_law 769 = .ok (.iaload, 1) := by decide +kernel
theorem dL_law_770 : decode cL_law 770 = .ok (.aload_n 0, 1) := by decide +kernel
theorem dL_law_771 : decode cL_law 771 = .ok (.iload_n 3, 1) := by decide +kernel
theorem dL_law_772 : decode cL_law 772 = .ok (.iconst 2, 1) := by decide +kernel
theorem dL_law_773 : decode cL_law 773 = .ok (.iadd, 1) := by decide +kernel
theorem dL_law_774 : decode cL_law 774 = .ok (.iaload, 1) := by decide +kernel
theorem dL_law_775 : decode cL_law 775 = .ok (.invokevirtual 105, 3) := by decide +kernel
theorem dL_law_778 : decode cL_law 778 = .ok (.aload_n 2, 1) := by decide +kernel
theorem dL_law_779 : decode cL_law 779 = .ok (.aload_n 0, 1) := by decide +kernel
theorem dL_law_780 : decode cL_law 780 = .ok (.iload_n 3, 1) := by decide +kernel
theorem dL_law_781 : decode cL_law 781 = .ok (.iconst 1, 1) := by decide +kernel
theorem dL_law_782 : decode cL_law 782 = .ok (.iadd, 1) := by decide +kernel
theorem dL_law_783 : decode cL_law 783 = .ok (.iaload, 1) := by decide +kernel
theorem dL_law_784 : decode cL_law 784 = .ok (.aload_n 0, 1) := by decide +kernel
theorem dL_law_785 : decode cL_law 785 = .ok (.iload_n 3, 1) := by decide +kernel
theorem dL_law_786 : decode cL_law 786 = .ok (.iconst 2, 1) := by decide +kernel
theorem dL_law_787 : decode cL_law 787 = .ok (.iadd, 1) := by decide +kernel
theorem dL_law_788 : decode cL_law 788 = .ok (.iaload, 1) := by decide +kernel
theorem dL_law_789 : decode cL_law 789 = .ok (.invokevirtual 108, 3) := by decide +kernel
theorem dL_law_792 : decode cL_law 792 = .ok (.if_icmp .eq 196, 3) := by decide +kernel
theorem dL_law_795 : decode cL_law 795 = .ok (.iconst 0, 1) := by decide +kernel
theorem dL_law_796 : decode cL_law 796 = .ok (.ireturn, 1) := by decide +kernel
theorem dL_law_797 : decode cL_law 797 = .ok (.aload_n 1, 1) := by decide +kernel
theorem dL_law_798 : decode cL_law 798 = .ok (.aload_n 0, 1) := by decide +kernel
theorem dL_law_799 : decode cL_law 799 = .ok (.iload_n 3, 1) := by decide +kernel
theorem dL_law_800 : decode cL_law 800 = .ok (.iconst 1, 1) := by decide +kernel
theorem dL_law_801 : decode cL_law 801 = .ok (.iadd, 1) := by decide +kernel
theorem dL_law_802 : decode cL_law 802 = .ok (.iaload, 1) := by decide +kernel
theorem dL_law_803 : decode cL_law 803 = .ok (.aload_n 0, 1) := by decide +kernel
theorem dL_law_804 : decode cL_law 804 = .ok (.iload_n 3, 1) := by decide +kernel
theorem dL_law_805 : decode cL_law 805 = .ok (.iconst 2, 1) := by decide +kernel
theorem dL_law_806 : decode cL_law 806 = .ok (.iadd, 1) := by decide +kernel
theorem dL_law_807 : decode cL_law 807 = .ok (.iaload, 1) := by decide +kernel
theorem dL_law_808 : decode cL_law 808 = .ok (.aload_n 0, 1) := by decide +kernel
theorem dL_law_809 : decode cL_law 809 = .ok (.iload_n 3, 1) := by decide +kernel
theorem dL_law_810 : decode cL_law 810 = .ok (.iconst 3, 1) := by decide +kernel
theorem dL_law_811 : decode cL_law 811 = .ok (.iadd, 1) := by decide +kernel
theorem dL_law_812 : decode cL_law 812 = .ok (.iaload, 1) := by decide +kernel
theorem dL_law_813 : decode cL_law 813 = .ok (.aload_n 0, 1) := by decide +kernel
theorem dL_law_814 : decode cL_law 814 = .ok (.iload_n 3, 1) := by decide +kernel
theorem dL_law_815 : decode cL_law 815 = .ok (.iconst 4, 1) := by decide +kernel
theorem dL_law_816 : decode cL_law 816 = .ok (.iadd, 1) := by decide +kernel
theorem dL_law_817 : decode cL_law 817 = .ok (.iaload, 1) := by decide +kernel
theorem dL_law_818 : decode cL_law 818 = .ok (.invokevirtual 109, 3) := by decide +kernel
theorem dL_law_821 : decode cL_law 821 = .ok (.aload_n 2, 1) := by decide +kernel
theorem dL_law_822 : decode cL_law 822 = .ok (.aload_n 0, 1) := by decide +kernel
theorem dL_law_823 : decode cL_law 823 = .ok (.iload_n 3, 1) := by decide +kernel
theorem dL_law_824 : decode cL_law 824 = .ok (.iconst 1, 1) := by decide +kernel
theorem dL_law_825 : decode cL_law 825 = .ok (.iadd, 1) := by decide +kernel
theorem dL_law_826 : decode cL_law 826 = .ok (.iaload, 1) := by decide +kernel
theorem dL_law_827 : decode cL_law 827 = .ok (.aload_n 0, 1) := by decide +kernel
theorem dL_law_828 : decode cL_law 828 = .ok (.iload_n 3, 1) := by decide +kernel
theorem dL_law_829 : decode cL_law 829 = .ok (.iconst 2, 1) := by decide +kernel
theorem dL_law_830 : decode cL_law 830 = .ok (.iadd, 1) := by decide +kernel
theorem dL_law_831 : decode cL_law 831 = .ok (.iaload, 1) := by decide +kernel
theorem dL_law_832 : decode cL_law 832 = .ok (.aload_n 0, 1) := by decide +kernel
theorem dL_law_833 : decode cL_law 833 = .ok (.iload_n 3, 1) := by decide +kernel
theorem dL_law_834 : decode cL_law 834 = .ok (.iconst 3, 1) := by decide +kernel
theorem dL_law_835 : decode cL_law 835 = .ok (.iadd, 1) := by decide +kernel
theorem dL_law_836 : decode cL_law 836 = .ok (.iaload, 1) := by decide +kernel
theorem dL_law_837 : decode cL_law 837 = .ok (.aload_n 0, 1) := by decide +kernel
theorem dL_law_838 : decode cL_law 838 = .ok (.iload_n 3, 1) := by decide +kernel
theorem dL_law_839 : decode cL_law 839 = .ok (.iconst 4, 1) := by decide +kernel
theorem dL_law_840 : decode cL_law 840 = .ok (.iadd, 1) := by decide +kernel
theorem dL_law_841 : decode cL_law 841 = .ok (.iaload, 1) := by decide +kernel
theorem dL_law_842 : decode cL_law 842 = .ok (.invokevirtual 113, 3) := by decide +kernel
theorem dL_law_845 : decode cL_law 845 = .ok (.if_icmp .eq 143, 3) := by decide +kernel
theorem dL_law_848 : decode cL_law 848 = .ok (.iconst 0, 1) := by decide +kernel
theorem dL_law_849 : decode cL_law 849 = .ok (.ireturn, 1) := by decide +kernel
theorem dL_law_850 : decode cL_law 850 = .ok (.aload_n 1, 1) := by decide +kernel
theorem dL_law_851 : decode cL_law 851 = .ok (.aload_n 0, 1) := by decide +kernel
theorem dL_law_852 : decode cL_law 852 = .ok (.iload_n 3, 1) := by decide +kernel
theorem dL_law_853 : decode cL_law 853 = .ok (.iconst 1, 1) := by decide +kernel
theorem dL_law_854 : decode cL_law 854 = .ok (.iadd, 1) := by decide +kernel
theorem dL_law_855 : decode cL_law 855 = .ok (.iaload, 1) := by decide +kernel
theorem dL_law_856 : decode cL_law 856 = .ok (.invokevirtual 114, 3) := by decide +kernel
theorem dL_law_859 : decode cL_law 859 = .ok (.aload_n 2, 1) := by decide +kernel
theorem dL_law_860 : decode cL_law 860 = .ok (.aload_n 0, 1) := by decide +kernel
theorem dL_law_861 : decode cL_law 861 = .ok (.iload_n 3, 1) := by decide +kernel
theorem dL_law_862 : decode cL_law 862 = .ok (.iconst 1, 1) := by decide +kernel
theorem dL_law_863 : decode cL_law 863 = .ok (.iadd, 1) := by decide +kernel
theorem dL_law_864 : decode cL_law 864 = .ok (.iaload, 1) := by decide +kernel
theorem dL_law_865 : decode cL_law 865 = .ok (.invokevirtual 117, 3) := by decide +kernel
theorem dL_law_868 : decode cL_law 868 = .ok (.if_icmp .eq 120, 3) := by decide +kernel
theorem dL_law_871 : decode cL_law 871 = .ok (.iconst 0, 1) := by decide +kernel
theorem dL_law_872 : decode cL_law 872 = .ok (.ireturn, 1) := by decide +kernel
theorem dL_law_873 : decode cL_law 873 = .ok (.aload_n 1, 1) := by decide +kernel
theorem dL_law_874 : decode cL_law 874 = .ok (.aload_n 0, 1) := by decide +kernel
theorem dL_law_875 : decode cL_law 875 = .ok (.iload_n 3, 1) := by decide +kernel
theorem dL_law_876 : decode cL_law 876 = .ok (.iconst 1, 1) := by decide +kernel
theorem dL_law_877 : decode cL_law 877 = .ok (.iadd, 1) := by decide +kernel
theorem dL_law_878 : decode cL_law 878 = .ok (.iaload, 1) := by decide +kernel
theorem dL_law_879 : decode cL_law 879 = .ok (.invokevirtual 118, 3) := by decide +kernel
theorem dL_law_882 : decode cL_law 882 = .ok (.aload_n 2, 1) := by decide +kernel
theorem dL_law_883 : decode cL_law 883 = .ok (.aload_n 0, 1) := by decide +kernel
theorem dL_law_884 : decode cL_law 884 = .ok (.iload_n 3, 1) := by decide +kernel
theorem dL_law_885 : decode cL_law 885 = .ok (.iconst 1, 1) := by decide +kernel
theorem dL_law_886 : decode cL_law 886 = .ok (.iadd, 1) := by decide +kernel
theorem dL_law_887 : decode cL_law 887 = .ok (.iaload, 1) := by decide +kernel
theorem dL_law_888 : decode cL_law 888 = .ok (.invokevirtual 121, 3) := by decide +kernel
theorem dL_law_891 : decode cL_law 891 = .ok (.if_icmp .eq 97, 3) := by decide +kernel
theorem dL_law_894 : decode cL_law 894 = .ok (.iconst 0, 1) := by decide +kernel
theorem dL_law_895 : decode cL_law 895 = .ok (.ireturn, 1) := by decide +kernel
theorem dL_law_896 : decode cL_law 896 = .ok (.aload_n 1, 1) := by decide +kernel
theorem dL_law_897 : decode cL_law 897 = .ok (.aload_n 0, 1) := by decide +kernel
theorem dL_law_898 : decode cL_law 898 = .ok (.iload_n 3, 1) := by decide +kernel
theorem dL_law_899 : decode cL_law 899 = .ok (.iconst 1, 1) := by decide +kernel
theorem dL_law_900 : decode cL_law 900 = .ok (.iadd, 1) := by decide +kernel
theorem dL_law_901 : decode cL_law 901 = .ok (.iaload, 1) := by decide +kernel
theorem dL_law_902 : decode cL_law 902 = .ok (.aload_n 0, 1) := by decide +kernel
theorem dL_law_903 : decode cL_law 903 = .ok (.iload_n 3, 1) := by decide +kernel
theorem dL_law_904 : decode cL_law 904 = .ok (.iconst 2, 1) := by decide +kernel
theorem dL_law_905 : decode cL_law 905 = .ok (.iadd, 1) := by decide +kernel
theorem dL_law_906 : decode cL_law 906 = .ok (.iaload, 1) := by decide +kernel
theorem dL_law_907 : decode cL_law 907 = .ok (.aload_n 0, 1) := by decide +kernel
theorem dL_law_908 : decode cL_law 908 = .ok (.iload_n 3, 1) := by decide +kernel
theorem dL_law_909 : decode cL_law 909 = .ok (.iconst 3, 1) := by decide +kernel
theorem dL_law_910 : decode cL_law 910 = .ok (.iadd, 1) := by decide +kernel
theorem dL_law_911 : decode cL_law 911 = .ok (.iaload, 1) := by decide +kernel
theorem dL_law_912 : decode cL_law 912 = .ok (.invokevirtual 122, 3) := by decide +kernel
theorem dL_law_915 : decode cL_law 915 = .ok (.aload_n 2, 1) := by decide +kernel
theorem dL_law_916 : decode cL_law 916 = .ok (.aload_n 0, 1) := by decide +kernel
theorem dL_law_917 : decode cL_law 917 = .ok (.iload_n 3, 1) := by decide +kernel
theorem dL_law_918 : decode cL_law 918 = .ok (.iconst 1, 1) := by decide +kernel
theorem dL_law_919 : decode cL_law 919 = .ok (.iadd, 1) := by decide +kernel
theorem dL_law_920 : decode cL_law 920 = .ok (.iaload, 1) := by decide +kernel
theorem dL_law_921 : decode cL_law 921 = .ok (.aload_n 0, 1) := by decide +kernel
theorem dL_law_922 : decode cL_law 922 = .ok (.iload_n 3, 1) := by decide +kernel
theorem dL_law_923 : decode cL_law 923 = .ok (.iconst 2, 1) := by decide +kernel
theorem dL_law_924 : decode cL_law 924 = .ok (.iadd, 1) := by decide +kernel
theorem dL_law_925 : decode cL_law 925 = .ok (.iaload, 1) := by decide +kernel
theorem dL_law_926 : decode cL_law 926 = .ok (.aload_n 0, 1) := by decide +kernel
theorem dL_law_927 : decode cL_law 927 = .ok (.iload_n 3, 1) := by decide +kernel
theorem dL_law_928 : decode cL_law 928 = .ok (.iconst 3, 1) := by decide +kernel
theorem dL_law_929 : decode cL_law 929 = .ok (.iadd, 1) := by decide +kernel
theorem dL_law_930 : decode cL_law 930 = .ok (.iaload, 1) := by decide +kernel
theorem dL_law_931 : decode cL_law 931 = .ok (.invokevirtual 125, 3) := by decide +kernel
theorem dL_law_934 : decode cL_law 934 = .ok (.if_icmp .eq 54, 3) := by decide +kernel
theorem dL_law_937 : decode cL_law 937 = .ok (.iconst 0, 1) := by decide +kernel
theorem dL_law_938 : decode cL_law 938 = .ok (.ireturn, 1) := by decide +kernel
theorem dL_law_939 : decode cL_law 939 = .ok (.aload_n 1, 1) := by decide +kernel
theorem dL_law_940 : decode cL_law 940 = .ok (.invokevirtual 126, 3) := by decide +kernel
theorem dL_law_943 : decode cL_law 943 = .ok (.aload_n 2, 1) := by decide +kernel
theorem dL_law_944 : decode cL_law 944 = .ok (.invokevirtual 129, 3) := by decide +kernel
theorem dL_law_947 : decode cL_law 947 = .ok (.if_icmp .eq 41, 3) := by decide +kernel
theorem dL_law_950 : decode cL_law 950 = .ok (.iconst 0, 1) := by decide +kernel
theorem dL_law_951 : decode cL_law 951 = .ok (.ireturn, 1) := by decide +kernel
theorem dL_law_952 : decode cL_law 952 = .ok (.aload_n 1, 1) := by decide +kernel
theorem dL_law_953 : decode cL_law 953 = .ok (.invokevirtual 130, 3) := by decide +kernel
theorem dL_law_956 : decode cL_law 956 = .ok (.aload_n 2, 1) := by decide +kernel
theorem dL_law_957 : decode cL_law 957 = .ok (.invokevirtual 133, 3) := by decide +kernel
theorem dL_law_960 : decode cL_law 960 = .ok (.if_icmp .eq 28, 3) := by decide +kernel
theorem dL_law_963 : decode cL_law 963 = .ok (.iconst 0, 1) := by decide +kernel
theorem dL_law_964 : decode cL_law 964 = .ok (.ireturn, 1) := by decide +kernel
theorem dL_law_965 : decode cL_law 965 = .ok (.aload_n 1, 1) := by decide +kernel
theorem dL_law_966 : decode cL_law 966 = .ok (.aload_n 0, 1) := by decide +kernel
theorem dL_law_967 : decode cL_law 967 = .ok (.iload_n 3, 1) := by decide +kernel
theorem dL_law_968 : decode cL_law 968 = .ok (.iconst 1, 1) := by decide +kernel
theorem dL_law_969 : decode cL_law 969 = .ok (.iadd, 1) := by decide +kernel
theorem dL_law_970 : decode cL_law 970 = .ok (.iaload, 1) := by decide +kernel
theorem dL_law_971 : decode cL_law 971 = .ok (.invokevirtual 134, 3) := by decide +kernel
theorem dL_law_974 : decode cL_law 974 = .ok (.aload_n 2, 1) := by decide +kernel
theorem dL_law_975 : decode cL_law 975 = .ok (.aload_n 0, 1) := by decide +kernel
theorem dL_law_976 : decode cL_law 976 = .ok (.iload_n 3, 1) := by decide +kernel
theorem dL_law_977 : decode cL_law 977 = .ok (.iconst 1, 1) := by decide +kernel
theorem dL_law_978 : decode cL_law 978 = .ok (.iadd, 1) := by decide +kernel
theorem dL_law_979 : decode cL_law 979 = .ok (.iaload, 1) := by decide +kernel
theorem dL_law_980 : decode cL_law 980 = .ok (.invokevirtual 137, 3) := by decide +kernel
theorem dL_law_983 : decode cL_law 983 = .ok (.if_icmp .eq 5, 3) := by decide +kernel
theorem dL_law_986 : decode cL_law 986 = .ok (.iconst 0, 1) := by decide +kernel
theorem dL_law_987 : decode cL_law 987 = .ok (.ireturn, 1) := by decide +kernel
theorem dL_law_988 : decode cL_law 988 = .ok (.iinc 3 5, 3) := by decide +kernel
theorem dL_law_991 : decode cL_law 991 = .ok (.goto (-973), 3) := by decide +kernel
theorem dL_law_994 : decode cL_law 994 = .ok (.iconst 1, 1) := by decide +kernel
theorem dL_law_995 : decode cL_law 995 = .ok (.ireturn, 1) := by decide +kernel
end
section
/-! the whole world of the run: 82 objects with numbers of their own; what they hold is one function -/
abbrev Hp : Type := Nat → Nat → Nat
abbrev Ly : Type := (Nat × Nat) ⊕ (List Nat) ⊕ (Nat × List (Option Nat))
abbrev oI (n : Nat) : Ly := .inl (0, n)
abbrev oC (n : Nat) : Ly := .inl (1, n)
abbrev oR (l : List Nat) : Ly := .inr (.inl l)
abbrev oO (c : Nat) (l : List (Option Nat)) : Ly := .inr (.inr (c, l))
def lay : List Ly := [
  oO 7 [some 1, some 4, some 10, some 16, some 19, some 22, some 48, some 56, some 60, some 66],
  oO 5 [some 2, some 3, none, none], oC 200, oI 3,
  oO 1 [some 5, some 6, some 7, some 8, some 9, none, none], oI 8, oI 8, oI 8, oI 8, oI 8,
  oO 1 [some 11, some 12, some 13, some 14, some 15, none, none], oI 8, oI 8, oI 8, oI 8, oI 8,
  oO 4 [some 17, some 18, none], oI 8, oI 8,
  oO 4 [some 20, some 21, none], oI 8, oI 8,
  oO 0 [some 23, none], oR [24, 27, 30, 33, 36, 39, 42, 45],
  oO 4 [some 25, some 26, none], oI 8, oI 8, oO 4 [some 28, some 29, none], oI 8, oI 8,
  oO 4 [some 31, some 32, none], oI 8, oI 8, oO 4 [some 34, some 35, none], oI 8, oI 8,
  oO 4 [some 37, some 38, none], oI 8, oI 8, oO 4 [some 40, some 41, none], oI 8, oI 8,
  oO 4 [some 43, some 44, none], oI 8, oI 8, oO 4 [some 46, some 47, none], oI 8, oI 8,
  oO 0 [some 49, none], oR [50, 53],
  oO 4 [some 51, some 52, none], oI 8, oI 8, oO 4 [some 54, some 55, none], oI 8, oI 8,
  oO 3 [some 57, some 58, some 59, none], oI 8, oI 8, oI 8,
  oO 6 [some 4, some 61, some 64, some 65, none], oO 4 [some 62, some 63, none], oI 8, oI 8, oI 8, oI 8,
  oO 2 [some 4, some 60, none, none, none],
  oO 8 [none, some 68, some 69, some 70, some 71, none, some 72, none, some 73, none, some 74, some 75, none, none, some 76, none, some 77, none, some 78, some 79, some 80, some 81, none, none, none],
  oI 16, oI 16, oI 17, oI 17, oI 136, oI 34, oI 24, oI 200, oI 3, oI 16, oI 16, oI 17, oI 17, oI 8]
abbrev Gx : Type := va_G × (ClassId × ClassId × ClassId) × (Nat → Nat) × (Nat → Prop)
abbrev gA (G : Gx) : Nat → Prop := G.2.2.2
abbrev ga (G : Gx) : Nat → Nat := G.2.2.1
def cv (ad : Nat → Nat) : Value → Value
  | .ref k => .ref (ad k)
  | v => v
def fvv (G : Gx) (h : Hp) (k : Nat) (j : Nat) (f : Option Nat) : Value := match f with
  | none => .int (nI (h k j))
  | some r => .ref (ga G r)
def cel (G : Gx) (h : Hp) (k : Nat) (L : Ly) : va_E := match L with
  | .inl q => .inl (if q.1 = 0 then G.2.1.1 else G.2.1.2.1, q.2, .inl (fun j => nI (h k j)))
  | .inr (.inl rs) => .inl (G.2.1.2.2, rs.length, .inr (.inr (.inr (.inr (fun j => (rs[j]?).map (ga G))))))
  | .inr (.inr q) => .inr (q.1, q.2.mapIdx (fvv G h k))
def wl (G : Gx) (h : Hp) : va_W := lay.mapIdx (fun k L => (ga G k, cel G h k L))
/-- one place of one object is written -/
def hw (h : Hp) (o k : Nat) (x : Nat) : Hp := fun a j => if a = o ∧ j = k then x else h a j
theorem wl_at {G : Gx} {h : Hp} {k : Nat} {L : Ly} (hk : lay[k]? = some L) : (wl G h)[k]? = some (ga G k, cel G h k L) := by
  simp [wl, hk]
theorem wl_hw {G : Gx} {h : Hp} {o k : Nat} {x : Nat} {L : Ly} {e : va_E} (hk : lay[o]? = some L) (he : cel G (hw h o k x) o L = e) : (wl G h).set o (ga G o, e) = wl G (hw h o k x) := by
  apply List.ext_getElem?
  intro i
  have ho : o < lay.length := (List.getElem?_eq_some_iff.mp hk).1
  rw [List.getElem?_set]
  by_cases hi : o = i
  · subst hi
    rw [if_pos rfl, wl_at hk, he]
    simp [wl, ho]
  · rw [if_neg hi]
    simp only [wl, List.getElem?_mapIdx]
    cases hl : lay[i]? with
    | none => rfl
    | some L' =>
      have hne : ¬ i = o := fun e => hi e.symm
      have h1 : hw h o k x i = h i := by funext j; simp [hw, hne]
      have h2 : ∀ j f, fvv G (hw h o k x) i j f = fvv G h i j f := fun j f => by cases f <;> simp [fvv, h1]
      simp only [Option.map_some]
      congr 2
      unfold cel
      match L' with
      | .inl q => simp [h1]
      | .inr (.inl rs) => rfl
      | .inr (.inr q) =>
        simp only
        congr 2
        exact congrArg (fun f => List.mapIdx f q.2) (funext fun j => funext fun f => (h2 j f).symm)
theorem cel_hwA {G : Gx} {h : Hp} {o k : Nat} {x : Nat} {q : Nat × Nat} : cel G (hw h o k x) o (.inl q) = .inl (if q.1 = 0 then G.2.1.1 else G.2.1.2.1, q.2, .inl (upd (fun j => nI (h o j)) k (nI x))) := by
  have e : (fun j => nI (hw h o k x o j)) = upd (fun j => nI (h o j)) k (nI x) := by
    funext j
    by_cases hj : j = k <;> simp [hw, upd, hj]
  simp only [cel, e]
theorem cel_hwO {G : Gx} {h : Hp} {o k c : Nat} {x : Nat} {fs : List (Option Nat)} (hk : fs[k]? = some none) : cel G (hw h o k x) o (.inr (.inr (c, fs))) = .inr (c, (fs.mapIdx (fvv G h o)).set k (.int (nI x))) := by
  simp only [cel]
  congr 2
  apply List.ext_getElem?
  intro i
  have hl : k < fs.length := (List.getElem?_eq_some_iff.mp hk).1
  rw [List.getElem?_set]
  by_cases hi : k = i
  · subst hi
    rw [if_pos rfl, if_pos (by simpa using hl)]
    simp only [List.getElem?_mapIdx, hk, Option.map_some, fvv, hw, and_self, if_true]
  · rw [if_neg hi]
    simp only [List.getElem?_mapIdx]
    cases fs[i]? with
    | none => rfl
    | some f =>
      have hne : ¬ i = k := fun e => hi e.symm
      cases f <;> simp [fvv, hw, hne]
/-! a method: its name, bytes, locals, return type -/
abbrev MI : Type := MethodName × ByteArray × Nat × Option FieldType
def bigW : List Cond := lw_tbl.filter goodWord
def isNest : Cond → Bool
  | .methodLinkNest .. => true
  | _ => false
def nestW : List Cond := lw_tbl.filter isNest
def mW (M : MI) : List Cond := .code M.1 M.2.1 M.2.2.1 M.2.2.2 :: bigW
def rmD (d : Nat) : Room := { frames := d, cells := 0, slots := 0, locals := 36 * d }
def CX (M : MI) (p : Program) (s : State) (m : MethodId) (args : Array Value) (meth : Method) (c : Code) : Prop :=
  p.tables.exec = Jvm.exec ∧ c.code = M.2.1 ∧ meth.sig.returnType = M.2.2.2 ∧ c.maxLocals = M.2.2.1 ∧ s.vm.findClass M.1.cls = some m.cls ∧ (∀ w ∈ mW M, w.before args s = true) ∧ (∀ w ∈ nestW, va_Nw w s) ∧ meth.locks = false
def tysG (G : Gx) : List (ClassId × FieldType) := [(G.2.1.1, .int), (G.2.1.2.1, .char), (G.2.1.2.2, .object RX4)]
def WD (G : Gx) (h : Hp) (s : State) (H : Heap) (locs : List Loc) : Prop :=
  va_K G.1 vwCl (tysG G) s ∧ va_P G.1 vwCl (wl G h) H ∧ va_D (gA G) (wl G h) ∧ va_S (gA G) s.heap H locs ∧ (∀ q : Nat, s.heap.size ≤ q → gA G q)
def prs (ad : Nat → Nat) (lv : List (Option Value)) : List (Nat × Value) := (List.range lv.length).filterMap (fun i => match lv[i]? with
  | some (some v) => some (i, cv ad v)
  | _ => none)
def LV (G : Gx) (n : Nat) (ls : Array Slot) (lv : List (Option Value)) : Prop := lv.length = n ∧ lv_has ls n (prs (ga G) lv)
theorem prs_mem {ad : Nat → Nat} {lv : List (Option Value)} {i : Nat} {w : Value} : (i, w) ∈ prs ad lv ↔ ∃ v, lv[i]? = some (some v) ∧ w = cv ad v := by
  unfold prs
  rw [List.mem_filterMap]
  constructor
  · rintro ⟨a, -, h⟩
    cases hh : lv[a]? with
    | none => rw [hh] at h; cases h
    | some o =>
      cases o with
      | none => rw [hh] at h; cases h
      | some v =>
        rw [hh] at h
        simp only [Option.some.injEq, Prod.mk.injEq] at h
        obtain ⟨rfl, rfl⟩ := h
        exact ⟨v, hh, rfl⟩
  · rintro ⟨v, h, rfl⟩
    exact ⟨i, List.mem_range.mpr (List.getElem?_eq_some_iff.mp h).1, by rw [h]⟩
theorem LV.at {G : Gx} {n : Nat} {ls : Array Slot} {lv : List (Option Value)} {i : Nat} {v : Value} (h : LV G n ls lv) (hv : lv[i]? = some (some v)) : ls[i]? = some (.val (cv (ga G) v)) :=
  h.2.2.2 (i, cv (ga G) v) (prs_mem.mpr ⟨v, hv, rfl⟩)
def nolong (lv : List (Option Value)) (i : Nat) : Bool := match i with
  | 0 => true
  | i + 1 => match lv[i]? with
    | some (some (.long _)) => false
    | some (some (.double _)) => false
    | _ => true
theorem cv_cat (ad : Nat → Nat) (v : Value) : (cv ad v).category = v.category := by cases v <;> rfl
theorem nolong_cat {lv : List (Option Value)} {i : Nat} {v : Value} (h : nolong lv (i + 1) = true) (hv : lv[i]? = some (some v)) : v.category = 1 := by
  simp only [nolong, hv] at h
  cases v <;> first | rfl | simp at h
theorem LV.set1 {G : Gx} {n : Nat} {ls ls' : Array Slot} {lv : List (Option Value)} {i : Nat} {v : Value} (h : LV G n ls lv) (hn : nolong lv i = true)
    (h' : lv_has ls' n ((i, cv (ga G) v) :: (prs (ga G) lv).filter (fun q => !(q.1 == i) && !(q.1 + 1 == i && q.2.category == 2)))) : LV G n ls' (lv.set i (some v)) := by
  refine ⟨by rw [List.length_set]; exact h.1, h'.1, h'.2.1, ?_⟩
  rintro ⟨j, w⟩ hq
  obtain ⟨x, hx, rfl⟩ := prs_mem.mp hq
  refine h'.2.2 _ ?_
  rw [List.getElem?_set] at hx
  by_cases hj : i = j
  · subst hj
    rw [if_pos rfl] at hx
    by_cases hl : i < lv.length
    · rw [if_pos hl] at hx
      cases hx
      exact List.mem_cons_self
    · rw [if_neg hl] at hx; cases hx
  · rw [if_neg hj] at hx
    refine List.mem_cons_of_mem _ (List.mem_filter.mpr ⟨prs_mem.mpr ⟨x, hx, rfl⟩, ?_⟩)
    have h1 : (j == i) = false := by simpa using fun e => hj e.symm
    simp only [h1, Bool.not_false, Bool.true_and, Bool.not_eq_true', Bool.and_eq_false_imp]
    intro h2
    have h2 : j + 1 = i := by simpa using h2
    subst h2
    rw [cv_cat, nolong_cat hn hx]
    rfl
theorem LV.set2 {G : Gx} {n : Nat} {ls ls' : Array Slot} {lv : List (Option Value)} {i : Nat} {v : Value} (h : LV G n ls lv) (hn : nolong lv i = true)
    (h' : lv_has ls' n ((i, cv (ga G) v) :: (prs (ga G) lv).filter (fun q => !(q.1 == i) && (!(q.1 == i + 1) && !(q.1 + 1 == i && q.2.category == 2))))) : LV G n ls' ((lv.set (i + 1) none).set i (some v)) := by
  refine ⟨by simp only [List.length_set]; exact h.1, h'.1, h'.2.1, ?_⟩
  rintro ⟨j, w⟩ hq
  obtain ⟨x, hx, rfl⟩ := prs_mem.mp hq
  refine h'.2.2 _ ?_
  rw [List.getElem?_set] at hx
  by_cases hj : i = j
  · subst hj
    rw [if_pos rfl] at hx
    by_cases hl : i < (lv.set (i + 1) none).length
    · rw [if_pos hl] at hx
      cases hx
      exact List.mem_cons_self
    · rw [if_neg hl] at hx; cases hx
  · rw [if_neg hj, List.getElem?_set] at hx
    by_cases hj2 : i + 1 = j
    · rw [if_pos hj2] at hx
      split at hx <;> cases hx
    · rw [if_neg hj2] at hx
      refine List.mem_cons_of_mem _ (List.mem_filter.mpr ⟨prs_mem.mpr ⟨x, hx, rfl⟩, ?_⟩)
      have h1 : (j == i) = false := by simpa using fun e => hj e.symm
      have h1' : (j == i + 1) = false := by simpa using fun e => hj2 e.symm
      simp only [h1, h1', Bool.not_false, Bool.true_and, Bool.not_eq_true', Bool.and_eq_false_imp]
      intro h2
      have h2 : j + 1 = i := by simpa using h2
      subst h2
      rw [cv_cat, nolong_cat hn hx]
      rfl
/-! the judgement: from pc, with locals lv, stack st, world h, the method returns with Q -/
def Qo (G : Gx) (Q : Option Value → Hp → Prop) : Array Value → State → Outcome → State → Prop := fun _ st o t =>
  ∃ (v : Option Value) (h : Hp), o = .returned (v.map (cv (ga G))) ∧ Q v h ∧ va_P G.1 vwCl (wl G h) t.heap ∧ va_D (gA G) (wl G h) ∧ va_F (gA G) st t
def AW (M : MI) (d pc : Nat) (lv : List (Option Value)) (st : List Value) (h : Hp) (Q : Option Value → Hp → Prop) : Prop :=
  ∀ (p : Program) (l : Launch) (e : Env) (s : State) (m : MethodId) (args : Array Value) (below : List Frame) (meth : Method) (c : Code) (G : Gx) (H : Heap) (locs : List Loc) (ls : Array Slot),
    CX M p s m args meth c → WD G h s H locs → LV G M.2.2.1 ls lv →
    W p l e (rmD d) s m args below meth c H locs 0 0 (MQ below (Qo G Q) args s 0 0 (gA G)) (F0 m pc ls (st.map (cv (ga G))))
def lv0 (n : Nat) (as : List Value) : List (Option Value) := as.map some ++ List.replicate (n - as.length) none
/-- a method called with these arguments in this world returns with Q -/
def RT (M : MI) (d : Nat) (as : List Value) (h : Hp) (Q : Option Value → Hp → Prop) : Prop := AW M d 0 (lv0 M.2.2.1 as) [] h Q
end
section
section AWR
variable {M : MI} {d pc : Nat} {lv : List (Option Value)} {st : List Value} {h : Hp} {Q : Option Value → Hp → Prop}
theorem aw_iconst {n : Int} {v : Int32} (hd : decode M.2.1 pc = .ok (.iconst n, 1)) (hv : Int32.ofInt n = v) (kk : AW M d (pc + 1) lv (.int v :: st) h Q) : AW M d (pc) lv (st) h Q := by
  intro p l e s m args below meth c G H locs ls hc hwd hl
  obtain ⟨hx, hb, hr, hml, hown, hts, hns, hlk⟩ := id hc
  exact lv_iconst hx hb hd hv (kk p l e s m args below meth c G H locs ls hc hwd hl)
theorem aw_bipush {n : Int} {v : Int32} (hd : decode M.2.1 pc = .ok (.bipush n, 2)) (hv : (Int8.ofInt n).toInt32 = v) (kk : AW M d (pc + 2) lv (.int v :: st) h Q) : AW M d (pc) lv (st) h Q := by
  intro p l e s m args below meth c G H locs ls hc hwd hl
  obtain ⟨hx, hb, hr, hml, hown, hts, hns, hlk⟩ := id hc
  exact lv_bipush hx hb hd hv (kk p l e s m args below meth c G H locs ls hc hwd hl)
theorem aw_sipush {n : Int} {v : Int32} (hd : decode M.2.1 pc = .ok (.sipush n, 3)) (hv : (Int16.ofInt n).toInt32 = v) (kk : AW M d (pc + 3) lv (.int v :: st) h Q) : AW M d (pc) lv (st) h Q := by
  intro p l e s m args below meth c G H locs ls hc hwd hl
  obtain ⟨hx, hb, hr, hml, hown, hts, hns, hlk⟩ := id hc
  exact lv_sipush hx hb hd hv (kk p l e s m args below meth c G H locs ls hc hwd hl)
theorem aw_lconst {n : Fin 2} {v : Int64} (hd : decode M.2.1 pc = .ok (.lconst n, 1)) (hv : Int64.ofNat (n : Nat) = v) (kk : AW M d (pc + 1) lv (.long v :: st) h Q) : AW M d (pc) lv (st) h Q := by
  intro p l e s m args below meth c G H locs ls hc hwd hl
  obtain ⟨hx, hb, hr, hml, hown, hts, hns, hlk⟩ := id hc
  exact lv_lconst hx hb hd hv (kk p l e s m args below meth c G H locs ls hc hwd hl)
theorem aw_null (hd : decode M.2.1 pc = .ok (.aconst_null, 1)) (kk : AW M d (pc + 1) lv (.null :: st) h Q) : AW M d (pc) lv (st) h Q := by
  intro p l e s m args below meth c G H locs ls hc hwd hl
  obtain ⟨hx, hb, hr, hml, hown, hts, hns, hlk⟩ := id hc
  exact lv_null hx hb hd (kk p l e s m args below meth c G H locs ls hc hwd hl)
theorem aw_iload_n {k : Fin 4} {i : Nat} {x : Int32} (hd : decode M.2.1 pc = .ok (.iload_n k, 1)) (hi : (k : Nat) = i) (hv : lv[i]? = some (some (.int x))) (kk : AW M d (pc + 1) lv (.int x :: st) h Q) : AW M d (pc) lv (st) h Q := by
  intro p l e s m args below meth c G H locs ls hc hwd hl
  obtain ⟨hx, hb, hr, hml, hown, hts, hns, hlk⟩ := id hc
  exact lv_iload_n hx hb hd hi (hl.at hv) (kk p l e s m args below meth c G H locs ls hc hwd hl)
theorem aw_iload {i : Nat} {x : Int32} (hd : decode M.2.1 pc = .ok (.iload i, 2)) (hv : lv[i]? = some (some (.int x))) (kk : AW M d (pc + 2) lv (.int x :: st) h Q) : AW M d (pc) lv (st) h Q := by
  intro p l e s m args below meth c G H locs ls hc hwd hl
  obtain ⟨hx, hb, hr, hml, hown, hts, hns, hlk⟩ := id hc
  exact lv_iload hx hb hd (hl.at hv) (kk p l e s m args below meth c G H locs ls hc hwd hl)
theorem aw_lload_n {k : Fin 4} {i : Nat} {x : Int64} (hd : decode M.2.1 pc = .ok (.lload_n k, 1)) (hi : (k : Nat) = i) (hv : lv[i]? = some (some (.long x))) (kk : AW M d (pc + 1) lv (.long x :: st) h Q) : AW M d (pc) lv (st) h Q := by
  intro p l e s m args below meth c G H locs ls hc hwd hl
  obtain ⟨hx, hb, hr, hml, hown, hts, hns, hlk⟩ := id hc
  exact lv_lload_n hx hb hd hi (hl.at hv) (kk p l e s m args below meth c G H locs ls hc hwd hl)
theorem aw_lload {i : Nat} {x : Int64} (hd : decode M.2.1 pc = .ok (.lload i, 2)) (hv : lv[i]? = some (some (.long x))) (kk : AW M d (pc + 2) lv (.long x :: st) h Q) : AW M d (pc) lv (st) h Q := by
  intro p l e s m args below meth c G H locs ls hc hwd hl
  obtain ⟨hx, hb, hr, hml, hown, hts, hns, hlk⟩ := id hc
  exact lv_lload hx hb hd (hl.at hv) (kk p l e s m args below meth c G H locs ls hc hwd hl)
theorem aw_aload_n {k : Fin 4} {i : Nat} {x : Nat} (hd : decode M.2.1 pc = .ok (.aload_n k, 1)) (hi : (k : Nat) = i) (hv : lv[i]? = some (some (.ref x))) (kk : AW M d (pc + 1) lv (.ref x :: st) h Q) : AW M d (pc) lv (st) h Q := by
  intro p l e s m args below meth c G H locs ls hc hwd hl
  obtain ⟨hx, hb, hr, hml, hown, hts, hns, hlk⟩ := id hc
  exact lv_aload_n hx hb hd hi (hl.at hv) (kk p l e s m args below meth c G H locs ls hc hwd hl)
theorem aw_aload {i : Nat} {x : Nat} (hd : decode M.2.1 pc = .ok (.aload i, 2)) (hv : lv[i]? = some (some (.ref x))) (kk : AW M d (pc + 2) lv (.ref x :: st) h Q) : AW M d (pc) lv (st) h Q := by
  intro p l e s m args below meth c G H locs ls hc hwd hl
  obtain ⟨hx, hb, hr, hml, hown, hts, hns, hlk⟩ := id hc
  exact lv_aload hx hb hd (hl.at hv) (kk p l e s m args below meth c G H locs ls hc hwd hl)
theorem aw_aload_nN {k : Fin 4} {i : Nat} (hd : decode M.2.1 pc = .ok (.aload_n k, 1)) (hi : (k : Nat) = i) (hv : lv[i]? = some (some .null)) (kk : AW M d (pc + 1) lv (.null :: st) h Q) : AW M d (pc) lv (st) h Q := by
  intro p l e s m args below meth c G H locs ls hc hwd hl
  obtain ⟨hx, hb, hr, hml, hown, hts, hns, hlk⟩ := id hc
  exact lv_aload_nN hx hb hd hi (hl.at hv) (kk p l e s m args below meth c G H locs ls hc hwd hl)
theorem aw_istore_n {k : Fin 4} {i : Nat} {x : Int32} (hd : decode M.2.1 pc = .ok (.istore_n k, 1)) (hi : (k : Nat) = i) (hn : i < lv.length) (hg : nolong lv i = true) (kk : AW M d (pc + 1) (lv.set i (some (.int x))) (st) h Q) : AW M d (pc) lv (.int x :: st) h Q := by
  intro p l e s m args below meth c G H locs ls hc hwd hl
  obtain ⟨hx, hb, hr, hml, hown, hts, hns, hlk⟩ := id hc
  exact lv_istore_n hx hb hd hi hl.2 (by rw [← hl.1]; exact hn) rfl (fun ls' hl' => kk p l e s m args below meth c G H locs ls' hc hwd (hl.set1 (v := .int x) hg hl'))
theorem aw_istore {i : Nat} {x : Int32} (hd : decode M.2.1 pc = .ok (.istore i, 2)) (hn : i < lv.length) (hg : nolong lv i = true) (kk : AW M d (pc + 2) (lv.set i (some (.int x))) (st) h Q) : AW M d (pc) lv (.int x :: st) h Q := by
  intro p l e s m args below meth c G H locs ls hc hwd hl
  obtain ⟨hx, hb, hr, hml, hown, hts, hns, hlk⟩ := id hc
  exact lv_istore hx hb hd hl.2 (by rw [← hl.1]; exact hn) rfl (fun ls' hl' => kk p l e s m args below meth c G H locs ls' hc hwd (hl.set1 (v := .int x) hg hl'))
theorem aw_astore_n {k : Fin 4} {i : Nat} {x : Nat} (hd : decode M.2.1 pc = .ok (.astore_n k, 1)) (hi : (k : Nat) = i) (hn : i < lv.length) (hg : nolong lv i = true) (kk : AW M d (pc + 1) (lv.set i (some (.ref x))) (st) h Q) : AW M d (pc) lv (.ref x :: st) h Q := by
  intro p l e s m args below meth c G H locs ls hc hwd hl
  obtain ⟨hx, hb, hr, hml, hown, hts, hns, hlk⟩ := id hc
  exact lv_astore_n hx hb hd hi hl.2 (by rw [← hl.1]; exact hn) rfl (fun ls' hl' => kk p l e s m args below meth c G H locs ls' hc hwd (hl.set1 (v := .ref x) hg hl'))
theorem aw_astore {i : Nat} {x : Nat} (hd : decode M.2.1 pc = .ok (.astore i, 2)) (hn : i < lv.length) (hg : nolong lv i = true) (kk : AW M d (pc + 2) (lv.set i (some (.ref x))) (st) h Q) : AW M d (pc) lv (.ref x :: st) h Q := by
  intro p l e s m args below meth c G H locs ls hc hwd hl
  obtain ⟨hx, hb, hr, hml, hown, hts, hns, hlk⟩ := id hc
  exact lv_astore hx hb hd hl.2 (by rw [← hl.1]; exact hn) rfl (fun ls' hl' => kk p l e s m args below meth c G H locs ls' hc hwd (hl.set1 (v := .ref x) hg hl'))
theorem aw_astore_nN {k : Fin 4} {i : Nat} (hd : decode M.2.1 pc = .ok (.astore_n k, 1)) (hi : (k : Nat) = i) (hn : i < lv.length) (hg : nolong lv i = true) (kk : AW M d (pc + 1) (lv.set i (some .null)) (st) h Q) : AW M d (pc) lv (.null :: st) h Q := by
  intro p l e s m args below meth c G H locs ls hc hwd hl
  obtain ⟨hx, hb, hr, hml, hown, hts, hns, hlk⟩ := id hc
  exact lv_astore_nN hx hb hd hi hl.2 (by rw [← hl.1]; exact hn) rfl (fun ls' hl' => kk p l e s m args below meth c G H locs ls' hc hwd (hl.set1 (v := .null) hg hl'))
theorem aw_lstore_n {k : Fin 4} {i : Nat} {x : Int64} (hd : decode M.2.1 pc = .ok (.lstore_n k, 1)) (hi : (k : Nat) = i) (hn : i + 1 < lv.length) (hg : nolong lv i = true) (kk : AW M d (pc + 1) ((lv.set (i + 1) none).set i (some (.long x))) (st) h Q) : AW M d (pc) lv (.long x :: st) h Q := by
  intro p l e s m args below meth c G H locs ls hc hwd hl
  obtain ⟨hx, hb, hr, hml, hown, hts, hns, hlk⟩ := id hc
  exact lv_lstore_n hx hb hd hi hl.2 (by rw [← hl.1]; exact hn) rfl (fun ls' hl' => kk p l e s m args below meth c G H locs ls' hc hwd (hl.set2 (v := .long x) hg hl'))
theorem aw_lstore {i : Nat} {x : Int64} (hd : decode M.2.1 pc = .ok (.lstore i, 2)) (hn : i + 1 < lv.length) (hg : nolong lv i = true) (kk : AW M d (pc + 2) ((lv.set (i + 1) none).set i (some (.long x))) (st) h Q) : AW M d (pc) lv (.long x :: st) h Q := by
  intro p l e s m args below meth c G H locs ls hc hwd hl
  obtain ⟨hx, hb, hr, hml, hown, hts, hns, hlk⟩ := id hc
  exact lv_lstore hx hb hd hl.2 (by rw [← hl.1]; exact hn) rfl (fun ls' hl' => kk p l e s m args below meth c G H locs ls' hc hwd (hl.set2 (v := .long x) hg hl'))
theorem aw_iinc {i : Nat} {n : Int} {x v : Int32} (hd : decode M.2.1 pc = .ok (.iinc i n, 3)) (hv : lv[i]? = some (some (.int x))) (hs : x + Int32.ofInt n = v) (hg : nolong lv i = true) (kk : AW M d (pc + 3) (lv.set i (some (.int v))) (st) h Q) : AW M d (pc) lv (st) h Q := by
  intro p l e s m args below meth c G H locs ls hc hwd hl
  obtain ⟨hx, hb, hr, hml, hown, hts, hns, hlk⟩ := id hc
  have hm : (i, Value.int x) ∈ prs (ga G) lv := prs_mem.mpr ⟨_, hv, rfl⟩
  obtain ⟨k, hk⟩ := List.getElem?_of_mem hm
  exact lv_iinc hx hb hd hl.2 hk hs (by rw [← hl.1]; exact (List.getElem?_eq_some_iff.mp hv).1) rfl (fun ls' hl' => kk p l e s m args below meth c G H locs ls' hc hwd (hl.set1 (v := .int v) hg hl'))
theorem aw_iadd {x y : Int32} (hd : decode M.2.1 pc = .ok (.iadd, 1)) (kk : AW M d (pc + 1) lv (.int (x + y) :: st) h Q) : AW M d (pc) lv (.int y :: .int x :: st) h Q := by
  intro p l e s m args below meth c G H locs ls hc hwd hl
  obtain ⟨hx, hb, hr, hml, hown, hts, hns, hlk⟩ := id hc
  exact lv_iadd hx hb hd (kk p l e s m args below meth c G H locs ls hc hwd hl)
theorem aw_isub {x y : Int32} (hd : decode M.2.1 pc = .ok (.isub, 1)) (kk : AW M d (pc + 1) lv (.int (x - y) :: st) h Q) : AW M d (pc) lv (.int y :: .int x :: st) h Q := by
  intro p l e s m args below meth c G H locs ls hc hwd hl
  obtain ⟨hx, hb, hr, hml, hown, hts, hns, hlk⟩ := id hc
  exact lv_isub hx hb hd (kk p l e s m args below meth c G H locs ls hc hwd hl)
theorem aw_imul {x y : Int32} (hd : decode M.2.1 pc = .ok (.imul, 1)) (kk : AW M d (pc + 1) lv (.int (x * y) :: st) h Q) : AW M d (pc) lv (.int y :: .int x :: st) h Q := by
  intro p l e s m args below meth c G H locs ls hc hwd hl
  obtain ⟨hx, hb, hr, hml, hown, hts, hns, hlk⟩ := id hc
  exact lv_imul hx hb hd (kk p l e s m args below meth c G H locs ls hc hwd hl)
theorem aw_iand {x y : Int32} (hd : decode M.2.1 pc = .ok (.iand, 1)) (kk : AW M d (pc + 1) lv (.int (x &&& y) :: st) h Q) : AW M d (pc) lv (.int y :: .int x :: st) h Q := by
  intro p l e s m args below meth c G H locs ls hc hwd hl
  obtain ⟨hx, hb, hr, hml, hown, hts, hns, hlk⟩ := id hc
  exact lv_iand hx hb hd (kk p l e s m args below meth c G H locs ls hc hwd hl)
theorem aw_ior {x y : Int32} (hd : decode M.2.1 pc = .ok (.ior, 1)) (kk : AW M d (pc + 1) lv (.int (x ||| y) :: st) h Q) : AW M d (pc) lv (.int y :: .int x :: st) h Q := by
  intro p l e s m args below meth c G H locs ls hc hwd hl
  obtain ⟨hx, hb, hr, hml, hown, hts, hns, hlk⟩ := id hc
  exact lv_ior hx hb hd (kk p l e s m args below meth c G H locs ls hc hwd hl)
theorem aw_ixor {x y : Int32} (hd : decode M.2.1 pc = .ok (.ixor, 1)) (kk : AW M d (pc + 1) lv (.int (x ^^^ y) :: st) h Q) : AW M d (pc) lv (.int y :: .int x :: st) h Q := by
  intro p l e s m args below meth c G H locs ls hc hwd hl
  obtain ⟨hx, hb, hr, hml, hown, hts, hns, hlk⟩ := id hc
  exact lv_ixor hx hb hd (kk p l e s m args below meth c G H locs ls hc hwd hl)
theorem aw_ishl {x y : Int32} (hd : decode M.2.1 pc = .ok (.ishl, 1)) (kk : AW M d (pc + 1) lv (.int (x <<< (y &&& 31)) :: st) h Q) : AW M d (pc) lv (.int y :: .int x :: st) h Q := by
  intro p l e s m args below meth c G H locs ls hc hwd hl
  obtain ⟨hx, hb, hr, hml, hown, hts, hns, hlk⟩ := id hc
  exact lv_ishl hx hb hd (kk p l e s m args below meth c G H locs ls hc hwd hl)
theorem aw_ishr {x y : Int32} (hd : decode M.2.1 pc = .ok (.ishr, 1)) (kk : AW M d (pc + 1) lv (.int (x >>> (y &&& 31)) :: st) h Q) : AW M d (pc) lv (.int y :: .int x :: st) h Q := by
  intro p l e s m args below meth c G H locs ls hc hwd hl
  obtain ⟨hx, hb, hr, hml, hown, hts, hns, hlk⟩ := id hc
  exact lv_ishr hx hb hd (kk p l e s m args below meth c G H locs ls hc hwd hl)
theorem aw_idiv {x y : Int32} (hd : decode M.2.1 pc = .ok (.idiv, 1)) (hne : ¬ y = 0) (kk : AW M d (pc + 1) lv (.int (x / y) :: st) h Q) : AW M d (pc) lv (.int y :: .int x :: st) h Q := by
  intro p l e s m args below meth c G H locs ls hc hwd hl
  obtain ⟨hx, hb, hr, hml, hown, hts, hns, hlk⟩ := id hc
  exact lv_idiv hx hb hd hne (kk p l e s m args below meth c G H locs ls hc hwd hl)
theorem aw_irem {x y : Int32} (hd : decode M.2.1 pc = .ok (.irem, 1)) (hne : ¬ y = 0) (kk : AW M d (pc + 1) lv (.int (x - x / y * y) :: st) h Q) : AW M d (pc) lv (.int y :: .int x :: st) h Q := by
  intro p l e s m args below meth c G H locs ls hc hwd hl
  obtain ⟨hx, hb, hr, hml, hown, hts, hns, hlk⟩ := id hc
  exact lv_irem hx hb hd hne (kk p l e s m args below meth c G H locs ls hc hwd hl)
theorem aw_ladd {x y : Int64} (hd : decode M.2.1 pc = .ok (.ladd, 1)) (kk : AW M d (pc + 1) lv (.long (x + y) :: st) h Q) : AW M d (pc) lv (.long y :: .long x :: st) h Q := by
  intro p l e s m args below meth c G H locs ls hc hwd hl
  obtain ⟨hx, hb, hr, hml, hown, hts, hns, hlk⟩ := id hc
  exact lv_ladd hx hb hd (kk p l e s m args below meth c G H locs ls hc hwd hl)
theorem aw_lmul {x y : Int64} (hd : decode M.2.1 pc = .ok (.lmul, 1)) (kk : AW M d (pc + 1) lv (.long (x * y) :: st) h Q) : AW M d (pc) lv (.long y :: .long x :: st) h Q := by
  intro p l e s m args below meth c G H locs ls hc hwd hl
  obtain ⟨hx, hb, hr, hml, hown, hts, hns, hlk⟩ := id hc
  exact lv_lmul hx hb hd (kk p l e s m args below meth c G H locs ls hc hwd hl)
theorem aw_ldiv {x y : Int64} (hd : decode M.2.1 pc = .ok (.ldiv, 1)) (hne : ¬ y = 0) (kk : AW M d (pc + 1) lv (.long (x / y) :: st) h Q) : AW M d (pc) lv (.long y :: .long x :: st) h Q := by
  intro p l e s m args below meth c G H locs ls hc hwd hl
  obtain ⟨hx, hb, hr, hml, hown, hts, hns, hlk⟩ := id hc
  exact lv_ldiv hx hb hd hne (kk p l e s m args below meth c G H locs ls hc hwd hl)
theorem aw_lrem {x y : Int64} (hd : decode M.2.1 pc = .ok (.lrem, 1)) (hne : ¬ y = 0) (kk : AW M d (pc + 1) lv (.long (x - x / y * y) :: st) h Q) : AW M d (pc) lv (.long y :: .long x :: st) h Q := by
  intro p l e s m args below meth c G H locs ls hc hwd hl
  obtain ⟨hx, hb, hr, hml, hown, hts, hns, hlk⟩ := id hc
  exact lv_lrem hx hb hd hne (kk p l e s m args below meth c G H locs ls hc hwd hl)
theorem aw_i2l {x : Int32} (hd : decode M.2.1 pc = .ok (.i2l, 1)) (kk : AW M d (pc + 1) lv (.long x.toInt64 :: st) h Q) : AW M d (pc) lv (.int x :: st) h Q := by
  intro p l e s m args below meth c G H locs ls hc hwd hl
  obtain ⟨hx, hb, hr, hml, hown, hts, hns, hlk⟩ := id hc
  exact lv_i2l hx hb hd rfl (kk p l e s m args below meth c G H locs ls hc hwd hl)
theorem aw_l2i {x : Int64} (hd : decode M.2.1 pc = .ok (.l2i, 1)) (kk : AW M d (pc + 1) lv (.int x.toInt32 :: st) h Q) : AW M d (pc) lv (.long x :: st) h Q := by
  intro p l e s m args below meth c G H locs ls hc hwd hl
  obtain ⟨hx, hb, hr, hml, hown, hts, hns, hlk⟩ := id hc
  exact lv_l2i hx hb hd rfl (kk p l e s m args below meth c G H locs ls hc hwd hl)
theorem aw_i2c {x v : Int32} (hd : decode M.2.1 pc = .ok (.i2c, 1)) (hv : (x.toUInt32 % 65536).toInt32 = v) (kk : AW M d (pc + 1) lv (.int v :: st) h Q) : AW M d (pc) lv (.int x :: st) h Q := by
  intro p l e s m args below meth c G H locs ls hc hwd hl
  obtain ⟨hx, hb, hr, hml, hown, hts, hns, hlk⟩ := id hc
  exact lv_i2c hx hb hd hv (kk p l e s m args below meth c G H locs ls hc hwd hl)
theorem aw_dup {v : Value} (hd : decode M.2.1 pc = .ok (.dup, 1)) (hv : v.category = 1) (kk : AW M d (pc + 1) lv (v :: v :: st) h Q) : AW M d (pc) lv (v :: st) h Q := by
  intro p l e s m args below meth c G H locs ls hc hwd hl
  obtain ⟨hx, hb, hr, hml, hown, hts, hns, hlk⟩ := id hc
  exact lv_dup hx hb hd (by rw [cv_cat]; exact hv) (kk p l e s m args below meth c G H locs ls hc hwd hl)
theorem aw_pop {v : Value} (hd : decode M.2.1 pc = .ok (.pop, 1)) (hv : v.category = 1) (kk : AW M d (pc + 1) lv (st) h Q) : AW M d (pc) lv (v :: st) h Q := by
  intro p l e s m args below meth c G H locs ls hc hwd hl
  obtain ⟨hx, hb, hr, hml, hown, hts, hns, hlk⟩ := id hc
  exact lv_pop hx hb hd (by rw [cv_cat]; exact hv) (kk p l e s m args below meth c G H locs ls hc hwd hl)
theorem aw_dup2 {v w : Value} (hd : decode M.2.1 pc = .ok (.dup2, 1)) (hv : v.category = 1) (hw1 : w.category = 1) (kk : AW M d (pc + 1) lv (v :: w :: v :: w :: st) h Q) : AW M d (pc) lv (v :: w :: st) h Q := by
  intro p l e s m args below meth c G H locs ls hc hwd hl
  obtain ⟨hx, hb, hr, hml, hown, hts, hns, hlk⟩ := id hc
  exact lv_dup2_11 hx hb hd (by rw [cv_cat]; exact hv) (by rw [cv_cat]; exact hw1) (kk p l e s m args below meth c G H locs ls hc hwd hl)
theorem aw_topi {x : Int32} (kk : ∀ y : Int32, y = x → AW M d (pc) lv (.int y :: st) h Q) : AW M d (pc) lv (.int x :: st) h Q := by
  intro p l e s m args below meth c G H locs ls hc hwd hl
  obtain ⟨hx, hb, hr, hml, hown, hts, hns, hlk⟩ := id hc
  exact kk x rfl p l e s m args below meth c G H locs ls hc hwd hl
theorem aw_if_eq {x : Int32} {off : Int} {tgt : Nat} (hd : decode M.2.1 pc = .ok (.ifCond .eq off, 3)) (ht : (pc : Int) + off = (tgt : Int)) (kt : x = 0 → AW M d (tgt) lv (st) h Q) (kf : ¬ x = 0 → AW M d (pc + 3) lv (st) h Q) : AW M d (pc) lv (.int x :: st) h Q := by
  intro p l e s m args below meth c G H locs ls hc hwd hl
  obtain ⟨hx, hb, hr, hml, hown, hts, hns, hlk⟩ := id hc
  exact lv_if_eq hx hb hd ht (fun q => kt q p l e s m args below meth c G H locs ls hc hwd hl) (fun q => kf q p l e s m args below meth c G H locs ls hc hwd hl)
theorem aw_icmp_eq {x y : Int32} {off : Int} {tgt : Nat} (hd : decode M.2.1 pc = .ok (.if_icmp .eq off, 3)) (ht : (pc : Int) + off = (tgt : Int)) (kt : x = y → AW M d (tgt) lv (st) h Q) (kf : ¬ x = y → AW M d (pc + 3) lv (st) h Q) : AW M d (pc) lv (.int y :: .int x :: st) h Q := by
  intro p l e s m args below meth c G H locs ls hc hwd hl
  obtain ⟨hx, hb, hr, hml, hown, hts, hns, hlk⟩ := id hc
  exact lv_icmp_eq hx hb hd ht (fun q => kt q p l e s m args below meth c G H locs ls hc hwd hl) (fun q => kf q p l e s m args below meth c G H locs ls hc hwd hl)
theorem aw_if_ne {x : Int32} {off : Int} {tgt : Nat} (hd : decode M.2.1 pc = .ok (.ifCond .ne off, 3)) (ht : (pc : Int) + off = (tgt : Int)) (kt : ¬ x = 0 → AW M d (tgt) lv (st) h Q) (kf : x = 0 → AW M d (pc + 3) lv (st) h Q) : AW M d (pc) lv (.int x :: st) h Q := by
  intro p l e s m args below meth c G H locs ls hc hwd hl
  obtain ⟨hx, hb, hr, hml, hown, hts, hns, hlk⟩ := id hc
  exact lv_if_ne hx hb hd ht (fun q => kt q p l e s m args below meth c G H locs ls hc hwd hl) (fun q => kf q p l e s m args below meth c G H locs ls hc hwd hl)
theorem aw_icmp_ne {x y : Int32} {off : Int} {tgt : Nat} (hd : decode M.2.1 pc = .ok (.if_icmp .ne off, 3)) (ht : (pc : Int) + off = (tgt : Int)) (kt : ¬ x = y → AW M d (tgt) lv (st) h Q) (kf : x = y → AW M d (pc + 3) lv (st) h Q) : AW M d (pc) lv (.int y :: .int x :: st) h Q := by
  intro p l e s m args below meth c G H locs ls hc hwd hl
  obtain ⟨hx, hb, hr, hml, hown, hts, hns, hlk⟩ := id hc
  exact lv_icmp_ne hx hb hd ht (fun q => kt q p l e s m args below meth c G H locs ls hc hwd hl) (fun q => kf q p l e s m args below meth c G H locs ls hc hwd hl)
theorem aw_if_lt {x : Int32} {off : Int} {tgt : Nat} (hd : decode M.2.1 pc = .ok (.ifCond .lt off, 3)) (ht : (pc : Int) + off = (tgt : Int)) (kt : x < 0 → AW M d (tgt) lv (st) h Q) (kf : ¬ x < 0 → AW M d (pc + 3) lv (st) h Q) : AW M d (pc) lv (.int x :: st) h Q := by
  intro p l e s m args below meth c G H locs ls hc hwd hl
  obtain ⟨hx, hb, hr, hml, hown, hts, hns, hlk⟩ := id hc
  exact lv_if_lt hx hb hd ht (fun q => kt q p l e s m args below meth c G H locs ls hc hwd hl) (fun q => kf q p l e s m args below meth c G H locs ls hc hwd hl)
theorem aw_icmp_lt {x y : Int32} {off : Int} {tgt : Nat} (hd : decode M.2.1 pc = .ok (.if_icmp .lt off, 3)) (ht : (pc : Int) + off = (tgt : Int)) (kt : x < y → AW M d (tgt) lv (st) h Q) (kf : ¬ x < y → AW M d (pc + 3) lv (st) h Q) : AW M d (pc) lv (.int y :: .int x :: st) h Q := by
  intro p l e s m args below meth c G H locs ls hc hwd hl
  obtain ⟨hx, hb, hr, hml, hown, hts, hns, hlk⟩ := id hc
  exact lv_icmp_lt hx hb hd ht (fun q => kt q p l e s m args below meth c G H locs ls hc hwd hl) (fun q => kf q p l e s m args below meth c G H locs ls hc hwd hl)
theorem aw_if_ge {x : Int32} {off : Int} {tgt : Nat} (hd : decode M.2.1 pc = .ok (.ifCond .ge off, 3)) (ht : (pc : Int) + off = (tgt : Int)) (kt : 0 ≤ x → AW M d (tgt) lv (st) h Q) (kf : ¬ 0 ≤ x → AW M d (pc + 3) lv (st) h Q) : AW M d (pc) lv (.int x :: st) h Q := by
  intro p l e s m args below meth c G H locs ls hc hwd hl
  obtain ⟨hx, hb, hr, hml, hown, hts, hns, hlk⟩ := id hc
  exact lv_if_ge hx hb hd ht (fun q => kt q p l e s m args below meth c G H locs ls hc hwd hl) (fun q => kf q p l e s m args below meth c G H locs ls hc hwd hl)
theorem aw_icmp_ge {x y : Int32} {off : Int} {tgt : Nat} (hd : decode M.2.1 pc = .ok (.if_icmp .ge off, 3)) (ht : (pc : Int) + off = (tgt : Int)) (kt : y ≤ x → AW M d (tgt) lv (st) h Q) (kf : ¬ y ≤ x → AW M d (pc + 3) lv (st) h Q) : AW M d (pc) lv (.int y :: .int x :: st) h Q := by
  intro p l e s m args below meth c G H locs ls hc hwd hl
  obtain ⟨hx, hb, hr, hml, hown, hts, hns, hlk⟩ := id hc
  exact lv_icmp_ge hx hb hd ht (fun q => kt q p l e s m args below meth c G H locs ls hc hwd hl) (fun q => kf q p l e s m args below meth c G H locs ls hc hwd hl)
theorem aw_if_gt {x : Int32} {off : Int} {tgt : Nat} (hd : decode M.2.1 pc = .ok (.ifCond .gt off, 3)) (ht : (pc : Int) + off = (tgt : Int)) (kt : 0 < x → AW M d (tgt) lv (st) h Q) (kf : ¬ 0 < x → AW M d (pc + 3) lv (st) h Q) : AW M d (pc) lv (.int x :: st) h Q := by
  intro p l e s m args below meth c G H locs ls hc hwd hl
  obtain ⟨hx, hb, hr, hml, hown, hts, hns, hlk⟩ := id hc
  exact lv_if_gt hx hb hd ht (fun q => kt q p l e s m args below meth c G H locs ls hc hwd hl) (fun q => kf q p l e s m args below meth c G H locs ls hc hwd hl)
theorem aw_icmp_gt {x y : Int32} {off : Int} {tgt : Nat} (hd : decode M.2.1 pc = .ok (.if_icmp .gt off, 3)) (ht : (pc : Int) + off = (tgt : Int)) (kt : y < x → AW M d (tgt) lv (st) h Q) (kf : ¬ y < x → AW M d (pc + 3) lv (st) h Q) : AW M d (pc) lv (.int y :: .int x :: st) h Q := by
  intro p l e s m args below meth c G H locs ls hc hwd hl
  obtain ⟨hx, hb, hr, hml, hown, hts, hns, hlk⟩ := id hc
  exact lv_icmp_gt hx hb hd ht (fun q => kt q p l e s m args below meth c G H locs ls hc hwd hl) (fun q => kf q p l e s m args below meth c G H locs ls hc hwd hl)
theorem aw_if_le {x : Int32} {off : Int} {tgt : Nat} (hd : decode M.2.1 pc = .ok (.ifCond .le off, 3)) (ht : (pc : Int) + off = (tgt : Int)) (kt : x ≤ 0 → AW M d (tgt) lv (st) h Q) (kf : ¬ x ≤ 0 → AW M d (pc + 3) lv (st) h Q) : AW M d (pc) lv (.int x :: st) h Q := by
  intro p l e s m args below meth c G H locs ls hc hwd hl
  obtain ⟨hx, hb, hr, hml, hown, hts, hns, hlk⟩ := id hc
  exact lv_if_le hx hb hd ht (fun q => kt q p l e s m args below meth c G H locs ls hc hwd hl) (fun q => kf q p l e s m args below meth c G H locs ls hc hwd hl)
theorem aw_icmp_le {x y : Int32} {off : Int} {tgt : Nat} (hd : decode M.2.1 pc = .ok (.if_icmp .le off, 3)) (ht : (pc : Int) + off = (tgt : Int)) (kt : x ≤ y → AW M d (tgt) lv (st) h Q) (kf : ¬ x ≤ y → AW M d (pc + 3) lv (st) h Q) : AW M d (pc) lv (.int y :: .int x :: st) h Q := by
  intro p l e s m args below meth c G H locs ls hc hwd hl
  obtain ⟨hx, hb, hr, hml, hown, hts, hns, hlk⟩ := id hc
  exact lv_icmp_le hx hb hd ht (fun q => kt q p l e s m args below meth c G H locs ls hc hwd hl) (fun q => kf q p l e s m args below meth c G H locs ls hc hwd hl)
theorem aw_goto {off : Int} {tgt : Nat} (hd : decode M.2.1 pc = .ok (.goto off, 3)) (ht : (pc : Int) + off = (tgt : Int)) (kk : AW M d (tgt) lv (st) h Q) : AW M d (pc) lv (st) h Q := by
  intro p l e s m args below meth c G H locs ls hc hwd hl
  obtain ⟨hx, hb, hr, hml, hown, hts, hns, hlk⟩ := id hc
  exact lv_goto hx hb hd ht (kk p l e s m args below meth c G H locs ls hc hwd hl)
theorem aw_ifnull {x : Nat} {off : Int} (hd : decode M.2.1 pc = .ok (.ifnull off, 3)) (kk : AW M d (pc + 3) lv (st) h Q) : AW M d (pc) lv (.ref x :: st) h Q := by
  intro p l e s m args below meth c G H locs ls hc hwd hl
  obtain ⟨hx, hb, hr, hml, hown, hts, hns, hlk⟩ := id hc
  exact lv_ifnull hx hb hd (kk p l e s m args below meth c G H locs ls hc hwd hl)
theorem aw_ifnullN {off : Int} {tgt : Nat} (hd : decode M.2.1 pc = .ok (.ifnull off, 3)) (ht : (pc : Int) + off = (tgt : Int)) (kk : AW M d (tgt) lv (st) h Q) : AW M d (pc) lv (.null :: st) h Q := by
  intro p l e s m args below meth c G H locs ls hc hwd hl
  obtain ⟨hx, hb, hr, hml, hown, hts, hns, hlk⟩ := id hc
  exact lv_ifnullN hx hb hd ht (kk p l e s m args below meth c G H locs ls hc hwd hl)
theorem aw_ifnonnull {x : Nat} {off : Int} {tgt : Nat} (hd : decode M.2.1 pc = .ok (.ifnonnull off, 3)) (ht : (pc : Int) + off = (tgt : Int)) (kk : AW M d (tgt) lv (st) h Q) : AW M d (pc) lv (.ref x :: st) h Q := by
  intro p l e s m args below meth c G H locs ls hc hwd hl
  obtain ⟨hx, hb, hr, hml, hown, hts, hns, hlk⟩ := id hc
  exact lv_ifnonnull hx hb hd ht (kk p l e s m args below meth c G H locs ls hc hwd hl)
theorem aw_ifnonnullN {off : Int} (hd : decode M.2.1 pc = .ok (.ifnonnull off, 3)) (kk : AW M d (pc + 3) lv (st) h Q) : AW M d (pc) lv (.null :: st) h Q := by
  intro p l e s m args below meth c G H locs ls hc hwd hl
  obtain ⟨hx, hb, hr, hml, hown, hts, hns, hlk⟩ := id hc
  exact lv_ifnonnullN hx hb hd (kk p l e s m args below meth c G H locs ls hc hwd hl)
theorem aw_tableIn {dflt lo hi : Int} {offs : Array Int} {len : Nat} {x : Int32} {off : Int} {tgt : Nat} (hd : decode M.2.1 pc = .ok (.tableswitch dflt lo hi offs, len)) (h1 : ¬ x.toInt < lo) (h2 : ¬ hi < x.toInt) (ho : offs[(x.toInt - lo).toNat]? = some off) (ht : (pc : Int) + off = (tgt : Int)) (kk : AW M d (tgt) lv (st) h Q) : AW M d (pc) lv (.int x :: st) h Q := by
  intro p l e s m args below meth c G H locs ls hc hwd hl
  obtain ⟨hx, hb, hr, hml, hown, hts, hns, hlk⟩ := id hc
  exact lv_tableIn hx hb hd h1 h2 ho ht (kk p l e s m args below meth c G H locs ls hc hwd hl)
theorem aw_tableOut {dflt lo hi : Int} {offs : Array Int} {len : Nat} {x : Int32} {tgt : Nat} (hd : decode M.2.1 pc = .ok (.tableswitch dflt lo hi offs, len)) (h1 : x.toInt < lo ∨ hi < x.toInt) (ht : (pc : Int) + dflt = (tgt : Int)) (kk : AW M d (tgt) lv (st) h Q) : AW M d (pc) lv (.int x :: st) h Q := by
  intro p l e s m args below meth c G H locs ls hc hwd hl
  obtain ⟨hx, hb, hr, hml, hown, hts, hns, hlk⟩ := id hc
  exact lv_tableOut hx hb hd h1 ht (kk p l e s m args below meth c G H locs ls hc hwd hl)
theorem aw_lookup {dflt : Int} {ps : Array (Int × Int)} {len : Nat} {x : Int32} {off : Int} {tgt : Nat} (hd : decode M.2.1 pc = .ok (.lookupswitch dflt ps, len)) (hp : (ps.toList.zip (ps.toList.drop 1)).all (fun (a, next) => a.1 < next.1) = true) (ho : Op.lookupswitch.offset ps.toList dflt x.toInt = off) (ht : (pc : Int) + off = (tgt : Int)) (kk : AW M d (tgt) lv (st) h Q) : AW M d (pc) lv (.int x :: st) h Q := by
  intro p l e s m args below meth c G H locs ls hc hwd hl
  obtain ⟨hx, hb, hr, hml, hown, hts, hns, hlk⟩ := id hc
  exact lv_lookup hx hb hd hp ho ht (kk p l e s m args below meth c G H locs ls hc hwd hl)
theorem hbig {M : MI} {args : Array Value} {s : State} (hts : ∀ w ∈ mW M, w.before args s = true) {w : Cond} (hw : w ∈ bigW) : w.before args s = true := hts w (List.mem_cons_of_mem _ hw)
/-- the field that a getfield or putfield of that index means: field k of class ci -/
def FL (own : String) (idx ci k : Nat) : Prop := ∃ (C : String) (T : u_T) (N : Nat) (ty : Nat → FieldType), vwCl[ci]? = some (C, T, N) ∧ k < N ∧ Cond.fieldLink own idx (T k).1 (T k).2.1 (T k).2.2.1 ∈ bigW ∧ (∀ w ∈ u_ws C T N, w ∈ bigW) ∧ (∀ k, k < N → parseFieldDescriptor (T k).2.2.1 = some (ty k)) ∧ (∀ a, a < N → ∀ b, b < N → a ≠ b → (T a).2.1 ≠ (T b).2.1)
/-- such a field that holds an int and may be written -/
def FW (own : String) (idx ci k : Nat) : Prop := ∃ (C : String) (T : u_T) (N : Nat) (ty : Nat → FieldType), vwCl[ci]? = some (C, T, N) ∧ k < N ∧ Cond.fieldLink own idx (T k).1 (T k).2.1 (T k).2.2.1 ∈ bigW ∧ (∀ w ∈ u_ws C T N, w ∈ bigW) ∧ (∀ k, k < N → parseFieldDescriptor (T k).2.2.1 = some (ty k)) ∧ (∀ a, a < N → ∀ b, b < N → a ≠ b → (T a).2.1 ≠ (T b).2.1) ∧ (T k).2.2.2 = false ∧ ty k = .int
def fv (h : Hp) (o k : Nat) (f : Option Nat) : Value := match f with
  | none => .int (nI (h o k))
  | some r => .ref r
theorem cv_fv (G : Gx) (h : Hp) (o k : Nat) (f : Option Nat) : cv (ga G) (fv h o k f) = fvv G h o k f := by cases f <;> rfl
theorem aw_getfield {idx ci k a : Nat} {fs : List (Option Nat)} {f : Option Nat} (hd : decode M.2.1 pc = .ok (.getfield idx, 3)) (hf : FL M.1.cls idx ci k) (ho : lay[a]? = some (oO ci fs)) (hk : fs[k]? = some f) (kk : AW M d (pc + 3) lv (fv h a k f :: st) h Q) : AW M d (pc) lv (.ref a :: st) h Q := by
  intro p l e s m args below meth c G H locs ls hc hwd hl
  obtain ⟨hx, hb, hr, hml, hown, hts, hns, hlk⟩ := id hc
  obtain ⟨C, T, N, ty, hC, hkN, hlk2, hin, hty, hnm⟩ := hf
  obtain ⟨hK, hP, hD, hS, hA⟩   := id hwd
  refine va_get (ws := wl G h) (T := T) (Ts := mW M) hx hb hts (fun w q => List.mem_cons_of_mem _ (hin w q)) hown hK hP a (wl_at ho) hC k hkN (hbig hts hlk2) (fun _ h9 => h9) (v := fvv G h a k f) (by simp [hk]) hd ?_
  have := kk p l e s m args below meth c G H locs ls hc hwd hl
  simp only [List.map_cons, cv_fv] at this
  exact this
theorem aw_putfield {idx ci k a x : Nat} {fs : List (Option Nat)} (hd : decode M.2.1 pc = .ok (.putfield idx, 3)) (hf : FW M.1.cls idx ci k) (ho : lay[a]? = some (oO ci fs)) (hk : fs[k]? = some none) (kk : AW M d (pc + 3) lv (st) (hw h a k x) Q) : AW M d (pc) lv (.int (nI x) :: .ref a :: st) h Q := by
  intro p l e s m args below meth c G H locs ls hc hwd hl
  obtain ⟨hx, hb, hr, hml, hown, hts, hns, hlk⟩ := id hc
  obtain ⟨C, T, N, ty, hC, hkN, hlk2, hin, hty, hnm, hfin, htyi⟩ := hf
  obtain ⟨hK, hP, hD, hS, hA⟩   := id hwd
  refine va_put (ws := wl G h) (T := T) (Ts := mW M) (ty := .int) (v := .int (nI x)) hx hb hts (fun w q => List.mem_cons_of_mem _ (hin w q)) ty hty hnm hown hK hP hD hS a (wl_at ho) hC k hkN (hbig hts hlk2) (fun _ h9 => h9) hfin (by rw [hty k hkN, htyi]) rfl rfl (by simp [(List.getElem?_eq_some_iff.mp hk).1]) hd (fun H1 locs1 hP1 hD1 hS1 => ?_)
  rw [wl_hw (x := x) (k := k) ho (cel_hwO hk)] at hP1 hD1
  exact kk p l e s m args below meth c G H1 locs1 ls hc ⟨hK, hP1, hD1, hS1, hA⟩ hl
theorem aw_iaload {a n i : Nat} (hd : decode M.2.1 pc = .ok (.iaload, 1)) (ho : lay[a]? = some (oI n)) (hi : i < n) (hn : n < 2 ^ 31) (kk : AW M d (pc + 1) lv (.int (nI (h a i)) :: st) h Q) : AW M d (pc) lv (.int (nI i) :: .ref a :: st) h Q := by
  intro p l e s m args below meth c G H locs ls hc hwd hl
  obtain ⟨hx, hb, hr, hml, hown, hts, hns, hlk⟩ := id hc
  obtain ⟨hK, hP, hD, hS, hA⟩   := id hwd
  refine va_iald (ws := wl G h) hx hb hK hP a 0 (wl_at ho) rfl (vp_in_nI hi hn) hd ?_
  rw [nI_clamp (Nat.lt_trans hi hn)]
  exact (kk p l e s m args below meth c G H locs ls hc hwd hl)
theorem aw_caload {a n i : Nat} (hd : decode M.2.1 pc = .ok (.caload, 1)) (ho : lay[a]? = some (oC n)) (hi : i < n) (hn : n < 2 ^ 31) (kk : AW M d (pc + 1) lv (.int (nI (h a i)) :: st) h Q) : AW M d (pc) lv (.int (nI i) :: .ref a :: st) h Q := by
  intro p l e s m args below meth c G H locs ls hc hwd hl
  obtain ⟨hx, hb, hr, hml, hown, hts, hns, hlk⟩ := id hc
  obtain ⟨hK, hP, hD, hS, hA⟩   := id hwd
  refine va_cald (ws := wl G h) hx hb hK hP a 1 (wl_at ho) rfl (vp_in_nI hi hn) hd ?_
  rw [nI_clamp (Nat.lt_trans hi hn)]
  exact (kk p l e s m args below meth c G H locs ls hc hwd hl)
theorem aw_aaload {a r i : Nat} {rs : List Nat} (hd : decode M.2.1 pc = .ok (.aaload, 1)) (ho : lay[a]? = some (oR rs)) (hr0 : rs[i]? = some r) (hn : rs.length < 2 ^ 31) (kk : AW M d (pc + 1) lv (.ref r :: st) h Q) : AW M d (pc) lv (.int (nI i) :: .ref a :: st) h Q := by
  intro p l e s m args below meth c G H locs ls hc hwd hl
  obtain ⟨hx, hb, hr, hml, hown, hts, hns, hlk⟩ := id hc
  obtain ⟨hK, hP, hD, hS, hA⟩ := id hwd
  have hi : i < rs.length := (List.getElem?_eq_some_iff.mp hr0).1
  refine va_aldq (ws := wl G h) hx hb hK hP a 2 (wl_at ho) rfl (vp_in_nI hi hn) hd ?_
  rw [nI_clamp (Nat.lt_trans hi hn), hr0]
  exact (kk p l e s m args below meth c G H locs ls hc hwd hl)
theorem aw_iastore {a n i x : Nat} (hd : decode M.2.1 pc = .ok (.iastore, 1)) (ho : lay[a]? = some (oI n)) (hi : i < n) (hn : n < 2 ^ 31) (kk : AW M d (pc + 1) lv (st) (hw h a i x) Q) : AW M d (pc) lv (.int (nI x) :: .int (nI i) :: .ref a :: st) h Q := by
  intro p l e s m args below meth c G H locs ls hc hwd hl
  obtain ⟨hx, hb, hr, hml, hown, hts, hns, hlk⟩ := id hc
  obtain ⟨hK, hP, hD, hS, hA⟩ := id hwd
  refine va_iast (ws := wl G h) hx hb hK hP hD hS a 0 (wl_at ho) rfl (vp_in_nI hi hn) hd (fun H1 locs1 hP1 hD1 hS1 => ?_)
  rw [nI_clamp (Nat.lt_trans hi hn)] at hP1 hD1
  have he := wl_hw (G := G) (h := h) (x := x) (k := i) ho cel_hwA
  have hP1 : va_P G.1 vwCl (wl G (hw h a i x)) H1 := by rw [← he]; exact hP1
  have hD1 : va_D (gA G) (wl G (hw h a i x)) := by rw [← he]; exact hD1
  exact kk p l e s m args below meth c G H1 locs1 ls hc ⟨hK, hP1, hD1, hS1, hA⟩ hl
theorem aw_castore {a n i x : Nat} (hd : decode M.2.1 pc = .ok (.castore, 1)) (ho : lay[a]? = some (oC n)) (hi : i < n) (hn : n < 2 ^ 31) (hx0 : x < 65536) (kk : AW M d (pc + 1) lv (st) (hw h a i x) Q) : AW M d (pc) lv (.int (nI x) :: .int (nI i) :: .ref a :: st) h Q := by
  intro p l e s m args below meth c G H locs ls hc hwd hl
  obtain ⟨hx, hb, hr, hml, hown, hts, hns, hlk⟩ := id hc
  obtain ⟨hK, hP, hD, hS, hA⟩ := id hwd
  refine va_cast (ws := wl G h) hx hb hK hP hD hS a 1 (wl_at ho) rfl (vp_in_nI hi hn) hd (fun H1 locs1 hP1 hD1 hS1 => ?_)
  have hnar : vp_nar .char (nI x) = nI x := by unfold vp_nar; rw [(pk_charN hx0).1]
  rw [nI_clamp (Nat.lt_trans hi hn), hnar] at hP1 hD1
  have he := wl_hw (G := G) (h := h) (x := x) (k := i) ho cel_hwA
  have hP1 : va_P G.1 vwCl (wl G (hw h a i x)) H1 := by rw [← he]; exact hP1
  have hD1 : va_D (gA G) (wl G (hw h a i x)) := by rw [← he]; exact hD1
  exact kk p l e s m args below meth c G H1 locs1 ls hc ⟨hK, hP1, hD1, hS1, hA⟩ hl
theorem aw_alen {a n : Nat} (hd : decode M.2.1 pc = .ok (.arraylength, 1)) (ho : lay[a]? = some (oI n)) (kk : AW M d (pc + 1) lv (.int (nI n) :: st) h Q) : AW M d (pc) lv (.ref a :: st) h Q := by
  intro p l e s m args below meth c G H locs ls hc hwd hl
  obtain ⟨hx, hb, hr, hml, hown, hts, hns, hlk⟩ := id hc
  obtain ⟨hK, hP, hD, hS, hA⟩   := id hwd
  exact va_alen (ws := wl G h) hx hb hK hP a 0 (wl_at ho) rfl rfl hd (kk p l e s m args below meth c G H locs ls hc hwd hl)
theorem aw_alenC {a n : Nat} (hd : decode M.2.1 pc = .ok (.arraylength, 1)) (ho : lay[a]? = some (oC n)) (kk : AW M d (pc + 1) lv (.int (nI n) :: st) h Q) : AW M d (pc) lv (.ref a :: st) h Q := by
  intro p l e s m args below meth c G H locs ls hc hwd hl
  obtain ⟨hx, hb, hr, hml, hown, hts, hns, hlk⟩ := id hc
  obtain ⟨hK, hP, hD, hS, hA⟩   := id hwd
  exact va_alen (ws := wl G h) hx hb hK hP a 1 (wl_at ho) rfl rfl hd (kk p l e s m args below meth c G H locs ls hc hwd hl)
theorem aw_alenR {a : Nat} {rs : List Nat} (hd : decode M.2.1 pc = .ok (.arraylength, 1)) (ho : lay[a]? = some (oR rs)) (kk : AW M d (pc + 1) lv (.int (nI rs.length) :: st) h Q) : AW M d (pc) lv (.ref a :: st) h Q := by
  intro p l e s m args below meth c G H locs ls hc hwd hl
  obtain ⟨hx, hb, hr, hml, hown, hts, hns, hlk⟩ := id hc
  obtain ⟨hK, hP, hD, hS, hA⟩   := id hwd
  exact va_alen (ws := wl G h) hx hb hK hP a 2 (wl_at ho) rfl rfl hd (kk p l e s m args below meth c G H locs ls hc hwd hl)
theorem aw_ldc2 {idx : Nat} {v : Int64} (hd : decode M.2.1 pc = .ok (.ldc2_w idx, 3)) (hk : Cond.constantLong M.1.cls idx v ∈ bigW) (kk : AW M d (pc + 3) lv (.long v :: st) h Q) : AW M d (pc) lv (st) h Q := by
  intro p l e s m args below meth c G H locs ls hc hwd hl
  obtain ⟨hx, hb, hr, hml, hown, hts, hns, hlk⟩ := id hc
  exact lv_ldc2 hx hb hown (hbig hts hk) hd (kk p l e s m args below meth c G H locs ls hc hwd hl)
theorem aw_iret {x : Int32} {ty : FieldType} (hd : decode M.2.1 pc = .ok (.ireturn, 1)) (hr0 : M.2.2.2 = some ty) (hn : narrow ty (.int x) = .int x) (hq : Q (some (.int x)) h) : AW M d (pc) lv ([.int x]) h Q := by
  intro p l e s m args below meth c G H locs ls hc hwd hl
  obtain ⟨hx, hb, hr, hml, hown, hts, hns, hlk⟩ := id hc
  obtain ⟨hK, hP, hD, hS, hA⟩   := id hwd
  exact W.zret (v := x) hx hb (hr.trans hr0) hn (fun t ht hW => ⟨some (.int x), h, rfl, hq, by rw [ht]; exact hP, hD, hS.F ht⟩) hS.2.2 hd hlk
theorem aw_vret (hd : decode M.2.1 pc = .ok (.return_, 1)) (hr0 : M.2.2.2 = none) (hq : Q none h) : AW M d (pc) lv ([]) h Q := by
  intro p l e s m args below meth c G H locs ls hc hwd hl
  obtain ⟨hx, hb, hr, hml, hown, hts, hns, hlk⟩ := id hc
  obtain ⟨hK, hP, hD, hS, hA⟩   := id hwd
  exact W.vret hx hb (hr.trans hr0) (fun t ht hW => ⟨none, h, rfl, hq, by rw [ht]; exact hP, hD, hS.F ht⟩) hS.2.2 hd hlk
theorem aw_aret {v : Value} {ty : FieldType} (hd : decode M.2.1 pc = .ok (.areturn, 1)) (hr0 : M.2.2.2 = some ty) (hrt : (∃ n, ty = .object n) ∨ ∃ t, ty = .array t) (hv : v = .null ∨ ∃ a, v = .ref a) (hq : Q (some v) h) : AW M d (pc) lv ([v]) h Q := by
  intro p l e s m args below meth c G H locs ls hc hwd hl
  obtain ⟨hx, hb, hr, hml, hown, hts, hns, hlk⟩ := id hc
  obtain ⟨hK, hP, hD, hS, hA⟩   := id hwd
  refine W.aret (v := cv (ga G) v) hx hb (hr.trans hr0) hrt (by rcases hv with rfl | ⟨a, rfl⟩; exact Or.inl rfl; exact Or.inr ⟨_, rfl⟩) (fun t ht hW => ⟨some v, h, rfl, hq, by rw [ht]; exact hP, hD, hS.F ht⟩) hS.2.2 hd hlk
theorem aw_iaddN {x y : Nat} (hd : decode M.2.1 pc = .ok (.iadd, 1)) (kk : AW M d (pc + 1) lv (.int (nI (x + y)) :: st) h Q) : AW M d (pc) lv (.int (nI y) :: .int (nI x) :: st) h Q := by
  intro p l e s m args below meth c G H locs ls hc hwd hl
  obtain ⟨hx, hb, hr, hml, hown, hts, hns, hlk⟩ := id hc
  refine lv_iadd hx hb hd ?_
  rw [nI_add]
  exact (kk p l e s m args below meth c G H locs ls hc hwd hl)
theorem aw_imulN {x y : Nat} (hd : decode M.2.1 pc = .ok (.imul, 1)) (kk : AW M d (pc + 1) lv (.int (nI (x * y)) :: st) h Q) : AW M d (pc) lv (.int (nI y) :: .int (nI x) :: st) h Q := by
  intro p l e s m args below meth c G H locs ls hc hwd hl
  obtain ⟨hx, hb, hr, hml, hown, hts, hns, hlk⟩ := id hc
  refine lv_imul hx hb hd ?_
  rw [pk_mul]
  exact (kk p l e s m args below meth c G H locs ls hc hwd hl)
theorem aw_isubN {x y : Nat} (hd : decode M.2.1 pc = .ok (.isub, 1)) (hle : y ≤ x) (kk : AW M d (pc + 1) lv (.int (nI (x - y)) :: st) h Q) : AW M d (pc) lv (.int (nI y) :: .int (nI x) :: st) h Q := by
  intro p l e s m args below meth c G H locs ls hc hwd hl
  obtain ⟨hx, hb, hr, hml, hown, hts, hns, hlk⟩ := id hc
  refine lv_isub hx hb hd ?_
  rw [pk_sub hle]
  exact (kk p l e s m args below meth c G H locs ls hc hwd hl)
theorem aw_idivN {x y : Nat} (hd : decode M.2.1 pc = .ok (.idiv, 1)) (hx0 : x < 2 ^ 31) (hy0 : 0 < y) (hy1 : y < 2 ^ 31) (kk : AW M d (pc + 1) lv (.int (nI (x / y)) :: st) h Q) : AW M d (pc) lv (.int (nI y) :: .int (nI x) :: st) h Q := by
  intro p l e s m args below meth c G H locs ls hc hwd hl
  obtain ⟨hx, hb, hr, hml, hown, hts, hns, hlk⟩ := id hc
  refine lv_idiv hx hb hd (nI_ne0 hy0 hy1) ?_
  rw [pk_div hx0 hy0 hy1]
  exact (kk p l e s m args below meth c G H locs ls hc hwd hl)
theorem aw_iremN {x y : Nat} (hd : decode M.2.1 pc = .ok (.irem, 1)) (hx0 : x < 2 ^ 31) (hy0 : 0 < y) (hy1 : y < 2 ^ 31) (kk : AW M d (pc + 1) lv (.int (nI (x % y)) :: st) h Q) : AW M d (pc) lv (.int (nI y) :: .int (nI x) :: st) h Q := by
  intro p l e s m args below meth c G H locs ls hc hwd hl
  obtain ⟨hx, hb, hr, hml, hown, hts, hns, hlk⟩ := id hc
  refine lv_irem hx hb hd (nI_ne0 hy0 hy1) ?_
  rw [pk_rem hx0 hy0 hy1]
  exact (kk p l e s m args below meth c G H locs ls hc hwd hl)
theorem aw_iincN {i v x : Nat} (hd : decode M.2.1 pc = .ok (.iinc i v, 3)) (hv : lv[i]? = some (some (.int (nI x)))) (hg : nolong lv i = true) (kk : AW M d (pc + 3) (lv.set i (some (.int (nI (x + v))))) (st) h Q) : AW M d (pc) lv (st) h Q := by
  intro p l e s m args below meth c G H locs ls hc hwd hl
  obtain ⟨hx, hb, hr, hml, hown, hts, hns, hlk⟩ := id hc
  exact aw_iinc hd hv (by rw [show Int32.ofInt (v : Int) = nI v from rfl, nI_add]) hg kk p l e s m args below meth c G H locs ls hc hwd hl
theorem aw_iincM {i x : Nat} (hd : decode M.2.1 pc = .ok (.iinc i (-1), 3)) (hv : lv[i]? = some (some (.int (nI x)))) (hp : 0 < x) (hg : nolong lv i = true) (kk : AW M d (pc + 3) (lv.set i (some (.int (nI (x - 1))))) (st) h Q) : AW M d (pc) lv (st) h Q := by
  intro p l e s m args below meth c G H locs ls hc hwd hl
  obtain ⟨hx, hb, hr, hml, hown, hts, hns, hlk⟩ := id hc
  exact aw_iinc hd hv (by rw [show Int32.ofInt (-1) = -1 from rfl]; exact sb_m1 hp) hg kk p l e s m args below meth c G H locs ls hc hwd hl
theorem aw_icmp_eqN {x y : Nat} {off : Int} {tgt : Nat} (hd : decode M.2.1 pc = .ok (.if_icmp .eq off, 3)) (ht : (pc : Int) + off = (tgt : Int)) (hx0 : x < 2 ^ 31) (hy0 : y < 2 ^ 31) (kt : x = y → AW M d (tgt) lv (st) h Q) (kf : ¬ x = y → AW M d (pc + 3) lv (st) h Q) : AW M d (pc) lv (.int (nI y) :: .int (nI x) :: st) h Q := by
  intro p l e s m args below meth c G H locs ls hc hwd hl
  obtain ⟨hx, hb, hr, hml, hown, hts, hns, hlk⟩ := id hc
  exact aw_icmp_eq hd ht (fun q => kt (by rw [nI_eq hx0 hy0] at q; exact q)) (fun q => kf (by rw [nI_eq hx0 hy0] at q; exact q)) p l e s m args below meth c G H locs ls hc hwd hl
theorem aw_icmp_neN {x y : Nat} {off : Int} {tgt : Nat} (hd : decode M.2.1 pc = .ok (.if_icmp .ne off, 3)) (ht : (pc : Int) + off = (tgt : Int)) (hx0 : x < 2 ^ 31) (hy0 : y < 2 ^ 31) (kt : ¬ x = y → AW M d (tgt) lv (st) h Q) (kf : x = y → AW M d (pc + 3) lv (st) h Q) : AW M d (pc) lv (.int (nI y) :: .int (nI x) :: st) h Q := by
  intro p l e s m args below meth c G H locs ls hc hwd hl
  obtain ⟨hx, hb, hr, hml, hown, hts, hns, hlk⟩ := id hc
  exact aw_icmp_ne hd ht (fun q => kt (by rw [nI_eq hx0 hy0] at q; exact q)) (fun q => kf (by rw [nI_eq hx0 hy0] at q; exact q)) p l e s m args below meth c G H locs ls hc hwd hl
theorem aw_icmp_ltN {x y : Nat} {off : Int} {tgt : Nat} (hd : decode M.2.1 pc = .ok (.if_icmp .lt off, 3)) (ht : (pc : Int) + off = (tgt : Int)) (hx0 : x < 2 ^ 31) (hy0 : y < 2 ^ 31) (kt : x < y → AW M d (tgt) lv (st) h Q) (kf : ¬ x < y → AW M d (pc + 3) lv (st) h Q) : AW M d (pc) lv (.int (nI y) :: .int (nI x) :: st) h Q := by
  intro p l e s m args below meth c G H locs ls hc hwd hl
  obtain ⟨hx, hb, hr, hml, hown, hts, hns, hlk⟩ := id hc
  exact aw_icmp_lt hd ht (fun q => kt (by rw [nI_ltI hx0 hy0] at q; exact q)) (fun q => kf (by rw [nI_ltI hx0 hy0] at q; exact q)) p l e s m args below meth c G H locs ls hc hwd hl
theorem aw_icmp_geN {x y : Nat} {off : Int} {tgt : Nat} (hd : decode M.2.1 pc = .ok (.if_icmp .ge off, 3)) (ht : (pc : Int) + off = (tgt : Int)) (hx0 : x < 2 ^ 31) (hy0 : y < 2 ^ 31) (kt : y ≤ x → AW M d (tgt) lv (st) h Q) (kf : ¬ y ≤ x → AW M d (pc + 3) lv (st) h Q) : AW M d (pc) lv (.int (nI y) :: .int (nI x) :: st) h Q := by
  intro p l e s m args below meth c G H locs ls hc hwd hl
  obtain ⟨hx, hb, hr, hml, hown, hts, hns, hlk⟩ := id hc
  exact aw_icmp_ge hd ht (fun q => kt (by rw [nI_leI hy0 hx0] at q; exact q)) (fun q => kf (by rw [nI_leI hy0 hx0] at q; exact q)) p l e s m args below meth c G H locs ls hc hwd hl
theorem aw_icmp_gtN {x y : Nat} {off : Int} {tgt : Nat} (hd : decode M.2.1 pc = .ok (.if_icmp .gt off, 3)) (ht : (pc : Int) + off = (tgt : Int)) (hx0 : x < 2 ^ 31) (hy0 : y < 2 ^ 31) (kt : y < x → AW M d (tgt) lv (st) h Q) (kf : ¬ y < x → AW M d (pc + 3) lv (st) h Q) : AW M d (pc) lv (.int (nI y) :: .int (nI x) :: st) h Q := by
  intro p l e s m args below meth c G H locs ls hc hwd hl
  obtain ⟨hx, hb, hr, hml, hown, hts, hns, hlk⟩ := id hc
  exact aw_icmp_gt hd ht (fun q => kt (by rw [nI_ltI hy0 hx0] at q; exact q)) (fun q => kf (by rw [nI_ltI hy0 hx0] at q; exact q)) p l e s m args below meth c G H locs ls hc hwd hl
theorem aw_icmp_leN {x y : Nat} {off : Int} {tgt : Nat} (hd : decode M.2.1 pc = .ok (.if_icmp .le off, 3)) (ht : (pc : Int) + off = (tgt : Int)) (hx0 : x < 2 ^ 31) (hy0 : y < 2 ^ 31) (kt : x ≤ y → AW M d (tgt) lv (st) h Q) (kf : ¬ x ≤ y → AW M d (pc + 3) lv (st) h Q) : AW M d (pc) lv (.int (nI y) :: .int (nI x) :: st) h Q := by
  intro p l e s m args below meth c G H locs ls hc hwd hl
  obtain ⟨hx, hb, hr, hml, hown, hts, hns, hlk⟩ := id hc
  exact aw_icmp_le hd ht (fun q => kt (by rw [nI_leI hx0 hy0] at q; exact q)) (fun q => kf (by rw [nI_leI hx0 hy0] at q; exact q)) p l e s m args below meth c G H locs ls hc hwd hl
theorem aw_if_eqN {x : Nat} {off : Int} {tgt : Nat} (hd : decode M.2.1 pc = .ok (.ifCond .eq off, 3)) (ht : (pc : Int) + off = (tgt : Int)) (hx0 : x < 2 ^ 31) (kt : x = 0 → AW M d (tgt) lv (st) h Q) (kf : ¬ x = 0 → AW M d (pc + 3) lv (st) h Q) : AW M d (pc) lv (.int (nI x) :: st) h Q := by
  intro p l e s m args below meth c G H locs ls hc hwd hl
  obtain ⟨hx, hb, hr, hml, hown, hts, hns, hlk⟩ := id hc
  exact aw_if_eq hd ht (fun q => kt (by rw [← nI_0, nI_eq hx0 (by decide)] at q; exact q)) (fun q => kf (by rw [← nI_0, nI_eq hx0 (by decide)] at q; exact q)) p l e s m args below meth c G H locs ls hc hwd hl
theorem aw_if_neN {x : Nat} {off : Int} {tgt : Nat} (hd : decode M.2.1 pc = .ok (.ifCond .ne off, 3)) (ht : (pc : Int) + off = (tgt : Int)) (hx0 : x < 2 ^ 31) (kt : ¬ x = 0 → AW M d (tgt) lv (st) h Q) (kf : x = 0 → AW M d (pc + 3) lv (st) h Q) : AW M d (pc) lv (.int (nI x) :: st) h Q := by
  intro p l e s m args below meth c G H locs ls hc hwd hl
  obtain ⟨hx, hb, hr, hml, hown, hts, hns, hlk⟩ := id hc
  exact aw_if_ne hd ht (fun q => kt (by rw [← nI_0, nI_eq hx0 (by decide)] at q; exact q)) (fun q => kf (by rw [← nI_0, nI_eq hx0 (by decide)] at q; exact q)) p l e s m args below meth c G H locs ls hc hwd hl
theorem aw_if_ltN {x : Nat} {off : Int} {tgt : Nat} (hd : decode M.2.1 pc = .ok (.ifCond .lt off, 3)) (ht : (pc : Int) + off = (tgt : Int)) (hx0 : x < 2 ^ 31) (kt : x < 0 → AW M d (tgt) lv (st) h Q) (kf : ¬ x < 0 → AW M d (pc + 3) lv (st) h Q) : AW M d (pc) lv (.int (nI x) :: st) h Q := by
  intro p l e s m args below meth c G H locs ls hc hwd hl
  obtain ⟨hx, hb, hr, hml, hown, hts, hns, hlk⟩ := id hc
  exact aw_if_lt hd ht (fun q => kt (by rw [← nI_0, nI_ltI hx0 (by decide)] at q; exact q)) (fun q => kf (by rw [← nI_0, nI_ltI hx0 (by decide)] at q; exact q)) p l e s m args below meth c G H locs ls hc hwd hl
theorem aw_if_geN {x : Nat} {off : Int} {tgt : Nat} (hd : decode M.2.1 pc = .ok (.ifCond .ge off, 3)) (ht : (pc : Int) + off = (tgt : Int)) (hx0 : x < 2 ^ 31) (kt : 0 ≤ x → AW M d (tgt) lv (st) h Q) (kf : ¬ 0 ≤ x → AW M d (pc + 3) lv (st) h Q) : AW M d (pc) lv (.int (nI x) :: st) h Q := by
  intro p l e s m args below meth c G H locs ls hc hwd hl
  obtain ⟨hx, hb, hr, hml, hown, hts, hns, hlk⟩ := id hc
  exact aw_if_ge hd ht (fun q => kt (by rw [← nI_0, nI_leI (by decide) hx0] at q; exact q)) (fun q => kf (by rw [← nI_0, nI_leI (by decide) hx0] at q; exact q)) p l e s m args below meth c G H locs ls hc hwd hl
theorem aw_if_gtN {x : Nat} {off : Int} {tgt : Nat} (hd : decode M.2.1 pc = .ok (.ifCond .gt off, 3)) (ht : (pc : Int) + off = (tgt : Int)) (hx0 : x < 2 ^ 31) (kt : 0 < x → AW M d (tgt) lv (st) h Q) (kf : ¬ 0 < x → AW M d (pc + 3) lv (st) h Q) : AW M d (pc) lv (.int (nI x) :: st) h Q := by
  intro p l e s m args below meth c G H locs ls hc hwd hl
  obtain ⟨hx, hb, hr, hml, hown, hts, hns, hlk⟩ := id hc
  exact aw_if_gt hd ht (fun q => kt (by rw [← nI_0, nI_ltI (by decide) hx0] at q; exact q)) (fun q => kf (by rw [← nI_0, nI_ltI (by decide) hx0] at q; exact q)) p l e s m args below meth c G H locs ls hc hwd hl
theorem aw_if_leN {x : Nat} {off : Int} {tgt : Nat} (hd : decode M.2.1 pc = .ok (.ifCond .le off, 3)) (ht : (pc : Int) + off = (tgt : Int)) (hx0 : x < 2 ^ 31) (kt : x ≤ 0 → AW M d (tgt) lv (st) h Q) (kf : ¬ x ≤ 0 → AW M d (pc + 3) lv (st) h Q) : AW M d (pc) lv (.int (nI x) :: st) h Q := by
  intro p l e s m args below meth c G H locs ls hc hwd hl
  obtain ⟨hx, hb, hr, hml, hown, hts, hns, hlk⟩ := id hc
  exact aw_if_le hd ht (fun q => kt (by rw [← nI_0, nI_leI hx0 (by decide)] at q; exact q)) (fun q => kf (by rw [← nI_0, nI_leI hx0 (by decide)] at q; exact q)) p l e s m args below meth c G H locs ls hc hwd hl
theorem cats_cv (ad : Nat → Nat) (st : List Value) : ((st.map (cv ad)).map fun v => v.category).sum = (st.map fun v => v.category).sum := by
  rw [List.map_map]
  congr 2
  funext v
  exact cv_cat _ v
theorem aw_mmax {idx : Nat} {x y : Int32} (hd : decode M.2.1 pc = .ok (.invokestatic idx, 3)) (hk : Cond.methodLink M.1.cls idx Lib.Math.max.name ∈ bigW ∧ Cond.static Lib.Math.max.name ∈ bigW ∧ Cond.initialized "java/lang/Math" ∈ bigW ∧ Cond.code Lib.Math.max.name Lib.Math.max.code 2 (some .int) ∈ bigW) (hz : (st.map fun v => v.category).sum ≤ 8) (kk : AW M (d + 1) (pc + 3) lv (.int (if x < y then y else x) :: st) h Q) : AW M (d + 1) pc lv (.int y :: .int x :: st) h Q := by
  intro p l e s m args below meth c G H locs ls hc hwd hl
  obtain ⟨hx, hb, hr, hml, hown, hts, hns, hlk⟩ := id hc
  have hz1 : ((st.map (cv (ga G))).map fun v => v.category).sum + 13 ≤ (rmD (d + 1)).locals := by
    rw [cats_cv]
    show _ + 13 ≤ 36 * (d + 1)
    omega
  have hz2 : 1 ≤ (rmD (d + 1)).frames := Nat.succ_le_succ (Nat.zero_le d)
  exact va_mmax (R := rmD (d + 1)) (rest := st.map (cv (ga G))) hx hb (by rw [hml]; exact hl.2.1.symm) hown (hbig hts hk.1) (hbig hts hk.2.1) (hbig hts hk.2.2.1) (hbig hts hk.2.2.2) hz2 hz1 (Nat.zero_le _) (Nat.zero_le _) hd (kk p l e s m args below meth c G H locs ls hc hwd hl)
theorem aw_mmin {idx : Nat} {x y : Int32} (hd : decode M.2.1 pc = .ok (.invokestatic idx, 3)) (hk : Cond.methodLink M.1.cls idx Lib.Math.min.name ∈ bigW ∧ Cond.static Lib.Math.min.name ∈ bigW ∧ Cond.initialized "java/lang/Math" ∈ bigW ∧ Cond.code Lib.Math.min.name Lib.Math.min.code 2 (some .int) ∈ bigW) (hz : (st.map fun v => v.category).sum ≤ 8) (kk : AW M (d + 1) (pc + 3) lv (.int (if y < x then y else x) :: st) h Q) : AW M (d + 1) pc lv (.int y :: .int x :: st) h Q := by
  intro p l e s m args below meth c G H locs ls hc hwd hl
  obtain ⟨hx, hb, hr, hml, hown, hts, hns, hlk⟩ := id hc
  have hz1 : ((st.map (cv (ga G))).map fun v => v.category).sum + 13 ≤ (rmD (d + 1)).locals := by
    rw [cats_cv]
    show _ + 13 ≤ 36 * (d + 1)
    omega
  have hz2 : 1 ≤ (rmD (d + 1)).frames := Nat.succ_le_succ (Nat.zero_le d)
  exact va_mmin (R := rmD (d + 1)) (rest := st.map (cv (ga G))) hx hb (by rw [hml]; exact hl.2.1.symm) hown (hbig hts hk.1) (hbig hts hk.2.1) (hbig hts hk.2.2.1) (hbig hts hk.2.2.2) hz2 hz1 (Nat.zero_le _) (Nat.zero_le _) hd (kk p l e s m args below meth c G H locs ls hc hwd hl)
end AWR
end
section
theorem lv_args_mem : ∀ (vs : List Value) (k i : Nat) (v : Value), (∀ w ∈ vs, w.category = 1) → vs[i]? = some v → (k + i, v) ∈ lv_args k vs
  | [], _, _, _, _, h => by simp at h
  | w :: vs, k, 0, v, hc, h => by
    have h1 : w = v := by simpa using h
    subst h1
    unfold lv_args
    exact List.mem_cons_self
  | w :: vs, k, i + 1, v, hc, h => by
    have h1 : vs[i]? = some v := by simpa using h
    have h2 := lv_args_mem vs (k + 1) i v (fun x hx => hc x (List.mem_cons_of_mem _ hx)) h1
    unfold lv_args
    rw [hc w List.mem_cons_self]
    refine List.mem_cons_of_mem _ ?_
    have : k + (i + 1) = k + 1 + i := by omega
    rw [this]
    exact h2
theorem lv0_at {n : Nat} {as : List Value} {i : Nat} {v : Value} (h : (lv0 n as)[i]? = some (some v)) : as[i]? = some v := by
  unfold lv0 at h
  rw [List.getElem?_append] at h
  split at h
  · simpa using h
  · rw [List.getElem?_replicate] at h
    split at h <;> cases h
def PcO (G : Gx) (as : List Value) (h : Hp) : Array Value → State → Prop := fun v U =>
  v = (as.map (cv (ga G))).toArray ∧ va_K G.1 vwCl (tysG G) U ∧ va_P G.1 vwCl (wl G h) U.heap ∧ va_D (gA G) (wl G h) ∧ (∀ q : Nat, U.heap.size ≤ q → gA G q) ∧ (∀ w ∈ nestW, va_Nw w U)
theorem PcO.blind (G : Gx) (as : List Value) (h : Hp) : FrameBlind (PcO G as h) := by
  rintro a U g mk ⟨q0, qK, qP, qD, qA, qN⟩
  refine ⟨q0, va_K.moved (u := U) (U := U.calling g mk a) (Vm.Alike.refl U.vm) qK, qP, qD, qA, fun w hw => ?_⟩
  have hm : isNest w = true := (List.mem_filter.mp hw).2
  cases w <;> first | (simp [isNest] at hm; done) | exact va_Nw.same rfl rfl (qN _ hw)
theorem PcO.pre {G : Gx} {as : List Value} {h : Hp} {s : State} {H : Heap} {locs : List Loc} (hwd : WD G h s H locs) (hns : ∀ w ∈ nestW, va_Nw w s) : ∀ U : State, U.heap = H → s.WarmedH U.vm → PcO G as h (as.map (cv (ga G))).toArray U := by
  obtain ⟨hK, hP, hD, hS, hA⟩ := hwd
  intro U hU hW
  refine ⟨rfl, va_K.moved hW.alike hK, by rw [hU]; exact hP, hD, fun q hq => hA q (Nat.le_trans hS.1 (by rw [hU] at hq; exact hq)), fun w hw => ?_⟩
  have hm : isNest w = true := (List.mem_filter.mp hw).2
  cases w <;> first | (simp [isNest] at hm; done) | exact va_Nw.warmM hW (hns _ hw)
theorem RT.met {M : MI} {d : Nat} {as : List Value} {h : Hp} {Q : Option Value → Hp → Prop} (hR : RT M d as h Q) (hpl : plainFor M.1 = true) (hcat : ∀ w ∈ as, w.category = 1) (hlen : as.length ≤ M.2.2.1) (l : Launch) (G : Gx) :
    Met l M.1 (mW M) (rmD d) (PcO G as h) (Qo G Q) 0 0 (gA G) := by
  refine va_MetF (cc := M.2.1) (maxL := M.2.2.1) (ret := M.2.2.2) hpl rfl ?_
  intro p e s m args below meth c s₁ B hml hv
  obtain ⟨rfl, hK, hP, hD, hA, hN⟩ := hv
  have hsl : (lg_sl (as.map (cv (ga G)))).length = as.length := by
    unfold lg_sl
    rw [List.length_flatMap]
    have : ∀ l : List Value, (∀ w ∈ l, w.category = 1) → ((l.map (cv (ga G))).map (fun v => (if v.category = 2 then [Slot.val v, .second] else [.val v]).length)).sum = l.length := by
      intro l
      induction l with
      | nil => intro _; rfl
      | cons w l ih =>
        intro hc
        have hw : (cv (ga G) w).category = 1 := by rw [cv_cat]; exact hc w List.mem_cons_self
        simp only [List.map_cons, List.sum_cons, hw]
        rw [ih (fun x hx => hc x (List.mem_cons_of_mem _ hx))]
        simp
        omega
    exact this as hcat
  have hl := lv_entry (as.map (cv (ga G))) (n := M.2.2.1) (by rw [hsl]; exact hlen)
  rw [lg_entry_eq]
  generalize (lg_sl (as.map (cv (ga G))) ++ List.replicate (M.2.2.1 - (lg_sl (as.map (cv (ga G)))).length) Slot.unset).toArray = ls at hl ⊢
  have hLV : LV G M.2.2.1 ls (lv0 M.2.2.1 as) := by
    refine ⟨by simp [lv0]; omega, hl.1, hl.2.1, ?_⟩
    rintro ⟨i, w⟩ hq
    obtain ⟨v, hv, rfl⟩ := prs_mem.mp hq
    have h1 := lv_args_mem (as.map (cv (ga G))) 0 i (cv (ga G) v) (fun w hw => by
      obtain ⟨x, hx, rfl⟩ := List.mem_map.mp hw
      rw [cv_cat]; exact hcat x hx) (by rw [List.getElem?_map, lv0_at hv]; rfl)
    rw [Nat.zero_add] at h1
    exact hl.2.2 _ h1
  exact hR p l e s m _ below meth c G s.heap [] ls ⟨B.exec, B.bytes, B.returns, hml, findClass_of_methodNamed B.named, atoms_spec (ws := mW M) B.pre, hN, B.notSynchronized⟩ ⟨hK, hP, hD, va_S.rf, hA⟩ hLV
theorem mW_good {M M' : MI} (hc : Cond.code M'.1 M'.2.1 M'.2.2.1 M'.2.2.2 ∈ bigW) : GoodIn (mW M) (mW M') := by
  intro w hw
  have h1 : w ∈ bigW := by
    rcases List.mem_cons.mp hw with rfl | h
    · exact hc
    · exact h
  exact ⟨List.mem_cons_of_mem _ h1, good_of_word (List.mem_filter.mp h1).2⟩
/-- what every callee needs -/
def KC (M' : MI) (n : Nat) : Prop := Cond.initialized M'.1.cls ∈ bigW ∧ Cond.code M'.1 M'.2.1 M'.2.2.1 M'.2.2.2 ∈ bigW ∧ plainFor M'.1 = true ∧ (M'.1.cls ≠ "java/lang/invoke/MethodHandle" ∧ M'.1.cls ≠ "java/lang/invoke/VarHandle" ∧ (parseMethodDescriptor M'.1.desc).map (fun d => d.parameters.length) = some n) ∧ M'.2.2.1 ≤ 17
def KS (own : String) (idx : Nat) (M' : MI) (n : Nat) : Prop := KC M' n ∧ Cond.static M'.1 ∈ bigW ∧ (Cond.methodLink own idx M'.1 ∈ bigW ∨ ∃ host, Cond.methodLinkNest own idx M'.1 host ∈ nestW)
def KV (own : String) (idx : Nat) (M' : MI) (ci n : Nat) : Prop := KC M' n ∧ Cond.instanceMethod M'.1 ∈ bigW ∧ Cond.selects M'.1.cls M'.1 M'.1 ∈ bigW ∧ (∃ T N, vwCl[ci]? = some (M'.1.cls, T, N)) ∧ (Cond.methodLink own idx M'.1 ∈ bigW ∨ ∃ host, Cond.methodLinkNest own idx M'.1 host ∈ nestW)
theorem aw_run {M : MI} {d pc : Nat} {st0 st : List Value} {h : Hp} {Q Q' : Option Value → Hp → Prop} {lv : List (Option Value)} {a : Array Value}
    (kk : ∀ v h', Q' v h' → AW M d (pc + 3) lv (v.toList ++ st) h' Q)
    {p : Program} {l : Launch} {e : Env} {s : State} {m : MethodId} {args : Array Value} {below : List Frame} {meth : Method} {c : Code} {G : Gx} {H : Heap} {locs : List Loc} {ls : Array Slot}
    (hc : CX M p s m args meth c) (hwd : WD G h s H locs) (hl : LV G M.2.2.1 ls lv)
    (hr : va_Run p l e (rmD d) s m args below meth c H locs 0 0 0 0 (F0 m pc ls st0) (st.map (cv (ga G))) (Qo G Q' a) (gA G)) :
    W p l e (rmD d) s m args below meth c H locs 0 0 (MQ below (Qo G Q) args s 0 0 (gA G)) (F0 m pc ls st0) := by
  obtain ⟨hK, hP, hD, hS, hA⟩ := hwd
  intro T hT X
  obtain ⟨v, st₀, t, T', L, h0, X', hL, e1, e2, ⟨v', h', hv, hq, hP', hD', hz, hk⟩, stp⟩ := hr T hT X
  have hv : v = v'.map (cv (ga G)) := Outcome.returned.inj hv
  subst hv
  rw [h0] at hz hk
  have hS' : va_S (gA G) s.heap T'.heap (locs ++ L) := by
    refine ⟨Nat.le_trans hS.1 (by rw [e1]; exact hz), fun q h1 h2 => ?_, fun q hq => ?_⟩
    · rw [e1, hk q (Nat.lt_of_lt_of_le h1 hS.1) h2]
      exact hS.2.1 q h1 h2
    · rcases List.mem_append.mp hq with h | h
      · exact hS.2.2 q h
      · exact hL q h
  obtain ⟨t2, a1, b1⟩ := kk v' h' hq p l e s m args below meth c G T'.heap (locs ++ L) ls hc ⟨hK, by rw [e1]; exact hP', hD', hS', hA⟩ hl T' rfl X'
  refine ⟨t2, stp t2 ?_, b1⟩
  cases v' <;> exact a1
theorem aw_callS {M M' : MI} {d pc idx n : Nat} {as st0 st : List Value} {h : Hp} {Q Q' : Option Value → Hp → Prop} {lv : List (Option Value)} (hd : decode M.2.1 pc = .ok (.invokestatic idx, 3)) (hk : KS M.1.cls idx M' n) (hR : RT M' d as h Q')
    (hst : st0 = as.reverse ++ st) (hn : as.length = n) (hcat0 : (as.all fun w => decide (w.category = 1)) = true) (hlen : as.length ≤ M'.2.2.1) (hz : (st.map fun v => v.category).sum ≤ 8)
    (kk : ∀ v h', Q' v h' → AW M (d + 1) (pc + 3) lv (v.toList ++ st) h' Q) : AW M (d + 1) pc lv st0 h Q := by
  have hcat : ∀ w ∈ as, w.category = 1 := fun w hw => of_decide_eq_true (List.all_eq_true.mp hcat0 w hw)
  intro p l e s m args below meth c G H locs ls hc hwd hl
  obtain ⟨hx, hb, hr, hml, hown, hts, hns, hlk⟩ := id hc
  obtain ⟨⟨k1, k2, k3, k4, k5⟩, k6, k7⟩ := hk
  subst hst
  have hM := hR.met k3 hcat hlen l G
  have hRR : (rmD d).frames + 1 ≤ (rmD (d + 1)).frames ∧ 8 + (M'.2.2.1 + 11) + (rmD d).locals ≤ (rmD (d + 1)).locals := by
    refine ⟨Nat.le_refl _, ?_⟩
    show 8 + (M'.2.2.1 + 11) + 36 * d ≤ 36 * (d + 1)
    omega
  have hW : 2 * (F0 m pc ls ((as.reverse ++ st).map (cv (ga G)))).monitorRoom + ((st.map (cv (ga G))).map fun v => v.category).sum ≤ 8 := lv_room (by rw [cats_cv]; exact hz)
  have hpre : PreS s H (PcO G as h) (as.map (cv (ga G))) := ⟨PcO.blind G as h, PcO.pre hwd hns⟩
  rcases k7 with k7 | ⟨host, k7⟩
  · refine aw_run kk hc hwd hl (va_runS (n := n) (As := as.map (cv (ga G))) (rest := st.map (cv (ga G))) ⟨hx, hb, hml, hown, hts⟩ hM ⟨callB_of n hts (mW_good k2) rfl rfl rfl (hbig hts k1) (hbig hts k7) k4 hRR, hbig hts k6⟩ hpre rfl (by rw [List.length_map]; exact hn) hl.2.1 (by simp) hW hd ⟨Nat.le_refl _, Nat.le_refl _⟩)
  · refine aw_run kk hc hwd hl (va_runSN (n := n) (As := as.map (cv (ga G))) (rest := st.map (cv (ga G))) ⟨hx, hb, hml, hown, hts⟩ hM ⟨va_cnB n hts (mW_good k2) rfl rfl rfl (hns _ k7) (hbig hts k1) k4 hRR, hbig hts k6, trivial⟩ hpre rfl (by rw [List.length_map]; exact hn) hl.2.1 (by simp) hW hd ⟨Nat.le_refl _, Nat.le_refl _⟩)
theorem aw_callV {M M' : MI} {d pc idx ci n b : Nat} {as st0 st : List Value} {h : Hp} {Q Q' : Option Value → Hp → Prop} {lv : List (Option Value)} {fs : List (Option Nat)} (hd : decode M.2.1 pc = .ok (.invokevirtual idx, 3)) (hk : KV M.1.cls idx M' ci n) (hR : RT M' d (.ref b :: as) h Q') (ho : lay[b]? = some (oO ci fs))
    (hst : st0 = as.reverse ++ .ref b :: st) (hn : as.length = n) (hcat0 : (as.all fun w => decide (w.category = 1)) = true) (hlen : as.length + 1 ≤ M'.2.2.1) (hz : (st.map fun v => v.category).sum ≤ 8)
    (kk : ∀ v h', Q' v h' → AW M (d + 1) (pc + 3) lv (v.toList ++ st) h' Q) : AW M (d + 1) pc lv st0 h Q := by
  have hcat : ∀ w ∈ as, w.category = 1 := fun w hw => of_decide_eq_true (List.all_eq_true.mp hcat0 w hw)
  intro p l e s m args below meth c G H locs ls hc hwd hl
  obtain ⟨hx, hb, hr, hml, hown, hts, hns, hlk⟩ := id hc
  obtain ⟨⟨k1, k2, k3, k4, k5⟩, k6, k8, ⟨T, N, kc⟩, k7⟩ := hk
  subst hst
  have hM := hR.met k3 (fun w hw => by
    rcases List.mem_cons.mp hw with rfl | hw
    · rfl
    · exact hcat w hw) hlen l G
  have hRR : (rmD d).frames + 1 ≤ (rmD (d + 1)).frames ∧ 8 + (M'.2.2.1 + 11) + (rmD d).locals ≤ (rmD (d + 1)).locals := by
    refine ⟨Nat.le_refl _, ?_⟩
    show 8 + (M'.2.2.1 + 11) + 36 * d ≤ 36 * (d + 1)
    omega
  have hW : 2 * (F0 m pc ls ((as.reverse ++ .ref b :: st).map (cv (ga G)))).monitorRoom + ((st.map (cv (ga G))).map fun v => v.category).sum ≤ 8 := lv_room (by rw [cats_cv]; exact hz)
  have hpre : PreV s H M'.1.cls (ga G b) (PcO G (.ref b :: as) h) (as.map (cv (ga G))) := ⟨PcO.blind G _ h, va_recv hwd.1 hwd.2.1 kc (wl_at ho), PcO.pre (as := .ref b :: as) hwd hns⟩
  rcases k7 with k7 | ⟨host, k7⟩
  · refine aw_run kk hc hwd hl (va_runV (n := n) (As := as.map (cv (ga G))) (b := ga G b) (rest := st.map (cv (ga G))) ⟨hx, hb, hml, hown, hts⟩ hM ⟨callB_of n hts (mW_good k2) rfl rfl rfl (hbig hts k1) (hbig hts k7) k4 hRR, hbig hts k6, hbig hts k8⟩ hpre rfl (by rw [List.length_map]; exact hn) hl.2.1 (by simp [cv]) hW hd ⟨Nat.le_refl _, Nat.le_refl _⟩)
  · refine aw_run kk hc hwd hl (va_runVN (n := n) (As := as.map (cv (ga G))) (b := ga G b) (rest := st.map (cv (ga G))) ⟨hx, hb, hml, hown, hts⟩ hM ⟨va_cnB n hts (mW_good k2) rfl rfl rfl (hns _ k7) (hbig hts k1) k4 hRR, hbig hts k6, hbig hts k8⟩ hpre rfl (by rw [List.length_map]; exact hn) hl.2.1 (by simp [cv]) hW hd ⟨Nat.le_refl _, Nat.le_refl _⟩)
end
section
theorem bigI (i : Nat) {w : Cond} (h : lw_tbl[i]? = some w) (g : goodWord w = true) : w ∈ bigW := List.mem_filter.mpr ⟨List.mem_of_getElem? h, g⟩
theorem nestI (i : Nat) {w : Cond} (h : lw_tbl[i]? = some w) (g : isNest w = true) : w ∈ nestW := List.mem_filter.mpr ⟨List.mem_of_getElem? h, g⟩
def yM_floorMod : MethodName := ⟨"java/lang/Math", "floorMod", "(II)I"⟩
abbrev cM_floorMod : ByteArray := prog_11_method_50_code
abbrev mX0_init : MI := (yX0_init, cX0_init, 3, none)
abbrev mX0_isFull : MI := (yX0_isFull, cX0_isFull, 1, some .boolean)
set_option maxRecDepth 20000 in
theorem kcX0_isFull : KC mX0_isFull 0 := ⟨bigI 51 (by decide +kernel) rfl, bigI 505 rfl rfl, by decide +kernel, ⟨by decide +kernel, by decide +kernel, by decide +kernel⟩, by decide⟩
abbrev mX0_size : MI := (yX0_size, cX0_size, 1, some .int)
set_option maxRecDepth 20000 in
theorem kcX0_size : KC mX0_size 0 := ⟨bigI 51 (by decide +kernel) rfl, bigI 599 rfl rfl, by decide +kernel, ⟨by decide +kernel, by decide +kernel, by decide +kernel⟩, by decide⟩
abbrev mX0_clear : MI := (yX0_clear, cX0_clear, 1, none)
set_option maxRecDepth 20000 in
theorem kcX0_clear : KC mX0_clear 0 := ⟨bigI 51 (by decide +kernel) rfl, bigI 350 rfl rfl, by decide +kernel, ⟨by decide +kernel, by decide +kernel, by decide +kernel⟩, by decide⟩
abbrev mX0_push : MI := (yX0_push, cX0_push, 3, none)
set_option maxRecDepth 20000 in
theorem kcX0_push : KC mX0_push 1 := ⟨bigI 51 (by decide +kernel) rfl, bigI 501 rfl rfl, by decide +kernel, ⟨by decide +kernel, by decide +kernel, by decide +kernel⟩, by decide⟩
abbrev mX0_pop : MI := (yX0_pop, cX0_pop, 3, some .boolean)
set_option maxRecDepth 20000 in
theorem kcX0_pop : KC mX0_pop 1 := ⟨bigI 51 (by decide +kernel) rfl, bigI 595 rfl rfl, by decide +kernel, ⟨by decide +kernel, by decide +kernel, by decide +kernel⟩, by decide⟩
abbrev mX0_standingAt : MI := (yX0_standingAt, cX0_standingAt, 2, some (.object "BirthdayRooms$Standing"))
set_option maxRecDepth 20000 in
theorem kcX0_standingAt : KC mX0_standingAt 1 := ⟨bigI 51 (by decide +kernel) rfl, bigI 513 rfl rfl, by decide +kernel, ⟨by decide +kernel, by decide +kernel, by decide +kernel⟩, by decide⟩
abbrev mX0_loseLowest : MI := (yX0_loseLowest, cX0_loseLowest, 4, none)
set_option maxRecDepth 20000 in
theorem kcX0_loseLowest : KC mX0_loseLowest 0 := ⟨bigI 51 (by decide +kernel) rfl, bigI 509 rfl rfl, by decide +kernel, ⟨by decide +kernel, by decide +kernel, by decide +kernel⟩, by decide⟩
abbrev mX1_init : MI := (yX1_init, cX1_init, 1, none)
abbrev mX1_clear : MI := (yX1_clear, cX1_clear, 1, none)
set_option maxRecDepth 20000 in
theorem kcX1_clear : KC mX1_clear 0 := ⟨bigI 49 (by decide +kernel) rfl, bigI 278 rfl rfl, by decide +kernel, ⟨by decide +kernel, by decide +kernel, by decide +kernel⟩, by decide⟩
abbrev mX1_addCousin : MI := (yX1_addCousin, cX1_addCousin, 4, some .boolean)
set_option maxRecDepth 20000 in
theorem kcX1_addCousin : KC mX1_addCousin 3 := ⟨bigI 49 (by decide +kernel) rfl, bigI 308 rfl rfl, by decide +kernel, ⟨by decide +kernel, by decide +kernel, by decide +kernel⟩, by decide⟩
abbrev mX1_addRoom : MI := (yX1_addRoom, cX1_addRoom, 3, some .boolean)
set_option maxRecDepth 20000 in
theorem kcX1_addRoom : KC mX1_addRoom 2 := ⟨bigI 49 (by decide +kernel) rfl, bigI 316 rfl rfl, by decide +kernel, ⟨by decide +kernel, by decide +kernel, by decide +kernel⟩, by decide⟩
abbrev mX1_canBeLaid : MI := (yX1_canBeLaid, cX1_canBeLaid, 1, some .boolean)
set_option maxRecDepth 20000 in
theorem kcX1_canBeLaid : KC mX1_canBeLaid 0 := ⟨bigI 49 (by decide +kernel) rfl, bigI 415 rfl rfl, by decide +kernel, ⟨by decide +kernel, by decide +kernel, by decide +kernel⟩, by decide⟩
abbrev mX1_copyFrom : MI := (yX1_copyFrom, cX1_copyFrom, 2, none)
set_option maxRecDepth 20000 in
theorem kcX1_copyFrom : KC mX1_copyFrom 1 := ⟨bigI 49 (by decide +kernel) rfl, bigI 324 rfl rfl, by decide +kernel, ⟨by decide +kernel, by decide +kernel, by decide +kernel⟩, by decide⟩
abbrev mX1_cousins : MI := (yX1_cousins, cX1_cousins, 1, some .int)
set_option maxRecDepth 20000 in
theorem kcX1_cousins : KC mX1_cousins 0 := ⟨bigI 49 (by decide +kernel) rfl, bigI 419 rfl rfl, by decide +kernel, ⟨by decide +kernel, by decide +kernel, by decide +kernel⟩, by decide⟩
abbrev mX1_rooms : MI := (yX1_rooms, cX1_rooms, 1, some .int)
set_option maxRecDepth 20000 in
theorem kcX1_rooms : KC mX1_rooms 0 := ⟨bigI 49 (by decide +kernel) rfl, bigI 477 rfl rfl, by decide +kernel, ⟨by decide +kernel, by decide +kernel, by decide +kernel⟩, by decide⟩
abbrev mX1_kindOf : MI := (yX1_kindOf, cX1_kindOf, 2, some .int)
set_option maxRecDepth 20000 in
theorem kcX1_kindOf : KC mX1_kindOf 1 := ⟨bigI 49 (by decide +kernel) rfl, bigI 431 rfl rfl, by decide +kernel, ⟨by decide +kernel, by decide +kernel, by decide +kernel⟩, by decide⟩
abbrev mX1_birthdayAtFirst : MI := (yX1_birthdayAtFirst, cX1_birthdayAtFirst, 2, some .int)
set_option maxRecDepth 20000 in
theorem kcX1_birthdayAtFirst : KC mX1_birthdayAtFirst 1 := ⟨bigI 49 (by decide +kernel) rfl, bigI 336 rfl rfl, by decide +kernel, ⟨by decide +kernel, by decide +kernel, by decide +kernel⟩, by decide⟩
abbrev mX1_wantOf : MI := (yX1_wantOf, cX1_wantOf, 2, some .int)
set_option maxRecDepth 20000 in
theorem kcX1_wantOf : KC mX1_wantOf 1 := ⟨bigI 49 (by decide +kernel) rfl, bigI 440 rfl rfl, by decide +kernel, ⟨by decide +kernel, by decide +kernel, by decide +kernel⟩, by decide⟩
abbrev mX1_winterSun : MI := (yX1_winterSun, cX1_winterSun, 2, some .int)
set_option maxRecDepth 20000 in
theorem kcX1_winterSun : KC mX1_winterSun 1 := ⟨bigI 49 (by decide +kernel) rfl, bigI 481 rfl rfl, by decide +kernel, ⟨by decide +kernel, by decide +kernel, by decide +kernel⟩, by decide⟩
abbrev mX1_summerSun : MI := (yX1_summerSun, cX1_summerSun, 2, some .int)
set_option maxRecDepth 20000 in
theorem kcX1_summerSun : KC mX1_summerSun 1 := ⟨bigI 49 (by decide +kernel) rfl, bigI 485 rfl rfl, by decide +kernel, ⟨by decide +kernel, by decide +kernel, by decide +kernel⟩, by decide⟩
abbrev mX1_sunsOn : MI := (yX1_sunsOn, cX1_sunsOn, 2, some (.array .int))
set_option maxRecDepth 20000 in
theorem kcX1_sunsOn : KC mX1_sunsOn 1 := ⟨bigI 49 (by decide +kernel) rfl, bigI 542 rfl rfl, by decide +kernel, ⟨by decide +kernel, by decide +kernel, by decide +kernel⟩, by decide⟩
abbrev mX2_init : MI := (yX2_init, cX2_init, 3, none)
abbrev mX2_best : MI := (yX2_best, cX2_best, 1, some .int)
set_option maxRecDepth 20000 in
theorem kcX2_best : KC mX2_best 0 := ⟨bigI 55 (by decide +kernel) rfl, bigI 666 rfl rfl, by decide +kernel, ⟨by decide +kernel, by decide +kernel, by decide +kernel⟩, by decide⟩
abbrev mX2_firstPair : MI := (yX2_firstPair, cX2_firstPair, 1, some .int)
set_option maxRecDepth 20000 in
theorem kcX2_firstPair : KC mX2_firstPair 0 := ⟨bigI 55 (by decide +kernel) rfl, bigI 670 rfl rfl, by decide +kernel, ⟨by decide +kernel, by decide +kernel, by decide +kernel⟩, by decide⟩
abbrev mX2_secondPair : MI := (yX2_secondPair, cX2_secondPair, 1, some .int)
set_option maxRecDepth 20000 in
theorem kcX2_secondPair : KC mX2_secondPair 0 := ⟨bigI 55 (by decide +kernel) rfl, bigI 674 rfl rfl, by decide +kernel, ⟨by decide +kernel, by decide +kernel, by decide +kernel⟩, by decide⟩
abbrev mX2_seekMostSun : MI := (yX2_seekMostSun, cX2_seekMostSun, 7, none)
set_option maxRecDepth 20000 in
theorem kcX2_seekMostSun : KC mX2_seekMostSun 3 := ⟨bigI 55 (by decide +kernel) rfl, bigI 644 rfl rfl, by decide +kernel, ⟨by decide +kernel, by decide +kernel, by decide +kernel⟩, by decide⟩
abbrev mX2_seekFewestCold : MI := (yX2_seekFewestCold, cX2_seekFewestCold, 4, none)
set_option maxRecDepth 20000 in
theorem kcX2_seekFewestCold : KC mX2_seekFewestCold 2 := ⟨bigI 55 (by decide +kernel) rfl, bigI 682 rfl rfl, by decide +kernel, ⟨by decide +kernel, by decide +kernel, by decide +kernel⟩, by decide⟩
abbrev mX2_ownersByOneSwap : MI := (yX2_ownersByOneSwap, cX2_ownersByOneSwap, 6, some .int)
set_option maxRecDepth 20000 in
theorem kcX2_ownersByOneSwap : KC mX2_ownersByOneSwap 3 := ⟨bigI 55 (by decide +kernel) rfl, bigI 691 rfl rfl, by decide +kernel, ⟨by decide +kernel, by decide +kernel, by decide +kernel⟩, by decide⟩
abbrev mX2_isPair : MI := (yX2_isPair, cX2_isPair, 2, some .boolean)
set_option maxRecDepth 20000 in
theorem kcX2_isPair : KC mX2_isPair 1 := ⟨bigI 55 (by decide +kernel) rfl, bigI 661 rfl rfl, by decide +kernel, ⟨by decide +kernel, by decide +kernel, by decide +kernel⟩, by decide⟩
abbrev mX2_beginBy : MI := (yX2_beginBy, cX2_beginBy, 4, none)
set_option maxRecDepth 20000 in
theorem kcX2_beginBy : KC mX2_beginBy 3 := ⟨bigI 55 (by decide +kernel) rfl, bigI 648 rfl rfl, by decide +kernel, ⟨by decide +kernel, by decide +kernel, by decide +kernel⟩, by decide⟩
abbrev mX2_take : MI := (yX2_take, cX2_take, 4, none)
set_option maxRecDepth 20000 in
theorem kcX2_take : KC mX2_take 3 := ⟨bigI 55 (by decide +kernel) rfl, bigI 657 rfl rfl, by decide +kernel, ⟨by decide +kernel, by decide +kernel, by decide +kernel⟩, by decide⟩
abbrev mX3_init : MI := (yX3_init, cX3_init, 1, none)
abbrev mX3_isFull : MI := (yX3_isFull, cX3_isFull, 1, some .boolean)
set_option maxRecDepth 20000 in
theorem kcX3_isFull : KC mX3_isFull 0 := ⟨bigI 53 (by decide +kernel) rfl, bigI 719 rfl rfl, by decide +kernel, ⟨by decide +kernel, by decide +kernel, by decide +kernel⟩, by decide⟩
abbrev mX3_size : MI := (yX3_size, cX3_size, 1, some .int)
set_option maxRecDepth 20000 in
theorem kcX3_size : KC mX3_size 0 := ⟨bigI 53 (by decide +kernel) rfl, bigI 733 rfl rfl, by decide +kernel, ⟨by decide +kernel, by decide +kernel, by decide +kernel⟩, by decide⟩
abbrev mX3_clear : MI := (yX3_clear, cX3_clear, 1, none)
set_option maxRecDepth 20000 in
theorem kcX3_clear : KC mX3_clear 0 := ⟨bigI 53 (by decide +kernel) rfl, bigI 346 rfl rfl, by decide +kernel, ⟨by decide +kernel, by decide +kernel, by decide +kernel⟩, by decide⟩
abbrev mX3_add : MI := (yX3_add, cX3_add, 5, none)
set_option maxRecDepth 20000 in
theorem kcX3_add : KC mX3_add 3 := ⟨bigI 53 (by decide +kernel) rfl, bigI 723 rfl rfl, by decide +kernel, ⟨by decide +kernel, by decide +kernel, by decide +kernel⟩, by decide⟩
abbrev mX3_set : MI := (yX3_set, cX3_set, 5, none)
set_option maxRecDepth 20000 in
theorem kcX3_set : KC mX3_set 4 := ⟨bigI 53 (by decide +kernel) rfl, bigI 728 rfl rfl, by decide +kernel, ⟨by decide +kernel, by decide +kernel, by decide +kernel⟩, by decide⟩
abbrev mX3_allHoldOn : MI := (yX3_allHoldOn, cX3_allHoldOn, 5, some .boolean)
set_option maxRecDepth 20000 in
theorem kcX3_allHoldOn : KC mX3_allHoldOn 1 := ⟨bigI 53 (by decide +kernel) rfl, bigI 750 rfl rfl, by decide +kernel, ⟨by decide +kernel, by decide +kernel, by decide +kernel⟩, by decide⟩
abbrev mX4_init : MI := (yX4_init, cX4_init, 1, none)
abbrev mX4_beginAs : MI := (yX4_beginAs, cX4_beginAs, 3, none)
set_option maxRecDepth 20000 in
theorem kcX4_beginAs : KC mX4_beginAs 1 := ⟨bigI 50 (by decide +kernel) rfl, bigI 331 rfl rfl, by decide +kernel, ⟨by decide +kernel, by decide +kernel, by decide +kernel⟩, by decide⟩
abbrev mX4_copyFrom : MI := (yX4_copyFrom, cX4_copyFrom, 2, none)
set_option maxRecDepth 20000 in
theorem kcX4_copyFrom : KC mX4_copyFrom 1 := ⟨bigI 50 (by decide +kernel) rfl, bigI 341 rfl rfl, by decide +kernel, ⟨by decide +kernel, by decide +kernel, by decide +kernel⟩, by decide⟩
abbrev mX4_day : MI := (yX4_day, cX4_day, 1, some .int)
set_option maxRecDepth 20000 in
theorem kcX4_day : KC mX4_day 0 := ⟨bigI 50 (by decide +kernel) rfl, bigI 497 rfl rfl, by decide +kernel, ⟨by decide +kernel, by decide +kernel, by decide +kernel⟩, by decide⟩
abbrev mX4_addDays : MI := (yX4_addDays, cX4_addDays, 2, none)
set_option maxRecDepth 20000 in
theorem kcX4_addDays : KC mX4_addDays 1 := ⟨bigI 50 (by decide +kernel) rfl, bigI 570 rfl rfl, by decide +kernel, ⟨by decide +kernel, by decide +kernel, by decide +kernel⟩, by decide⟩
abbrev mX4_roomOf : MI := (yX4_roomOf, cX4_roomOf, 2, some .int)
set_option maxRecDepth 20000 in
theorem kcX4_roomOf : KC mX4_roomOf 1 := ⟨bigI 50 (by decide +kernel) rfl, bigI 444 rfl rfl, by decide +kernel, ⟨by decide +kernel, by decide +kernel, by decide +kernel⟩, by decide⟩
abbrev mX4_ownerOf : MI := (yX4_ownerOf, cX4_ownerOf, 4, some .int)
set_option maxRecDepth 20000 in
theorem kcX4_ownerOf : KC mX4_ownerOf 2 := ⟨bigI 50 (by decide +kernel) rfl, bigI 489 rfl rfl, by decide +kernel, ⟨by decide +kernel, by decide +kernel, by decide +kernel⟩, by decide⟩
abbrev mX4_birthdayOf : MI := (yX4_birthdayOf, cX4_birthdayOf, 2, some .int)
set_option maxRecDepth 20000 in
theorem kcX4_birthdayOf : KC mX4_birthdayOf 1 := ⟨bigI 50 (by decide +kernel) rfl, bigI 435 rfl rfl, by decide +kernel, ⟨by decide +kernel, by decide +kernel, by decide +kernel⟩, by decide⟩
abbrev mX4_setBirthday : MI := (yX4_setBirthday, cX4_setBirthday, 3, none)
set_option maxRecDepth 20000 in
theorem kcX4_setBirthday : KC mX4_setBirthday 2 := ⟨bigI 50 (by decide +kernel) rfl, bigI 587 rfl rfl, by decide +kernel, ⟨by decide +kernel, by decide +kernel, by decide +kernel⟩, by decide⟩
abbrev mX4_exchange : MI := (yX4_exchange, cX4_exchange, 4, none)
set_option maxRecDepth 20000 in
theorem kcX4_exchange : KC mX4_exchange 2 := ⟨bigI 50 (by decide +kernel) rfl, bigI 547 rfl rfl, by decide +kernel, ⟨by decide +kernel, by decide +kernel, by decide +kernel⟩, by decide⟩
abbrev mX4_hasRoomsOf : MI := (yX4_hasRoomsOf, cX4_hasRoomsOf, 4, some .boolean)
set_option maxRecDepth 20000 in
theorem kcX4_hasRoomsOf : KC mX4_hasRoomsOf 2 := ⟨bigI 50 (by decide +kernel) rfl, bigI 700 rfl rfl, by decide +kernel, ⟨by decide +kernel, by decide +kernel, by decide +kernel⟩, by decide⟩
abbrev mX4_daysToBirthdayOf : MI := (yX4_daysToBirthdayOf, cX4_daysToBirthdayOf, 2, some .int)
set_option maxRecDepth 20000 in
theorem kcX4_daysToBirthdayOf : KC mX4_daysToBirthdayOf 1 := ⟨bigI 50 (by decide +kernel) rfl, bigI 555 rfl rfl, by decide +kernel, ⟨by decide +kernel, by decide +kernel, by decide +kernel⟩, by decide⟩
abbrev mX5_init : MI := (yX5_init, cX5_init, 1, none)
abbrev mX5_isFull : MI := (yX5_isFull, cX5_isFull, 1, some .boolean)
set_option maxRecDepth 20000 in
theorem kcX5_isFull : KC mX5_isFull 0 := ⟨bigI 48 (by decide +kernel) rfl, bigI 395 rfl rfl, by decide +kernel, ⟨by decide +kernel, by decide +kernel, by decide +kernel⟩, by decide⟩
abbrev mX5_size : MI := (yX5_size, cX5_size, 1, some .int)
set_option maxRecDepth 20000 in
theorem kcX5_size : KC mX5_size 0 := ⟨bigI 48 (by decide +kernel) rfl, bigI 399 rfl rfl, by decide +kernel, ⟨by decide +kernel, by decide +kernel, by decide +kernel⟩, by decide⟩
abbrev mX5_add : MI := (yX5_add, cX5_add, 2, none)
set_option maxRecDepth 20000 in
theorem kcX5_add : KC mX5_add 1 := ⟨bigI 48 (by decide +kernel) rfl, bigI 270 rfl rfl, by decide +kernel, ⟨by decide +kernel, by decide +kernel, by decide +kernel⟩, by decide⟩
abbrev mX5_clear : MI := (yX5_clear, cX5_clear, 1, none)
set_option maxRecDepth 20000 in
theorem kcX5_clear : KC mX5_clear 0 := ⟨bigI 48 (by decide +kernel) rfl, bigI 354 rfl rfl, by decide +kernel, ⟨by decide +kernel, by decide +kernel, by decide +kernel⟩, by decide⟩
abbrev mX5_readInto : MI := (yX5_readInto, cX5_readInto, 4, some .int)
set_option maxRecDepth 20000 in
theorem kcX5_readInto : KC mX5_readInto 1 := ⟨bigI 48 (by decide +kernel) rfl, bigI 274 rfl rfl, by decide +kernel, ⟨by decide +kernel, by decide +kernel, by decide +kernel⟩, by decide⟩
abbrev mX5_readItem : MI := (yX5_readItem, cX5_readItem, 3, some .boolean)
set_option maxRecDepth 20000 in
theorem kcX5_readItem : KC mX5_readItem 1 := ⟨bigI 48 (by decide +kernel) rfl, bigI 282 rfl rfl, by decide +kernel, ⟨by decide +kernel, by decide +kernel, by decide +kernel⟩, by decide⟩
abbrev mX5_readNumbers : MI := (yX5_readNumbers, cX5_readNumbers, 5, some .boolean)
set_option maxRecDepth 20000 in
theorem kcX5_readNumbers : KC mX5_readNumbers 1 := ⟨bigI 48 (by decide +kernel) rfl, bigI 290 rfl rfl, by decide +kernel, ⟨by decide +kernel, by decide +kernel, by decide +kernel⟩, by decide⟩
abbrev mX5_readNumber : MI := (yX5_readNumber, cX5_readNumber, 3, some .int)
set_option maxRecDepth 20000 in
theorem kcX5_readNumber : KC mX5_readNumber 0 := ⟨bigI 48 (by decide +kernel) rfl, bigI 294 rfl rfl, by decide +kernel, ⟨by decide +kernel, by decide +kernel, by decide +kernel⟩, by decide⟩
abbrev mX5_isFigure : MI := (yX5_isFigure, cX5_isFigure, 1, some .boolean)
set_option maxRecDepth 20000 in
theorem kcX5_isFigure : KC mX5_isFigure 1 := ⟨bigI 48 (by decide +kernel) rfl, bigI 297 rfl rfl, by decide +kernel, ⟨by decide +kernel, by decide +kernel, by decide +kernel⟩, by decide⟩
abbrev mX5_letterHere : MI := (yX5_letterHere, cX5_letterHere, 1, some .char)
set_option maxRecDepth 20000 in
theorem kcX5_letterHere : KC mX5_letterHere 0 := ⟨bigI 48 (by decide +kernel) rfl, bigI 286 rfl rfl, by decide +kernel, ⟨by decide +kernel, by decide +kernel, by decide +kernel⟩, by decide⟩
abbrev mX6_init : MI := (yX6_init, cX6_init, 2, none)
abbrev mX6_begin : MI := (yX6_begin, cX6_begin, 2, none)
set_option maxRecDepth 20000 in
theorem kcX6_begin : KC mX6_begin 1 := ⟨bigI 54 (by decide +kernel) rfl, bigI 448 rfl rfl, by decide +kernel, ⟨by decide +kernel, by decide +kernel, by decide +kernel⟩, by decide⟩
abbrev mX6_beginWith : MI := (yX6_beginWith, cX6_beginWith, 4, none)
set_option maxRecDepth 20000 in
theorem kcX6_beginWith : KC mX6_beginWith 3 := ⟨bigI 54 (by decide +kernel) rfl, bigI 745 rfl rfl, by decide +kernel, ⟨by decide +kernel, by decide +kernel, by decide +kernel⟩, by decide⟩
abbrev mX6_standing : MI := (yX6_standing, cX6_standing, 1, some (.object "BirthdayRooms$Standing"))
set_option maxRecDepth 20000 in
theorem kcX6_standing : KC mX6_standing 0 := ⟨bigI 54 (by decide +kernel) rfl, bigI 574 rfl rfl, by decide +kernel, ⟨by decide +kernel, by decide +kernel, by decide +kernel⟩, by decide⟩
abbrev mX6_listed : MI := (yX6_listed, cX6_listed, 2, some .int)
set_option maxRecDepth 20000 in
theorem kcX6_listed : KC mX6_listed 1 := ⟨bigI 54 (by decide +kernel) rfl, bigI 773 rfl rfl, by decide +kernel, ⟨by decide +kernel, by decide +kernel, by decide +kernel⟩, by decide⟩
abbrev mX6_placeOf : MI := (yX6_placeOf, cX6_placeOf, 3, some .int)
set_option maxRecDepth 20000 in
theorem kcX6_placeOf : KC mX6_placeOf 1 := ⟨bigI 54 (by decide +kernel) rfl, bigI 465 rfl rfl, by decide +kernel, ⟨by decide +kernel, by decide +kernel, by decide +kernel⟩, by decide⟩
abbrev mX6_sunTogether : MI := (yX6_sunTogether, cX6_sunTogether, 2, some .int)
set_option maxRecDepth 20000 in
theorem kcX6_sunTogether : KC mX6_sunTogether 1 := ⟨bigI 54 (by decide +kernel) rfl, bigI 615 rfl rfl, by decide +kernel, ⟨by decide +kernel, by decide +kernel, by decide +kernel⟩, by decide⟩
abbrev mX6_coldTogether : MI := (yX6_coldTogether, cX6_coldTogether, 1, some .int)
set_option maxRecDepth 20000 in
theorem kcX6_coldTogether : KC mX6_coldTogether 0 := ⟨bigI 54 (by decide +kernel) rfl, bigI 636 rfl rfl, by decide +kernel, ⟨by decide +kernel, by decide +kernel, by decide +kernel⟩, by decide⟩
abbrev mX6_coldBits : MI := (yX6_coldBits, cX6_coldBits, 3, some .int)
set_option maxRecDepth 20000 in
theorem kcX6_coldBits : KC mX6_coldBits 0 := ⟨bigI 54 (by decide +kernel) rfl, bigI 628 rfl rfl, by decide +kernel, ⟨by decide +kernel, by decide +kernel, by decide +kernel⟩, by decide⟩
abbrev mX6_go : MI := (yX6_go, cX6_go, 5, none)
set_option maxRecDepth 20000 in
theorem kcX6_go : KC mX6_go 1 := ⟨bigI 54 (by decide +kernel) rfl, bigI 518 rfl rfl, by decide +kernel, ⟨by decide +kernel, by decide +kernel, by decide +kernel⟩, by decide⟩
abbrev mX6_goBehind : MI := (yX6_goBehind, cX6_goBehind, 2, none)
set_option maxRecDepth 20000 in
theorem kcX6_goBehind : KC mX6_goBehind 1 := ⟨bigI 54 (by decide +kernel) rfl, bigI 623 rfl rfl, by decide +kernel, ⟨by decide +kernel, by decide +kernel, by decide +kernel⟩, by decide⟩
abbrev mX6_makeList : MI := (yX6_makeList, cX6_makeList, 3, none)
set_option maxRecDepth 20000 in
theorem kcX6_makeList : KC mX6_makeList 0 := ⟨bigI 54 (by decide +kernel) rfl, bigI 453 rfl rfl, by decide +kernel, ⟨by decide +kernel, by decide +kernel, by decide +kernel⟩, by decide⟩
abbrev mX6_clearCounts : MI := (yX6_clearCounts, cX6_clearCounts, 2, none)
set_option maxRecDepth 20000 in
theorem kcX6_clearCounts : KC mX6_clearCounts 0 := ⟨bigI 54 (by decide +kernel) rfl, bigI 461 rfl rfl, by decide +kernel, ⟨by decide +kernel, by decide +kernel, by decide +kernel⟩, by decide⟩
abbrev mX6_changeRooms : MI := (yX6_changeRooms, cX6_changeRooms, 4, none)
set_option maxRecDepth 20000 in
theorem kcX6_changeRooms : KC mX6_changeRooms 0 := ⟨bigI 54 (by decide +kernel) rfl, bigI 522 rfl rfl, by decide +kernel, ⟨by decide +kernel, by decide +kernel, by decide +kernel⟩, by decide⟩
abbrev mX6_changeRoomOf : MI := (yX6_changeRoomOf, cX6_changeRoomOf, 5, none)
set_option maxRecDepth 20000 in
theorem kcX6_changeRoomOf : KC mX6_changeRoomOf 2 := ⟨bigI 54 (by decide +kernel) rfl, bigI 527 rfl rfl, by decide +kernel, ⟨by decide +kernel, by decide +kernel, by decide +kernel⟩, by decide⟩
abbrev mX6_sunNow : MI := (yX6_sunNow, cX6_sunNow, 2, some .int)
set_option maxRecDepth 20000 in
theorem kcX6_sunNow : KC mX6_sunNow 1 := ⟨bigI 54 (by decide +kernel) rfl, bigI 538 rfl rfl, by decide +kernel, ⟨by decide +kernel, by decide +kernel, by decide +kernel⟩, by decide⟩
abbrev mX6_daysAlike : MI := (yX6_daysAlike, cX6_daysAlike, 4, some .int)
set_option maxRecDepth 20000 in
theorem kcX6_daysAlike : KC mX6_daysAlike 0 := ⟨bigI 54 (by decide +kernel) rfl, bigI 551 rfl rfl, by decide +kernel, ⟨by decide +kernel, by decide +kernel, by decide +kernel⟩, by decide⟩
abbrev mX6_countDays : MI := (yX6_countDays, cX6_countDays, 4, none)
set_option maxRecDepth 20000 in
theorem kcX6_countDays : KC mX6_countDays 1 := ⟨bigI 54 (by decide +kernel) rfl, bigI 565 rfl rfl, by decide +kernel, ⟨by decide +kernel, by decide +kernel, by decide +kernel⟩, by decide⟩
abbrev mX7_init : MI := (yX7_init, cX7_init, 2, none)
abbrev mX7_write : MI := (yX7_write, cX7_write, 2, some .int)
set_option maxRecDepth 20000 in
theorem kcX7_write : KC mX7_write 1 := ⟨bigI 47 (by decide +kernel) rfl, bigI 390 rfl rfl, by decide +kernel, ⟨by decide +kernel, by decide +kernel, by decide +kernel⟩, by decide⟩
abbrev mX7_wipe : MI := (yX7_wipe, cX7_wipe, 2, some .int)
set_option maxRecDepth 20000 in
theorem kcX7_wipe : KC mX7_wipe 0 := ⟨bigI 47 (by decide +kernel) rfl, bigI 403 rfl rfl, by decide +kernel, ⟨by decide +kernel, by decide +kernel, by decide +kernel⟩, by decide⟩
abbrev mX7_fault : MI := (yX7_fault, cX7_fault, 1, some .int)
set_option maxRecDepth 20000 in
theorem kcX7_fault : KC mX7_fault 0 := ⟨bigI 47 (by decide +kernel) rfl, bigI 407 rfl rfl, by decide +kernel, ⟨by decide +kernel, by decide +kernel, by decide +kernel⟩, by decide⟩
abbrev mX7_lay : MI := (yX7_lay, cX7_lay, 1, some .int)
set_option maxRecDepth 20000 in
theorem kcX7_lay : KC mX7_lay 0 := ⟨bigI 47 (by decide +kernel) rfl, bigI 411 rfl rfl, by decide +kernel, ⟨by decide +kernel, by decide +kernel, by decide +kernel⟩, by decide⟩
abbrev mX7_cousin : MI := (yX7_cousin, cX7_cousin, 3, some .int)
set_option maxRecDepth 20000 in
theorem kcX7_cousin : KC mX7_cousin 2 := ⟨bigI 47 (by decide +kernel) rfl, bigI 423 rfl rfl, by decide +kernel, ⟨by decide +kernel, by decide +kernel, by decide +kernel⟩, by decide⟩
abbrev mX7_room : MI := (yX7_room, cX7_room, 3, some .int)
set_option maxRecDepth 20000 in
theorem kcX7_room : KC mX7_room 2 := ⟨bigI 47 (by decide +kernel) rfl, bigI 469 rfl rfl, by decide +kernel, ⟨by decide +kernel, by decide +kernel, by decide +kernel⟩, by decide⟩
abbrev mX7_pass : MI := (yX7_pass, cX7_pass, 2, some .int)
set_option maxRecDepth 20000 in
theorem kcX7_pass : KC mX7_pass 1 := ⟨bigI 47 (by decide +kernel) rfl, bigI 493 rfl rfl, by decide +kernel, ⟨by decide +kernel, by decide +kernel, by decide +kernel⟩, by decide⟩
abbrev mX7_swap : MI := (yX7_swap, cX7_swap, 3, some .int)
set_option maxRecDepth 20000 in
theorem kcX7_swap : KC mX7_swap 2 := ⟨bigI 47 (by decide +kernel) rfl, bigI 578 rfl rfl, by decide +kernel, ⟨by decide +kernel, by decide +kernel, by decide +kernel⟩, by decide⟩
abbrev mX7_alter : MI := (yX7_alter, cX7_alter, 4, some .int)
set_option maxRecDepth 20000 in
theorem kcX7_alter : KC mX7_alter 2 := ⟨bigI 47 (by decide +kernel) rfl, bigI 583 rfl rfl, by decide +kernel, ⟨by decide +kernel, by decide +kernel, by decide +kernel⟩, by decide⟩
abbrev mX7_undo : MI := (yX7_undo, cX7_undo, 1, some .int)
set_option maxRecDepth 20000 in
theorem kcX7_undo : KC mX7_undo 0 := ⟨bigI 47 (by decide +kernel) rfl, bigI 591 rfl rfl, by decide +kernel, ⟨by decide +kernel, by decide +kernel, by decide +kernel⟩, by decide⟩
abbrev mX7_has : MI := (yX7_has, cX7_has, 3, some .int)
set_option maxRecDepth 20000 in
theorem kcX7_has : KC mX7_has 2 := ⟨bigI 47 (by decide +kernel) rfl, bigI 603 rfl rfl, by decide +kernel, ⟨by decide +kernel, by decide +kernel, by decide +kernel⟩, by decide⟩
abbrev mX7_whose : MI := (yX7_whose, cX7_whose, 3, some .int)
set_option maxRecDepth 20000 in
theorem kcX7_whose : KC mX7_whose 2 := ⟨bigI 47 (by decide +kernel) rfl, bigI 607 rfl rfl, by decide +kernel, ⟨by decide +kernel, by decide +kernel, by decide +kernel⟩, by decide⟩
abbrev mX7_sun : MI := (yX7_sun, cX7_sun, 3, some .int)
set_option maxRecDepth 20000 in
theorem kcX7_sun : KC mX7_sun 2 := ⟨bigI 47 (by decide +kernel) rfl, bigI 611 rfl rfl, by decide +kernel, ⟨by decide +kernel, by decide +kernel, by decide +kernel⟩, by decide⟩
abbrev mX7_cold : MI := (yX7_cold, cX7_cold, 2, some .int)
set_option maxRecDepth 20000 in
theorem kcX7_cold : KC mX7_cold 1 := ⟨bigI 47 (by decide +kernel) rfl, bigI 619 rfl rfl, by decide +kernel, ⟨by decide +kernel, by decide +kernel, by decide +kernel⟩, by decide⟩
abbrev mX7_want : MI := (yX7_want, cX7_want, 2, some .int)
set_option maxRecDepth 20000 in
theorem kcX7_want : KC mX7_want 1 := ⟨bigI 47 (by decide +kernel) rfl, bigI 632 rfl rfl, by decide +kernel, ⟨by decide +kernel, by decide +kernel, by decide +kernel⟩, by decide⟩
abbrev mX7_swaps : MI := (yX7_swaps, cX7_swaps, 4, some .int)
set_option maxRecDepth 20000 in
theorem kcX7_swaps : KC mX7_swaps 3 := ⟨bigI 47 (by decide +kernel) rfl, bigI 640 rfl rfl, by decide +kernel, ⟨by decide +kernel, by decide +kernel, by decide +kernel⟩, by decide⟩
abbrev mX7_warm : MI := (yX7_warm, cX7_warm, 3, some .int)
set_option maxRecDepth 20000 in
theorem kcX7_warm : KC mX7_warm 2 := ⟨bigI 47 (by decide +kernel) rfl, bigI 678 rfl rfl, by decide +kernel, ⟨by decide +kernel, by decide +kernel, by decide +kernel⟩, by decide⟩
abbrev mX7_canHave : MI := (yX7_canHave, cX7_canHave, 3, some .int)
set_option maxRecDepth 20000 in
theorem kcX7_canHave : KC mX7_canHave 2 := ⟨bigI 47 (by decide +kernel) rfl, bigI 687 rfl rfl, by decide +kernel, ⟨by decide +kernel, by decide +kernel, by decide +kernel⟩, by decide⟩
abbrev mX7_round : MI := (yX7_round, cX7_round, 3, some .int)
set_option maxRecDepth 20000 in
theorem kcX7_round : KC mX7_round 0 := ⟨bigI 47 (by decide +kernel) rfl, bigI 696 rfl rfl, by decide +kernel, ⟨by decide +kernel, by decide +kernel, by decide +kernel⟩, by decide⟩
abbrev mX7_way : MI := (yX7_way, cX7_way, 6, some .int)
set_option maxRecDepth 20000 in
theorem kcX7_way : KC mX7_way 3 := ⟨bigI 47 (by decide +kernel) rfl, bigI 705 rfl rfl, by decide +kernel, ⟨by decide +kernel, by decide +kernel, by decide +kernel⟩, by decide⟩
abbrev mX7_seen : MI := (yX7_seen, cX7_seen, 4, some .int)
set_option maxRecDepth 20000 in
theorem kcX7_seen : KC mX7_seen 3 := ⟨bigI 47 (by decide +kernel) rfl, bigI 715 rfl rfl, by decide +kernel, ⟨by decide +kernel, by decide +kernel, by decide +kernel⟩, by decide⟩
abbrev mX7_forget : MI := (yX7_forget, cX7_forget, 2, some .int)
set_option maxRecDepth 20000 in
theorem kcX7_forget : KC mX7_forget 0 := ⟨bigI 47 (by decide +kernel) rfl, bigI 737 rfl rfl, by decide +kernel, ⟨by decide +kernel, by decide +kernel, by decide +kernel⟩, by decide⟩
abbrev mX7_register : MI := (yX7_register, cX7_register, 6, some .int)
set_option maxRecDepth 20000 in
theorem kcX7_register : KC mX7_register 2 := ⟨bigI 47 (by decide +kernel) rfl, bigI 741 rfl rfl, by decide +kernel, ⟨by decide +kernel, by decide +kernel, by decide +kernel⟩, by decide⟩
abbrev mX7_foundling : MI := (yX7_foundling, cX7_foundling, 7, some .int)
set_option maxRecDepth 20000 in
theorem kcX7_foundling : KC mX7_foundling 4 := ⟨bigI 47 (by decide +kernel) rfl, bigI 757 rfl rfl, by decide +kernel, ⟨by decide +kernel, by decide +kernel, by decide +kernel⟩, by decide⟩
abbrev mX7_loses : MI := (yX7_loses, cX7_loses, 4, some .int)
set_option maxRecDepth 20000 in
theorem kcX7_loses : KC mX7_loses 1 := ⟨bigI 47 (by decide +kernel) rfl, bigI 765 rfl rfl, by decide +kernel, ⟨by decide +kernel, by decide +kernel, by decide +kernel⟩, by decide⟩
abbrev mX7_next : MI := (yX7_next, cX7_next, 5, some .int)
set_option maxRecDepth 20000 in
theorem kcX7_next : KC mX7_next 1 := ⟨bigI 47 (by decide +kernel) rfl, bigI 769 rfl rfl, by decide +kernel, ⟨by decide +kernel, by decide +kernel, by decide +kernel⟩, by decide⟩
abbrev mX7_year : MI := (yX7_year, cX7_year, 5, some .int)
set_option maxRecDepth 20000 in
theorem kcX7_year : KC mX7_year 3 := ⟨bigI 47 (by decide +kernel) rfl, bigI 778 rfl rfl, by decide +kernel, ⟨by decide +kernel, by decide +kernel, by decide +kernel⟩, by decide⟩
abbrev mX7_keep : MI := (yX7_keep, cX7_keep, 1, some .int)
set_option maxRecDepth 20000 in
theorem kcX7_keep : KC mX7_keep 0 := ⟨bigI 47 (by decide +kernel) rfl, bigI 793 rfl rfl, by decide +kernel, ⟨by decide +kernel, by decide +kernel, by decide +kernel⟩, by decide⟩
abbrev mX7_back : MI := (yX7_back, cX7_back, 1, some .int)
set_option maxRecDepth 20000 in
theorem kcX7_back : KC mX7_back 0 := ⟨bigI 47 (by decide +kernel) rfl, bigI 798 rfl rfl, by decide +kernel, ⟨by decide +kernel, by decide +kernel, by decide +kernel⟩, by decide⟩
abbrev mX7_count : MI := (yX7_count, cX7_count, 2, some .int)
set_option maxRecDepth 20000 in
theorem kcX7_count : KC mX7_count 1 := ⟨bigI 47 (by decide +kernel) rfl, bigI 802 rfl rfl, by decide +kernel, ⟨by decide +kernel, by decide +kernel, by decide +kernel⟩, by decide⟩
abbrev mX7_moveIn : MI := (yX7_moveIn, cX7_moveIn, 1, none)
set_option maxRecDepth 20000 in
theorem kcX7_moveIn : KC mX7_moveIn 0 := ⟨bigI 47 (by decide +kernel) rfl, bigI 320 rfl rfl, by decide +kernel, ⟨by decide +kernel, by decide +kernel, by decide +kernel⟩, by decide⟩
abbrev mX7_isCousin : MI := (yX7_isCousin, cX7_isCousin, 2, some .boolean)
set_option maxRecDepth 20000 in
theorem kcX7_isCousin : KC mX7_isCousin 1 := ⟨bigI 47 (by decide +kernel) rfl, bigI 427 rfl rfl, by decide +kernel, ⟨by decide +kernel, by decide +kernel, by decide +kernel⟩, by decide⟩
abbrev mX7_isRoom : MI := (yX7_isRoom, cX7_isRoom, 2, some .boolean)
set_option maxRecDepth 20000 in
theorem kcX7_isRoom : KC mX7_isRoom 1 := ⟨bigI 47 (by decide +kernel) rfl, bigI 473 rfl rfl, by decide +kernel, ⟨by decide +kernel, by decide +kernel, by decide +kernel⟩, by decide⟩
abbrev mX7_wantsBetween : MI := (yX7_wantsBetween, cX7_wantsBetween, 7, some .int)
set_option maxRecDepth 20000 in
theorem kcX7_wantsBetween : KC mX7_wantsBetween 2 := ⟨bigI 47 (by decide +kernel) rfl, bigI 709 rfl rfl, by decide +kernel, ⟨by decide +kernel, by decide +kernel, by decide +kernel⟩, by decide⟩
abbrev mX7_drawOf : MI := (yX7_drawOf, cX7_drawOf, 4, some .int)
set_option maxRecDepth 20000 in
theorem kcX7_drawOf : KC mX7_drawOf 2 := ⟨bigI 47 (by decide +kernel) rfl, bigI 781 rfl rfl, by decide +kernel, ⟨by decide +kernel, by decide +kernel, by decide +kernel⟩, by decide⟩
abbrev mX7_exchangeByDraw : MI := (yX7_exchangeByDraw, cX7_exchangeByDraw, 4, none)
set_option maxRecDepth 20000 in
theorem kcX7_exchangeByDraw : KC mX7_exchangeByDraw 1 := ⟨bigI 47 (by decide +kernel) rfl, bigI 789 rfl rfl, by decide +kernel, ⟨by decide +kernel, by decide +kernel, by decide +kernel⟩, by decide⟩
abbrev mX7_within : MI := (yX7_within, cX7_within, 3, some .boolean)
set_option maxRecDepth 20000 in
theorem kcX7_within : KC mX7_within 3 := ⟨bigI 47 (by decide +kernel) rfl, bigI 311 rfl rfl, by decide +kernel, ⟨by decide +kernel, by decide +kernel, by decide +kernel⟩, by decide⟩
abbrev mX7_wrapped : MI := (yX7_wrapped, cX7_wrapped, 2, some .int)
set_option maxRecDepth 20000 in
theorem kcX7_wrapped : KC mX7_wrapped 2 := ⟨bigI 47 (by decide +kernel) rfl, bigI 531 rfl rfl, by decide +kernel, ⟨by decide +kernel, by decide +kernel, by decide +kernel⟩, by decide⟩
abbrev mX7_commonDivisor : MI := (yX7_commonDivisor, cX7_commonDivisor, 6, some .int)
set_option maxRecDepth 20000 in
theorem kcX7_commonDivisor : KC mX7_commonDivisor 2 := ⟨bigI 47 (by decide +kernel) rfl, bigI 760 rfl rfl, by decide +kernel, ⟨by decide +kernel, by decide +kernel, by decide +kernel⟩, by decide⟩
abbrev mX7_at : MI := (yX7_at, cX7_at, 2, some .int)
set_option maxRecDepth 20000 in
theorem kcX7_at : KC mX7_at 2 := ⟨bigI 47 (by decide +kernel) rfl, bigI 304 rfl rfl, by decide +kernel, ⟨by decide +kernel, by decide +kernel, by decide +kernel⟩, by decide⟩
abbrev mX7_put : MI := (yX7_put, cX7_put, 3, none)
set_option maxRecDepth 20000 in
theorem kcX7_put : KC mX7_put 3 := ⟨bigI 47 (by decide +kernel) rfl, bigI 301 rfl rfl, by decide +kernel, ⟨by decide +kernel, by decide +kernel, by decide +kernel⟩, by decide⟩
abbrev mX7_copyRow : MI := (yX7_copyRow, cX7_copyRow, 3, none)
set_option maxRecDepth 20000 in
theorem kcX7_copyRow : KC mX7_copyRow 2 := ⟨bigI 47 (by decide +kernel) rfl, bigI 327 rfl rfl, by decide +kernel, ⟨by decide +kernel, by decide +kernel, by decide +kernel⟩, by decide⟩
abbrev mX8_init : MI := (yX8_init, cX8_init, 1, none)
abbrev mX8_tellsCousin : MI := (yX8_tellsCousin, cX8_tellsCousin, 4, none)
set_option maxRecDepth 20000 in
theorem kcX8_tellsCousin : KC mX8_tellsCousin 3 := ⟨bigI 60 (by decide +kernel) rfl, bigI 819 rfl rfl, by decide +kernel, ⟨by decide +kernel, by decide +kernel, by decide +kernel⟩, by decide⟩
abbrev mX8_tellsRoom : MI := (yX8_tellsRoom, cX8_tellsRoom, 3, none)
set_option maxRecDepth 20000 in
theorem kcX8_tellsRoom : KC mX8_tellsRoom 2 := ⟨bigI 60 (by decide +kernel) rfl, bigI 823 rfl rfl, by decide +kernel, ⟨by decide +kernel, by decide +kernel, by decide +kernel⟩, by decide⟩
abbrev mX8_in : MI := (yX8_in, cX8_in, 3, some .boolean)
set_option maxRecDepth 20000 in
theorem kcX8_in : KC mX8_in 3 := ⟨bigI 60 (by decide +kernel) rfl, bigI 815 rfl rfl, by decide +kernel, ⟨by decide +kernel, by decide +kernel, by decide +kernel⟩, by decide⟩
abbrev mX8_bits : MI := (yX8_bits, cX8_bits, 3, some .int)
set_option maxRecDepth 20000 in
theorem kcX8_bits : KC mX8_bits 1 := ⟨bigI 60 (by decide +kernel) rfl, bigI 1048 rfl rfl, by decide +kernel, ⟨by decide +kernel, by decide +kernel, by decide +kernel⟩, by decide⟩
abbrev mX8_isOne : MI := (yX8_isOne, cX8_isOne, 2, some .boolean)
set_option maxRecDepth 20000 in
theorem kcX8_isOne : KC mX8_isOne 1 := ⟨bigI 60 (by decide +kernel) rfl, bigI 958 rfl rfl, by decide +kernel, ⟨by decide +kernel, by decide +kernel, by decide +kernel⟩, by decide⟩
abbrev mX8_write : MI := (yX8_write, cX8_write, 2, some .int)
set_option maxRecDepth 20000 in
theorem kcX8_write : KC mX8_write 1 := ⟨bigI 60 (by decide +kernel) rfl, bigI 910 rfl rfl, by decide +kernel, ⟨by decide +kernel, by decide +kernel, by decide +kernel⟩, by decide⟩
abbrev mX8_wipe : MI := (yX8_wipe, cX8_wipe, 2, some .int)
set_option maxRecDepth 20000 in
theorem kcX8_wipe : KC mX8_wipe 0 := ⟨bigI 60 (by decide +kernel) rfl, bigI 914 rfl rfl, by decide +kernel, ⟨by decide +kernel, by decide +kernel, by decide +kernel⟩, by decide⟩
abbrev mX8_letterAt : MI := (yX8_letterAt, cX8_letterAt, 2, some .int)
set_option maxRecDepth 20000 in
theorem kcX8_letterAt : KC mX8_letterAt 1 := ⟨bigI 60 (by decide +kernel) rfl, bigI 926 rfl rfl, by decide +kernel, ⟨by decide +kernel, by decide +kernel, by decide +kernel⟩, by decide⟩
abbrev mX8_isFigure : MI := (yX8_isFigure, cX8_isFigure, 1, some .boolean)
set_option maxRecDepth 20000 in
theorem kcX8_isFigure : KC mX8_isFigure 1 := ⟨bigI 60 (by decide +kernel) rfl, bigI 937 rfl rfl, by decide +kernel, ⟨by decide +kernel, by decide +kernel, by decide +kernel⟩, by decide⟩
abbrev mX8_readNumbers : MI := (yX8_readNumbers, cX8_readNumbers, 3, some .boolean)
set_option maxRecDepth 20000 in
theorem kcX8_readNumbers : KC mX8_readNumbers 1 := ⟨bigI 60 (by decide +kernel) rfl, bigI 934 rfl rfl, by decide +kernel, ⟨by decide +kernel, by decide +kernel, by decide +kernel⟩, by decide⟩
abbrev mX8_isTold : MI := (yX8_isTold, cX8_isTold, 4, some .boolean)
set_option maxRecDepth 20000 in
theorem kcX8_isTold : KC mX8_isTold 3 := ⟨bigI 60 (by decide +kernel) rfl, bigI 941 rfl rfl, by decide +kernel, ⟨by decide +kernel, by decide +kernel, by decide +kernel⟩, by decide⟩
abbrev mX8_put : MI := (yX8_put, cX8_put, 5, none)
set_option maxRecDepth 20000 in
theorem kcX8_put : KC mX8_put 4 := ⟨bigI 60 (by decide +kernel) rfl, bigI 830 rfl rfl, by decide +kernel, ⟨by decide +kernel, by decide +kernel, by decide +kernel⟩, by decide⟩
abbrev mX8_clearTold : MI := (yX8_clearTold, cX8_clearTold, 2, none)
set_option maxRecDepth 20000 in
theorem kcX8_clearTold : KC mX8_clearTold 0 := ⟨bigI 60 (by decide +kernel) rfl, bigI 812 rfl rfl, by decide +kernel, ⟨by decide +kernel, by decide +kernel, by decide +kernel⟩, by decide⟩
abbrev mX8_readCousinOf : MI := (yX8_readCousinOf, cX8_readCousinOf, 1, some .boolean)
set_option maxRecDepth 20000 in
theorem kcX8_readCousinOf : KC mX8_readCousinOf 0 := ⟨bigI 60 (by decide +kernel) rfl, bigI 930 rfl rfl, by decide +kernel, ⟨by decide +kernel, by decide +kernel, by decide +kernel⟩, by decide⟩
abbrev mX8_readRoomOf : MI := (yX8_readRoomOf, cX8_readRoomOf, 1, some .boolean)
set_option maxRecDepth 20000 in
theorem kcX8_readRoomOf : KC mX8_readRoomOf 0 := ⟨bigI 60 (by decide +kernel) rfl, bigI 945 rfl rfl, by decide +kernel, ⟨by decide +kernel, by decide +kernel, by decide +kernel⟩, by decide⟩
abbrev mX8_readItem : MI := (yX8_readItem, cX8_readItem, 2, some .boolean)
set_option maxRecDepth 20000 in
theorem kcX8_readItem : KC mX8_readItem 0 := ⟨bigI 60 (by decide +kernel) rfl, bigI 922 rfl rfl, by decide +kernel, ⟨by decide +kernel, by decide +kernel, by decide +kernel⟩, by decide⟩
abbrev mX8_fault : MI := (yX8_fault, cX8_fault, 2, some .int)
set_option maxRecDepth 20000 in
theorem kcX8_fault : KC mX8_fault 0 := ⟨bigI 60 (by decide +kernel) rfl, bigI 918 rfl rfl, by decide +kernel, ⟨by decide +kernel, by decide +kernel, by decide +kernel⟩, by decide⟩
abbrev mX8_lay : MI := (yX8_lay, cX8_lay, 1, some .int)
set_option maxRecDepth 20000 in
theorem kcX8_lay : KC mX8_lay 0 := ⟨bigI 60 (by decide +kernel) rfl, bigI 949 rfl rfl, by decide +kernel, ⟨by decide +kernel, by decide +kernel, by decide +kernel⟩, by decide⟩
abbrev mX8_settles : MI := (yX8_settles, cX8_settles, 1, none)
set_option maxRecDepth 20000 in
theorem kcX8_settles : KC mX8_settles 0 := ⟨bigI 60 (by decide +kernel) rfl, bigI 827 rfl rfl, by decide +kernel, ⟨by decide +kernel, by decide +kernel, by decide +kernel⟩, by decide⟩
abbrev mX8_from : MI := (yX8_from, cX8_from, 2, none)
set_option maxRecDepth 20000 in
theorem kcX8_from : KC mX8_from 1 := ⟨bigI 60 (by decide +kernel) rfl, bigI 962 rfl rfl, by decide +kernel, ⟨by decide +kernel, by decide +kernel, by decide +kernel⟩, by decide⟩
abbrev mX8_findList : MI := (yX8_findList, cX8_findList, 2, none)
set_option maxRecDepth 20000 in
theorem kcX8_findList : KC mX8_findList 0 := ⟨bigI 60 (by decide +kernel) rfl, bigI 966 rfl rfl, by decide +kernel, ⟨by decide +kernel, by decide +kernel, by decide +kernel⟩, by decide⟩
abbrev mX8_placeOf : MI := (yX8_placeOf, cX8_placeOf, 4, some .int)
set_option maxRecDepth 20000 in
theorem kcX8_placeOf : KC mX8_placeOf 1 := ⟨bigI 60 (by decide +kernel) rfl, bigI 970 rfl rfl, by decide +kernel, ⟨by decide +kernel, by decide +kernel, by decide +kernel⟩, by decide⟩
abbrev mX8_sunIn : MI := (yX8_sunIn, cX8_sunIn, 3, some .int)
set_option maxRecDepth 20000 in
theorem kcX8_sunIn : KC mX8_sunIn 2 := ⟨bigI 60 (by decide +kernel) rfl, bigI 1005 rfl rfl, by decide +kernel, ⟨by decide +kernel, by decide +kernel, by decide +kernel⟩, by decide⟩
abbrev mX8_changes : MI := (yX8_changes, cX8_changes, 4, none)
set_option maxRecDepth 20000 in
theorem kcX8_changes : KC mX8_changes 1 := ⟨bigI 60 (by decide +kernel) rfl, bigI 998 rfl rfl, by decide +kernel, ⟨by decide +kernel, by decide +kernel, by decide +kernel⟩, by decide⟩
abbrev mX8_goes : MI := (yX8_goes, cX8_goes, 3, some .int)
set_option maxRecDepth 20000 in
theorem kcX8_goes : KC mX8_goes 0 := ⟨bigI 60 (by decide +kernel) rfl, bigI 994 rfl rfl, by decide +kernel, ⟨by decide +kernel, by decide +kernel, by decide +kernel⟩, by decide⟩
abbrev mX8_goesOn : MI := (yX8_goesOn, cX8_goesOn, 3, none)
set_option maxRecDepth 20000 in
theorem kcX8_goesOn : KC mX8_goesOn 1 := ⟨bigI 60 (by decide +kernel) rfl, bigI 990 rfl rfl, by decide +kernel, ⟨by decide +kernel, by decide +kernel, by decide +kernel⟩, by decide⟩
abbrev mX8_whoseNow : MI := (yX8_whoseNow, cX8_whoseNow, 3, some .int)
set_option maxRecDepth 20000 in
theorem kcX8_whoseNow : KC mX8_whoseNow 1 := ⟨bigI 60 (by decide +kernel) rfl, bigI 978 rfl rfl, by decide +kernel, ⟨by decide +kernel, by decide +kernel, by decide +kernel⟩, by decide⟩
abbrev mX8_sunOn : MI := (yX8_sunOn, cX8_sunOn, 5, some .int)
set_option maxRecDepth 20000 in
theorem kcX8_sunOn : KC mX8_sunOn 2 := ⟨bigI 60 (by decide +kernel) rfl, bigI 1033 rfl rfl, by decide +kernel, ⟨by decide +kernel, by decide +kernel, by decide +kernel⟩, by decide⟩
abbrev mX8_wantOn : MI := (yX8_wantOn, cX8_wantOn, 4, some .int)
set_option maxRecDepth 20000 in
theorem kcX8_wantOn : KC mX8_wantOn 1 := ⟨bigI 60 (by decide +kernel) rfl, bigI 1045 rfl rfl, by decide +kernel, ⟨by decide +kernel, by decide +kernel, by decide +kernel⟩, by decide⟩
abbrev mX8_cousin : MI := (yX8_cousin, cX8_cousin, 3, some .int)
set_option maxRecDepth 20000 in
theorem kcX8_cousin : KC mX8_cousin 2 := ⟨bigI 60 (by decide +kernel) rfl, bigI 954 rfl rfl, by decide +kernel, ⟨by decide +kernel, by decide +kernel, by decide +kernel⟩, by decide⟩
abbrev mX8_room : MI := (yX8_room, cX8_room, 3, some .int)
set_option maxRecDepth 20000 in
theorem kcX8_room : KC mX8_room 2 := ⟨bigI 60 (by decide +kernel) rfl, bigI 974 rfl rfl, by decide +kernel, ⟨by decide +kernel, by decide +kernel, by decide +kernel⟩, by decide⟩
abbrev mX8_remembers : MI := (yX8_remembers, cX8_remembers, 2, none)
set_option maxRecDepth 20000 in
theorem kcX8_remembers : KC mX8_remembers 0 := ⟨bigI 60 (by decide +kernel) rfl, bigI 986 rfl rfl, by decide +kernel, ⟨by decide +kernel, by decide +kernel, by decide +kernel⟩, by decide⟩
abbrev mX8_pass : MI := (yX8_pass, cX8_pass, 2, some .int)
set_option maxRecDepth 20000 in
theorem kcX8_pass : KC mX8_pass 1 := ⟨bigI 60 (by decide +kernel) rfl, bigI 982 rfl rfl, by decide +kernel, ⟨by decide +kernel, by decide +kernel, by decide +kernel⟩, by decide⟩
abbrev mX8_swap : MI := (yX8_swap, cX8_swap, 3, some .int)
set_option maxRecDepth 20000 in
theorem kcX8_swap : KC mX8_swap 2 := ⟨bigI 60 (by decide +kernel) rfl, bigI 1009 rfl rfl, by decide +kernel, ⟨by decide +kernel, by decide +kernel, by decide +kernel⟩, by decide⟩
abbrev mX8_swapped : MI := (yX8_swapped, cX8_swapped, 4, none)
set_option maxRecDepth 20000 in
theorem kcX8_swapped : KC mX8_swapped 3 := ⟨bigI 60 (by decide +kernel) rfl, bigI 1001 rfl rfl, by decide +kernel, ⟨by decide +kernel, by decide +kernel, by decide +kernel⟩, by decide⟩
abbrev mX8_alter : MI := (yX8_alter, cX8_alter, 4, some .int)
set_option maxRecDepth 20000 in
theorem kcX8_alter : KC mX8_alter 2 := ⟨bigI 60 (by decide +kernel) rfl, bigI 1013 rfl rfl, by decide +kernel, ⟨by decide +kernel, by decide +kernel, by decide +kernel⟩, by decide⟩
abbrev mX8_undo : MI := (yX8_undo, cX8_undo, 2, some .int)
set_option maxRecDepth 20000 in
theorem kcX8_undo : KC mX8_undo 0 := ⟨bigI 60 (by decide +kernel) rfl, bigI 1017 rfl rfl, by decide +kernel, ⟨by decide +kernel, by decide +kernel, by decide +kernel⟩, by decide⟩
abbrev mX8_has : MI := (yX8_has, cX8_has, 3, some .int)
set_option maxRecDepth 20000 in
theorem kcX8_has : KC mX8_has 2 := ⟨bigI 60 (by decide +kernel) rfl, bigI 1021 rfl rfl, by decide +kernel, ⟨by decide +kernel, by decide +kernel, by decide +kernel⟩, by decide⟩
abbrev mX8_whose : MI := (yX8_whose, cX8_whose, 3, some .int)
set_option maxRecDepth 20000 in
theorem kcX8_whose : KC mX8_whose 2 := ⟨bigI 60 (by decide +kernel) rfl, bigI 1025 rfl rfl, by decide +kernel, ⟨by decide +kernel, by decide +kernel, by decide +kernel⟩, by decide⟩
abbrev mX8_sun : MI := (yX8_sun, cX8_sun, 3, some .int)
set_option maxRecDepth 20000 in
theorem kcX8_sun : KC mX8_sun 2 := ⟨bigI 60 (by decide +kernel) rfl, bigI 1029 rfl rfl, by decide +kernel, ⟨by decide +kernel, by decide +kernel, by decide +kernel⟩, by decide⟩
abbrev mX8_cold : MI := (yX8_cold, cX8_cold, 2, some .int)
set_option maxRecDepth 20000 in
theorem kcX8_cold : KC mX8_cold 1 := ⟨bigI 60 (by decide +kernel) rfl, bigI 1037 rfl rfl, by decide +kernel, ⟨by decide +kernel, by decide +kernel, by decide +kernel⟩, by decide⟩
abbrev mX8_want : MI := (yX8_want, cX8_want, 2, some .int)
set_option maxRecDepth 20000 in
theorem kcX8_want : KC mX8_want 1 := ⟨bigI 60 (by decide +kernel) rfl, bigI 1041 rfl rfl, by decide +kernel, ⟨by decide +kernel, by decide +kernel, by decide +kernel⟩, by decide⟩
abbrev mX8_isPair : MI := (yX8_isPair, cX8_isPair, 2, some .boolean)
set_option maxRecDepth 20000 in
theorem kcX8_isPair : KC mX8_isPair 2 := ⟨bigI 60 (by decide +kernel) rfl, bigI 1059 rfl rfl, by decide +kernel, ⟨by decide +kernel, by decide +kernel, by decide +kernel⟩, by decide⟩
abbrev mX8_triesSwaps : MI := (yX8_triesSwaps, cX8_triesSwaps, 6, none)
set_option maxRecDepth 20000 in
theorem kcX8_triesSwaps : KC mX8_triesSwaps 4 := ⟨bigI 60 (by decide +kernel) rfl, bigI 1056 rfl rfl, by decide +kernel, ⟨by decide +kernel, by decide +kernel, by decide +kernel⟩, by decide⟩
abbrev mX8_swaps : MI := (yX8_swaps, cX8_swaps, 5, some .int)
set_option maxRecDepth 20000 in
theorem kcX8_swaps : KC mX8_swaps 3 := ⟨bigI 60 (by decide +kernel) rfl, bigI 1052 rfl rfl, by decide +kernel, ⟨by decide +kernel, by decide +kernel, by decide +kernel⟩, by decide⟩
abbrev mX8_warm : MI := (yX8_warm, cX8_warm, 7, some .int)
set_option maxRecDepth 20000 in
theorem kcX8_warm : KC mX8_warm 2 := ⟨bigI 60 (by decide +kernel) rfl, bigI 1063 rfl rfl, by decide +kernel, ⟨by decide +kernel, by decide +kernel, by decide +kernel⟩, by decide⟩
abbrev mX8_canHave : MI := (yX8_canHave, cX8_canHave, 5, some .int)
set_option maxRecDepth 20000 in
theorem kcX8_canHave : KC mX8_canHave 2 := ⟨bigI 60 (by decide +kernel) rfl, bigI 1067 rfl rfl, by decide +kernel, ⟨by decide +kernel, by decide +kernel, by decide +kernel⟩, by decide⟩
abbrev mX8_round : MI := (yX8_round, cX8_round, 4, some .int)
set_option maxRecDepth 20000 in
theorem kcX8_round : KC mX8_round 0 := ⟨bigI 60 (by decide +kernel) rfl, bigI 1071 rfl rfl, by decide +kernel, ⟨by decide +kernel, by decide +kernel, by decide +kernel⟩, by decide⟩
abbrev mX8_wayBy : MI := (yX8_wayBy, cX8_wayBy, 6, some .int)
set_option maxRecDepth 20000 in
theorem kcX8_wayBy : KC mX8_wayBy 3 := ⟨bigI 60 (by decide +kernel) rfl, bigI 1079 rfl rfl, by decide +kernel, ⟨by decide +kernel, by decide +kernel, by decide +kernel⟩, by decide⟩
abbrev mX8_way : MI := (yX8_way, cX8_way, 7, some .int)
set_option maxRecDepth 20000 in
theorem kcX8_way : KC mX8_way 3 := ⟨bigI 60 (by decide +kernel) rfl, bigI 1075 rfl rfl, by decide +kernel, ⟨by decide +kernel, by decide +kernel, by decide +kernel⟩, by decide⟩
abbrev mX8_seen : MI := (yX8_seen, cX8_seen, 4, some .int)
set_option maxRecDepth 20000 in
theorem kcX8_seen : KC mX8_seen 3 := ⟨bigI 60 (by decide +kernel) rfl, bigI 1083 rfl rfl, by decide +kernel, ⟨by decide +kernel, by decide +kernel, by decide +kernel⟩, by decide⟩
abbrev mX8_forget : MI := (yX8_forget, cX8_forget, 2, some .int)
set_option maxRecDepth 20000 in
theorem kcX8_forget : KC mX8_forget 0 := ⟨bigI 60 (by decide +kernel) rfl, bigI 1087 rfl rfl, by decide +kernel, ⟨by decide +kernel, by decide +kernel, by decide +kernel⟩, by decide⟩
abbrev mX8_register : MI := (yX8_register, cX8_register, 9, some .int)
set_option maxRecDepth 20000 in
theorem kcX8_register : KC mX8_register 2 := ⟨bigI 60 (by decide +kernel) rfl, bigI 1091 rfl rfl, by decide +kernel, ⟨by decide +kernel, by decide +kernel, by decide +kernel⟩, by decide⟩
abbrev mX8_foundling : MI := (yX8_foundling, cX8_foundling, 9, some .int)
set_option maxRecDepth 20000 in
theorem kcX8_foundling : KC mX8_foundling 4 := ⟨bigI 60 (by decide +kernel) rfl, bigI 1095 rfl rfl, by decide +kernel, ⟨by decide +kernel, by decide +kernel, by decide +kernel⟩, by decide⟩
abbrev mX8_loses : MI := (yX8_loses, cX8_loses, 7, some .int)
set_option maxRecDepth 20000 in
theorem kcX8_loses : KC mX8_loses 1 := ⟨bigI 60 (by decide +kernel) rfl, bigI 1099 rfl rfl, by decide +kernel, ⟨by decide +kernel, by decide +kernel, by decide +kernel⟩, by decide⟩
abbrev mX8_next : MI := (yX8_next, cX8_next, 8, some .int)
set_option maxRecDepth 20000 in
theorem kcX8_next : KC mX8_next 1 := ⟨bigI 60 (by decide +kernel) rfl, bigI 1103 rfl rfl, by decide +kernel, ⟨by decide +kernel, by decide +kernel, by decide +kernel⟩, by decide⟩
abbrev mX8_year : MI := (yX8_year, cX8_year, 9, some .int)
set_option maxRecDepth 20000 in
theorem kcX8_year : KC mX8_year 3 := ⟨bigI 60 (by decide +kernel) rfl, bigI 1107 rfl rfl, by decide +kernel, ⟨by decide +kernel, by decide +kernel, by decide +kernel⟩, by decide⟩
abbrev mX8_keep : MI := (yX8_keep, cX8_keep, 1, some .int)
set_option maxRecDepth 20000 in
theorem kcX8_keep : KC mX8_keep 0 := ⟨bigI 60 (by decide +kernel) rfl, bigI 1115 rfl rfl, by decide +kernel, ⟨by decide +kernel, by decide +kernel, by decide +kernel⟩, by decide⟩
abbrev mX8_back : MI := (yX8_back, cX8_back, 2, some .int)
set_option maxRecDepth 20000 in
theorem kcX8_back : KC mX8_back 0 := ⟨bigI 60 (by decide +kernel) rfl, bigI 1119 rfl rfl, by decide +kernel, ⟨by decide +kernel, by decide +kernel, by decide +kernel⟩, by decide⟩
abbrev mX8_count : MI := (yX8_count, cX8_count, 2, some .int)
set_option maxRecDepth 20000 in
theorem kcX8_count : KC mX8_count 1 := ⟨bigI 60 (by decide +kernel) rfl, bigI 1123 rfl rfl, by decide +kernel, ⟨by decide +kernel, by decide +kernel, by decide +kernel⟩, by decide⟩
abbrev mM_floorMod : MI := (yM_floorMod, cM_floorMod, 3, some .int)
set_option maxRecDepth 20000 in
theorem kcM_floorMod : KC mM_floorMod 2 := ⟨bigI 52 (by decide +kernel) rfl, bigI 534 rfl rfl, by decide +kernel, ⟨by decide +kernel, by decide +kernel, by decide +kernel⟩, by decide⟩
theorem inX0 : ∀ w ∈ u_ws RX0 TX0 2, w ∈ bigW := by decide +kernel
theorem inX1 : ∀ w ∈ u_ws RX1 TX1 7, w ∈ bigW := by decide +kernel
theorem inX2 : ∀ w ∈ u_ws RX2 TX2 5, w ∈ bigW := by decide +kernel
theorem inX3 : ∀ w ∈ u_ws RX3 TX3 4, w ∈ bigW := by decide +kernel
theorem inX4 : ∀ w ∈ u_ws RX4 TX4 3, w ∈ bigW := by decide +kernel
theorem inX5 : ∀ w ∈ u_ws RX5 TX5 4, w ∈ bigW := by decide +kernel
theorem inX6 : ∀ w ∈ u_ws RX6 TX6 5, w ∈ bigW := by decide +kernel
theorem inX7 : ∀ w ∈ u_ws RX7 TX7 10, w ∈ bigW := by decide +kernel
theorem inX8 : ∀ w ∈ u_ws RX8 TX8 25, w ∈ bigW := by decide +kernel
theorem fX5_9 : FL RX5 9 5 0 := ⟨RX5, TX5, 4, tyX5, rfl, by decide, bigI 75 (by decide +kernel) rfl, inX5, tyX5_ok, nmX5⟩
theorem fX5_15 : FL RX5 15 5 1 := ⟨RX5, TX5, 4, tyX5, rfl, by decide, bigI 76 (by decide +kernel) rfl, inX5, tyX5_ok, nmX5⟩
theorem fX5_19 : FL RX5 19 5 2 := ⟨RX5, TX5, 4, tyX5, rfl, by decide, bigI 77 (by decide +kernel) rfl, inX5, tyX5_ok, nmX5⟩
theorem gX5_19 : FW RX5 19 5 2 := ⟨RX5, TX5, 4, tyX5, rfl, by decide, bigI 77 (by decide +kernel) rfl, inX5, tyX5_ok, nmX5, rfl, rfl⟩
theorem fX5_28 : FL RX5 28 5 3 := ⟨RX5, TX5, 4, tyX5, rfl, by decide, bigI 78 (by decide +kernel) rfl, inX5, tyX5_ok, nmX5⟩
theorem gX5_28 : FW RX5 28 5 3 := ⟨RX5, TX5, 4, tyX5, rfl, by decide, bigI 78 (by decide +kernel) rfl, inX5, tyX5_ok, nmX5, rfl, rfl⟩
theorem fX1_9 : FL RX1 9 1 0 := ⟨RX1, TX1, 7, tyX1, rfl, by decide, bigI 96 (by decide +kernel) rfl, inX1, tyX1_ok, nmX1⟩
theorem fX1_15 : FL RX1 15 1 1 := ⟨RX1, TX1, 7, tyX1, rfl, by decide, bigI 97 (by decide +kernel) rfl, inX1, tyX1_ok, nmX1⟩
theorem fX1_18 : FL RX1 18 1 2 := ⟨RX1, TX1, 7, tyX1, rfl, by decide, bigI 98 (by decide +kernel) rfl, inX1, tyX1_ok, nmX1⟩
theorem fX1_21 : FL RX1 21 1 3 := ⟨RX1, TX1, 7, tyX1, rfl, by decide, bigI 99 (by decide +kernel) rfl, inX1, tyX1_ok, nmX1⟩
theorem fX1_24 : FL RX1 24 1 4 := ⟨RX1, TX1, 7, tyX1, rfl, by decide, bigI 100 (by decide +kernel) rfl, inX1, tyX1_ok, nmX1⟩
theorem fX1_27 : FL RX1 27 1 5 := ⟨RX1, TX1, 7, tyX1, rfl, by decide, bigI 101 (by decide +kernel) rfl, inX1, tyX1_ok, nmX1⟩
theorem gX1_27 : FW RX1 27 1 5 := ⟨RX1, TX1, 7, tyX1, rfl, by decide, bigI 101 (by decide +kernel) rfl, inX1, tyX1_ok, nmX1, rfl, rfl⟩
theorem fX1_31 : FL RX1 31 1 6 := ⟨RX1, TX1, 7, tyX1, rfl, by decide, bigI 102 (by decide +kernel) rfl, inX1, tyX1_ok, nmX1⟩
theorem gX1_31 : FW RX1 31 1 6 := ⟨RX1, TX1, 7, tyX1, rfl, by decide, bigI 102 (by decide +kernel) rfl, inX1, tyX1_ok, nmX1, rfl, rfl⟩
theorem fX4_9 : FL RX4 9 4 0 := ⟨RX4, TX4, 3, tyX4, rfl, by decide, bigI 124 (by decide +kernel) rfl, inX4, tyX4_ok, nmX4⟩
theorem fX4_15 : FL RX4 15 4 1 := ⟨RX4, TX4, 3, tyX4, rfl, by decide, bigI 125 (by decide +kernel) rfl, inX4, tyX4_ok, nmX4⟩
theorem fX4_18 : FL RX4 18 4 2 := ⟨RX4, TX4, 3, tyX4, rfl, by decide, bigI 126 (by decide +kernel) rfl, inX4, tyX4_ok, nmX4⟩
theorem gX4_18 : FW RX4 18 4 2 := ⟨RX4, TX4, 3, tyX4, rfl, by decide, bigI 126 (by decide +kernel) rfl, inX4, tyX4_ok, nmX4, rfl, rfl⟩
theorem fX0_15 : FL RX0 15 0 0 := ⟨RX0, TX0, 2, tyX0, rfl, by decide, bigI 146 (by decide +kernel) rfl, inX0, tyX0_ok, nmX0⟩
theorem fX0_22 : FL RX0 22 0 1 := ⟨RX0, TX0, 2, tyX0, rfl, by decide, bigI 147 (by decide +kernel) rfl, inX0, tyX0_ok, nmX0⟩
theorem gX0_22 : FW RX0 22 0 1 := ⟨RX0, TX0, 2, tyX0, rfl, by decide, bigI 147 (by decide +kernel) rfl, inX0, tyX0_ok, nmX0, rfl, rfl⟩
theorem fX3_9 : FL RX3 9 3 0 := ⟨RX3, TX3, 4, tyX3, rfl, by decide, bigI 159 (by decide +kernel) rfl, inX3, tyX3_ok, nmX3⟩
theorem fX3_15 : FL RX3 15 3 1 := ⟨RX3, TX3, 4, tyX3, rfl, by decide, bigI 160 (by decide +kernel) rfl, inX3, tyX3_ok, nmX3⟩
theorem fX3_18 : FL RX3 18 3 2 := ⟨RX3, TX3, 4, tyX3, rfl, by decide, bigI 161 (by decide +kernel) rfl, inX3, tyX3_ok, nmX3⟩
theorem fX3_21 : FL RX3 21 3 3 := ⟨RX3, TX3, 4, tyX3, rfl, by decide, bigI 162 (by decide +kernel) rfl, inX3, tyX3_ok, nmX3⟩
theorem gX3_21 : FW RX3 21 3 3 := ⟨RX3, TX3, 4, tyX3, rfl, by decide, bigI 162 (by decide +kernel) rfl, inX3, tyX3_ok, nmX3, rfl, rfl⟩
theorem fX6_25 : FL RX6 25 6 0 := ⟨RX6, TX6, 5, tyX6, rfl, by decide, bigI 180 (by decide +kernel) rfl, inX6, tyX6_ok, nmX6⟩
theorem fX6_12 : FL RX6 12 6 1 := ⟨RX6, TX6, 5, tyX6, rfl, by decide, bigI 181 (by decide +kernel) rfl, inX6, tyX6_ok, nmX6⟩
theorem fX6_18 : FL RX6 18 6 2 := ⟨RX6, TX6, 5, tyX6, rfl, by decide, bigI 182 (by decide +kernel) rfl, inX6, tyX6_ok, nmX6⟩
theorem fX6_22 : FL RX6 22 6 3 := ⟨RX6, TX6, 5, tyX6, rfl, by decide, bigI 183 (by decide +kernel) rfl, inX6, tyX6_ok, nmX6⟩
theorem fX6_53 : FL RX6 53 6 4 := ⟨RX6, TX6, 5, tyX6, rfl, by decide, bigI 184 (by decide +kernel) rfl, inX6, tyX6_ok, nmX6⟩
theorem gX6_53 : FW RX6 53 6 4 := ⟨RX6, TX6, 5, tyX6, rfl, by decide, bigI 184 (by decide +kernel) rfl, inX6, tyX6_ok, nmX6, rfl, rfl⟩
theorem fX2_9 : FL RX2 9 2 0 := ⟨RX2, TX2, 5, tyX2, rfl, by decide, bigI 202 (by decide +kernel) rfl, inX2, tyX2_ok, nmX2⟩
theorem fX2_15 : FL RX2 15 2 1 := ⟨RX2, TX2, 5, tyX2, rfl, by decide, bigI 203 (by decide +kernel) rfl, inX2, tyX2_ok, nmX2⟩
theorem fX2_19 : FL RX2 19 2 2 := ⟨RX2, TX2, 5, tyX2, rfl, by decide, bigI 204 (by decide +kernel) rfl, inX2, tyX2_ok, nmX2⟩
theorem gX2_19 : FW RX2 19 2 2 := ⟨RX2, TX2, 5, tyX2, rfl, by decide, bigI 204 (by decide +kernel) rfl, inX2, tyX2_ok, nmX2, rfl, rfl⟩
theorem fX2_23 : FL RX2 23 2 3 := ⟨RX2, TX2, 5, tyX2, rfl, by decide, bigI 205 (by decide +kernel) rfl, inX2, tyX2_ok, nmX2⟩
theorem gX2_23 : FW RX2 23 2 3 := ⟨RX2, TX2, 5, tyX2, rfl, by decide, bigI 205 (by decide +kernel) rfl, inX2, tyX2_ok, nmX2, rfl, rfl⟩
theorem fX2_26 : FL RX2 26 2 4 := ⟨RX2, TX2, 5, tyX2, rfl, by decide, bigI 206 (by decide +kernel) rfl, inX2, tyX2_ok, nmX2⟩
theorem gX2_26 : FW RX2 26 2 4 := ⟨RX2, TX2, 5, tyX2, rfl, by decide, bigI 206 (by decide +kernel) rfl, inX2, tyX2_ok, nmX2, rfl, rfl⟩
theorem fX7_12 : FL RX7 12 7 0 := ⟨RX7, TX7, 10, tyX7, rfl, by decide, bigI 355 (by decide +kernel) rfl, inX7, tyX7_ok, nmX7⟩
theorem fX7_19 : FL RX7 19 7 1 := ⟨RX7, TX7, 10, tyX7, rfl, by decide, bigI 356 (by decide +kernel) rfl, inX7, tyX7_ok, nmX7⟩
theorem fX7_23 : FL RX7 23 7 2 := ⟨RX7, TX7, 10, tyX7, rfl, by decide, bigI 357 (by decide +kernel) rfl, inX7, tyX7_ok, nmX7⟩
theorem fX7_29 : FL RX7 29 7 3 := ⟨RX7, TX7, 10, tyX7, rfl, by decide, bigI 358 (by decide +kernel) rfl, inX7, tyX7_ok, nmX7⟩
theorem fX7_33 : FL RX7 33 7 4 := ⟨RX7, TX7, 10, tyX7, rfl, by decide, bigI 359 (by decide +kernel) rfl, inX7, tyX7_ok, nmX7⟩
theorem fX7_41 : FL RX7 41 7 5 := ⟨RX7, TX7, 10, tyX7, rfl, by decide, bigI 360 (by decide +kernel) rfl, inX7, tyX7_ok, nmX7⟩
theorem fX7_45 : FL RX7 45 7 6 := ⟨RX7, TX7, 10, tyX7, rfl, by decide, bigI 361 (by decide +kernel) rfl, inX7, tyX7_ok, nmX7⟩
theorem fX7_51 : FL RX7 51 7 7 := ⟨RX7, TX7, 10, tyX7, rfl, by decide, bigI 362 (by decide +kernel) rfl, inX7, tyX7_ok, nmX7⟩
theorem fX7_60 : FL RX7 60 7 8 := ⟨RX7, TX7, 10, tyX7, rfl, by decide, bigI 363 (by decide +kernel) rfl, inX7, tyX7_ok, nmX7⟩
theorem fX7_69 : FL RX7 69 7 9 := ⟨RX7, TX7, 10, tyX7, rfl, by decide, bigI 364 (by decide +kernel) rfl, inX7, tyX7_ok, nmX7⟩
theorem fX8_73 : FL RX8 73 8 0 := ⟨RX8, TX8, 25, tyX8, rfl, by decide, bigI 831 (by decide +kernel) rfl, inX8, tyX8_ok, nmX8⟩
theorem gX8_73 : FW RX8 73 8 0 := ⟨RX8, TX8, 25, tyX8, rfl, by decide, bigI 831 (by decide +kernel) rfl, inX8, tyX8_ok, nmX8, rfl, rfl⟩
theorem fX8_7 : FL RX8 7 8 1 := ⟨RX8, TX8, 25, tyX8, rfl, by decide, bigI 832 (by decide +kernel) rfl, inX8, tyX8_ok, nmX8⟩
theorem fX8_13 : FL RX8 13 8 2 := ⟨RX8, TX8, 25, tyX8, rfl, by decide, bigI 833 (by decide +kernel) rfl, inX8, tyX8_ok, nmX8⟩
theorem fX8_16 : FL RX8 16 8 3 := ⟨RX8, TX8, 25, tyX8, rfl, by decide, bigI 834 (by decide +kernel) rfl, inX8, tyX8_ok, nmX8⟩
theorem fX8_19 : FL RX8 19 8 4 := ⟨RX8, TX8, 25, tyX8, rfl, by decide, bigI 835 (by decide +kernel) rfl, inX8, tyX8_ok, nmX8⟩
theorem fX8_118 : FL RX8 118 8 5 := ⟨RX8, TX8, 25, tyX8, rfl, by decide, bigI 836 (by decide +kernel) rfl, inX8, tyX8_ok, nmX8⟩
theorem gX8_118 : FW RX8 118 8 5 := ⟨RX8, TX8, 25, tyX8, rfl, by decide, bigI 836 (by decide +kernel) rfl, inX8, tyX8_ok, nmX8, rfl, rfl⟩
theorem fX8_22 : FL RX8 22 8 6 := ⟨RX8, TX8, 25, tyX8, rfl, by decide, bigI 837 (by decide +kernel) rfl, inX8, tyX8_ok, nmX8⟩
theorem fX8_121 : FL RX8 121 8 7 := ⟨RX8, TX8, 25, tyX8, rfl, by decide, bigI 838 (by decide +kernel) rfl, inX8, tyX8_ok, nmX8⟩
theorem gX8_121 : FW RX8 121 8 7 := ⟨RX8, TX8, 25, tyX8, rfl, by decide, bigI 838 (by decide +kernel) rfl, inX8, tyX8_ok, nmX8, rfl, rfl⟩
theorem fX8_25 : FL RX8 25 8 8 := ⟨RX8, TX8, 25, tyX8, rfl, by decide, bigI 839 (by decide +kernel) rfl, inX8, tyX8_ok, nmX8⟩
theorem fX8_124 : FL RX8 124 8 9 := ⟨RX8, TX8, 25, tyX8, rfl, by decide, bigI 840 (by decide +kernel) rfl, inX8, tyX8_ok, nmX8⟩
theorem gX8_124 : FW RX8 124 8 9 := ⟨RX8, TX8, 25, tyX8, rfl, by decide, bigI 840 (by decide +kernel) rfl, inX8, tyX8_ok, nmX8, rfl, rfl⟩
theorem fX8_28 : FL RX8 28 8 10 := ⟨RX8, TX8, 25, tyX8, rfl, by decide, bigI 841 (by decide +kernel) rfl, inX8, tyX8_ok, nmX8⟩
theorem fX8_31 : FL RX8 31 8 11 := ⟨RX8, TX8, 25, tyX8, rfl, by decide, bigI 842 (by decide +kernel) rfl, inX8, tyX8_ok, nmX8⟩
theorem fX8_80 : FL RX8 80 8 12 := ⟨RX8, TX8, 25, tyX8, rfl, by decide, bigI 843 (by decide +kernel) rfl, inX8, tyX8_ok, nmX8⟩
theorem gX8_80 : FW RX8 80 8 12 := ⟨RX8, TX8, 25, tyX8, rfl, by decide, bigI 843 (by decide +kernel) rfl, inX8, tyX8_ok, nmX8, rfl, rfl⟩
theorem fX8_83 : FL RX8 83 8 13 := ⟨RX8, TX8, 25, tyX8, rfl, by decide, bigI 844 (by decide +kernel) rfl, inX8, tyX8_ok, nmX8⟩
theorem gX8_83 : FW RX8 83 8 13 := ⟨RX8, TX8, 25, tyX8, rfl, by decide, bigI 844 (by decide +kernel) rfl, inX8, tyX8_ok, nmX8, rfl, rfl⟩
theorem fX8_34 : FL RX8 34 8 14 := ⟨RX8, TX8, 25, tyX8, rfl, by decide, bigI 845 (by decide +kernel) rfl, inX8, tyX8_ok, nmX8⟩
theorem fX8_66 : FL RX8 66 8 15 := ⟨RX8, TX8, 25, tyX8, rfl, by decide, bigI 846 (by decide +kernel) rfl, inX8, tyX8_ok, nmX8⟩
theorem gX8_66 : FW RX8 66 8 15 := ⟨RX8, TX8, 25, tyX8, rfl, by decide, bigI 846 (by decide +kernel) rfl, inX8, tyX8_ok, nmX8, rfl, rfl⟩
theorem fX8_37 : FL RX8 37 8 16 := ⟨RX8, TX8, 25, tyX8, rfl, by decide, bigI 847 (by decide +kernel) rfl, inX8, tyX8_ok, nmX8⟩
theorem fX8_70 : FL RX8 70 8 17 := ⟨RX8, TX8, 25, tyX8, rfl, by decide, bigI 848 (by decide +kernel) rfl, inX8, tyX8_ok, nmX8⟩
theorem gX8_70 : FW RX8 70 8 17 := ⟨RX8, TX8, 25, tyX8, rfl, by decide, bigI 848 (by decide +kernel) rfl, inX8, tyX8_ok, nmX8, rfl, rfl⟩
theorem fX8_40 : FL RX8 40 8 18 := ⟨RX8, TX8, 25, tyX8, rfl, by decide, bigI 849 (by decide +kernel) rfl, inX8, tyX8_ok, nmX8⟩
theorem fX8_43 : FL RX8 43 8 19 := ⟨RX8, TX8, 25, tyX8, rfl, by decide, bigI 850 (by decide +kernel) rfl, inX8, tyX8_ok, nmX8⟩
theorem fX8_46 : FL RX8 46 8 20 := ⟨RX8, TX8, 25, tyX8, rfl, by decide, bigI 851 (by decide +kernel) rfl, inX8, tyX8_ok, nmX8⟩
theorem fX8_49 : FL RX8 49 8 21 := ⟨RX8, TX8, 25, tyX8, rfl, by decide, bigI 852 (by decide +kernel) rfl, inX8, tyX8_ok, nmX8⟩
theorem fX8_176 : FL RX8 176 8 22 := ⟨RX8, TX8, 25, tyX8, rfl, by decide, bigI 853 (by decide +kernel) rfl, inX8, tyX8_ok, nmX8⟩
theorem gX8_176 : FW RX8 176 8 22 := ⟨RX8, TX8, 25, tyX8, rfl, by decide, bigI 853 (by decide +kernel) rfl, inX8, tyX8_ok, nmX8, rfl, rfl⟩
theorem fX8_179 : FL RX8 179 8 23 := ⟨RX8, TX8, 25, tyX8, rfl, by decide, bigI 854 (by decide +kernel) rfl, inX8, tyX8_ok, nmX8⟩
theorem gX8_179 : FW RX8 179 8 23 := ⟨RX8, TX8, 25, tyX8, rfl, by decide, bigI 854 (by decide +kernel) rfl, inX8, tyX8_ok, nmX8, rfl, rfl⟩
theorem fX8_173 : FL RX8 173 8 24 := ⟨RX8, TX8, 25, tyX8, rfl, by decide, bigI 855 (by decide +kernel) rfl, inX8, tyX8_ok, nmX8⟩
theorem gX8_173 : FW RX8 173 8 24 := ⟨RX8, TX8, 25, tyX8, rfl, by decide, bigI 855 (by decide +kernel) rfl, inX8, tyX8_ok, nmX8, rfl, rfl⟩
theorem kX7_85 : KV RX7 85 mX5_add 5 1 := ⟨kcX5_add, bigI 268 (by decide +kernel) rfl, bigI 269 (by decide +kernel) rfl, ⟨_, _, rfl⟩, Or.inl (bigI 267 (by decide +kernel) rfl)⟩
theorem kX7_89 : KV RX7 89 mX5_readInto 5 1 := ⟨kcX5_readInto, bigI 272 (by decide +kernel) rfl, bigI 273 (by decide +kernel) rfl, ⟨_, _, rfl⟩, Or.inl (bigI 271 (by decide +kernel) rfl)⟩
theorem kX5_23 : KV RX5 23 mX1_clear 1 0 := ⟨kcX1_clear, bigI 276 (by decide +kernel) rfl, bigI 277 (by decide +kernel) rfl, ⟨_, _, rfl⟩, Or.inl (bigI 275 (by decide +kernel) rfl)⟩
theorem kX5_31 : KV RX5 31 mX5_readItem 5 1 := ⟨kcX5_readItem, bigI 281 (by decide +kernel) rfl, bigI 0 (by decide +kernel) rfl, ⟨_, _, rfl⟩, Or.inl (bigI 279 (by decide +kernel) rfl)⟩
theorem kX5_35 : KV RX5 35 mX5_letterHere 5 0 := ⟨kcX5_letterHere, bigI 285 (by decide +kernel) rfl, bigI 1 (by decide +kernel) rfl, ⟨_, _, rfl⟩, Or.inl (bigI 283 (by decide +kernel) rfl)⟩
theorem kX5_39 : KV RX5 39 mX5_readNumbers 5 1 := ⟨kcX5_readNumbers, bigI 289 (by decide +kernel) rfl, bigI 2 (by decide +kernel) rfl, ⟨_, _, rfl⟩, Or.inl (bigI 287 (by decide +kernel) rfl)⟩
theorem kX5_55 : KV RX5 55 mX5_readNumber 5 0 := ⟨kcX5_readNumber, bigI 293 (by decide +kernel) rfl, bigI 3 (by decide +kernel) rfl, ⟨_, _, rfl⟩, Or.inl (bigI 291 (by decide +kernel) rfl)⟩
theorem kX5_63 : KS RX5 63 mX5_isFigure 1 := ⟨kcX5_isFigure, bigI 296 (by decide +kernel) rfl, Or.inl (bigI 295 (by decide +kernel) rfl)⟩
theorem kX5_59 : KS RX5 59 mX7_put 3 := ⟨kcX7_put, bigI 300 (by decide +kernel) rfl, Or.inr ⟨"BirthdayRooms", nestI 299 (by decide +kernel) rfl⟩⟩
theorem kX5_43 : KS RX5 43 mX7_at 2 := ⟨kcX7_at, bigI 303 (by decide +kernel) rfl, Or.inr ⟨"BirthdayRooms", nestI 302 (by decide +kernel) rfl⟩⟩
theorem kX5_47 : KV RX5 47 mX1_addCousin 1 3 := ⟨kcX1_addCousin, bigI 306 (by decide +kernel) rfl, bigI 307 (by decide +kernel) rfl, ⟨_, _, rfl⟩, Or.inl (bigI 305 (by decide +kernel) rfl)⟩
theorem kX1_34 : KS RX1 34 mX7_within 3 := ⟨kcX7_within, bigI 310 (by decide +kernel) rfl, Or.inr ⟨"BirthdayRooms", nestI 309 (by decide +kernel) rfl⟩⟩
theorem kX1_38 : KS RX1 38 mX7_put 3 := ⟨kcX7_put, bigI 300 (by decide +kernel) rfl, Or.inr ⟨"BirthdayRooms", nestI 312 (by decide +kernel) rfl⟩⟩
theorem kX5_51 : KV RX5 51 mX1_addRoom 1 2 := ⟨kcX1_addRoom, bigI 314 (by decide +kernel) rfl, bigI 315 (by decide +kernel) rfl, ⟨_, _, rfl⟩, Or.inl (bigI 313 (by decide +kernel) rfl)⟩
theorem kX7_93 : KV RX7 93 mX7_moveIn 7 0 := ⟨kcX7_moveIn, bigI 319 (by decide +kernel) rfl, bigI 4 (by decide +kernel) rfl, ⟨_, _, rfl⟩, Or.inl (bigI 317 (by decide +kernel) rfl)⟩
theorem kX7_256 : KV RX7 256 mX1_copyFrom 1 1 := ⟨kcX1_copyFrom, bigI 322 (by decide +kernel) rfl, bigI 323 (by decide +kernel) rfl, ⟨_, _, rfl⟩, Or.inl (bigI 321 (by decide +kernel) rfl)⟩
theorem kX1_42 : KS RX1 42 mX7_copyRow 2 := ⟨kcX7_copyRow, bigI 326 (by decide +kernel) rfl, Or.inr ⟨"BirthdayRooms", nestI 325 (by decide +kernel) rfl⟩⟩
theorem kX7_258 : KV RX7 258 mX4_beginAs 4 1 := ⟨kcX4_beginAs, bigI 329 (by decide +kernel) rfl, bigI 330 (by decide +kernel) rfl, ⟨_, _, rfl⟩, Or.inl (bigI 328 (by decide +kernel) rfl)⟩
theorem kX4_22 : KS RX4 22 mX7_put 3 := ⟨kcX7_put, bigI 300 (by decide +kernel) rfl, Or.inr ⟨"BirthdayRooms", nestI 332 (by decide +kernel) rfl⟩⟩
theorem kX4_26 : KV RX4 26 mX1_birthdayAtFirst 1 1 := ⟨kcX1_birthdayAtFirst, bigI 334 (by decide +kernel) rfl, bigI 335 (by decide +kernel) rfl, ⟨_, _, rfl⟩, Or.inl (bigI 333 (by decide +kernel) rfl)⟩
theorem kX1_46 : KS RX1 46 mX7_at 2 := ⟨kcX7_at, bigI 303 (by decide +kernel) rfl, Or.inr ⟨"BirthdayRooms", nestI 337 (by decide +kernel) rfl⟩⟩
theorem kX7_166 : KV RX7 166 mX4_copyFrom 4 1 := ⟨kcX4_copyFrom, bigI 339 (by decide +kernel) rfl, bigI 340 (by decide +kernel) rfl, ⟨_, _, rfl⟩, Or.inl (bigI 338 (by decide +kernel) rfl)⟩
theorem kX4_32 : KS RX4 32 mX7_copyRow 2 := ⟨kcX7_copyRow, bigI 326 (by decide +kernel) rfl, Or.inr ⟨"BirthdayRooms", nestI 342 (by decide +kernel) rfl⟩⟩
theorem kX7_231 : KV RX7 231 mX3_clear 3 0 := ⟨kcX3_clear, bigI 344 (by decide +kernel) rfl, bigI 345 (by decide +kernel) rfl, ⟨_, _, rfl⟩, Or.inl (bigI 343 (by decide +kernel) rfl)⟩
theorem kX7_255 : KV RX7 255 mX0_clear 0 0 := ⟨kcX0_clear, bigI 348 (by decide +kernel) rfl, bigI 349 (by decide +kernel) rfl, ⟨_, _, rfl⟩, Or.inl (bigI 347 (by decide +kernel) rfl)⟩
theorem kX7_96 : KV RX7 96 mX5_clear 5 0 := ⟨kcX5_clear, bigI 352 (by decide +kernel) rfl, bigI 353 (by decide +kernel) rfl, ⟨_, _, rfl⟩, Or.inl (bigI 351 (by decide +kernel) rfl)⟩
theorem kL_13 : KV RL 13 mX7_write 7 1 := ⟨kcX7_write, bigI 388 (by decide +kernel) rfl, bigI 389 (by decide +kernel) rfl, ⟨_, _, rfl⟩, Or.inl (bigI 387 (by decide +kernel) rfl)⟩
theorem kX7_99 : KS RX7 99 mX7_within 3 := ⟨kcX7_within, bigI 310 (by decide +kernel) rfl, Or.inl (bigI 391 (by decide +kernel) rfl)⟩
theorem kX7_103 : KV RX7 103 mX5_isFull 5 0 := ⟨kcX5_isFull, bigI 393 (by decide +kernel) rfl, bigI 394 (by decide +kernel) rfl, ⟨_, _, rfl⟩, Or.inl (bigI 392 (by decide +kernel) rfl)⟩
theorem kX7_107 : KV RX7 107 mX5_size 5 0 := ⟨kcX5_size, bigI 397 (by decide +kernel) rfl, bigI 398 (by decide +kernel) rfl, ⟨_, _, rfl⟩, Or.inl (bigI 396 (by decide +kernel) rfl)⟩
theorem kL_18 : KV RL 18 mX7_wipe 7 0 := ⟨kcX7_wipe, bigI 401 (by decide +kernel) rfl, bigI 402 (by decide +kernel) rfl, ⟨_, _, rfl⟩, Or.inl (bigI 400 (by decide +kernel) rfl)⟩
theorem kL_23 : KV RL 23 mX7_fault 7 0 := ⟨kcX7_fault, bigI 405 (by decide +kernel) rfl, bigI 406 (by decide +kernel) rfl, ⟨_, _, rfl⟩, Or.inl (bigI 404 (by decide +kernel) rfl)⟩
theorem kL_27 : KV RL 27 mX7_lay 7 0 := ⟨kcX7_lay, bigI 409 (by decide +kernel) rfl, bigI 410 (by decide +kernel) rfl, ⟨_, _, rfl⟩, Or.inl (bigI 408 (by decide +kernel) rfl)⟩
theorem kX7_110 : KV RX7 110 mX1_canBeLaid 1 0 := ⟨kcX1_canBeLaid, bigI 413 (by decide +kernel) rfl, bigI 414 (by decide +kernel) rfl, ⟨_, _, rfl⟩, Or.inl (bigI 412 (by decide +kernel) rfl)⟩
theorem kX7_113 : KV RX7 113 mX1_cousins 1 0 := ⟨kcX1_cousins, bigI 417 (by decide +kernel) rfl, bigI 418 (by decide +kernel) rfl, ⟨_, _, rfl⟩, Or.inl (bigI 416 (by decide +kernel) rfl)⟩
theorem kL_31 : KV RL 31 mX7_cousin 7 2 := ⟨kcX7_cousin, bigI 421 (by decide +kernel) rfl, bigI 422 (by decide +kernel) rfl, ⟨_, _, rfl⟩, Or.inl (bigI 420 (by decide +kernel) rfl)⟩
theorem kX7_116 : KV RX7 116 mX7_isCousin 7 1 := ⟨kcX7_isCousin, bigI 426 (by decide +kernel) rfl, bigI 5 (by decide +kernel) rfl, ⟨_, _, rfl⟩, Or.inl (bigI 424 (by decide +kernel) rfl)⟩
theorem kX7_120 : KV RX7 120 mX1_kindOf 1 1 := ⟨kcX1_kindOf, bigI 429 (by decide +kernel) rfl, bigI 430 (by decide +kernel) rfl, ⟨_, _, rfl⟩, Or.inl (bigI 428 (by decide +kernel) rfl)⟩
theorem kX7_124 : KV RX7 124 mX4_birthdayOf 4 1 := ⟨kcX4_birthdayOf, bigI 433 (by decide +kernel) rfl, bigI 434 (by decide +kernel) rfl, ⟨_, _, rfl⟩, Or.inl (bigI 432 (by decide +kernel) rfl)⟩
theorem kX4_36 : KS RX4 36 mX7_at 2 := ⟨kcX7_at, bigI 303 (by decide +kernel) rfl, Or.inr ⟨"BirthdayRooms", nestI 436 (by decide +kernel) rfl⟩⟩
theorem kX7_127 : KV RX7 127 mX1_wantOf 1 1 := ⟨kcX1_wantOf, bigI 438 (by decide +kernel) rfl, bigI 439 (by decide +kernel) rfl, ⟨_, _, rfl⟩, Or.inl (bigI 437 (by decide +kernel) rfl)⟩
theorem kX7_130 : KV RX7 130 mX4_roomOf 4 1 := ⟨kcX4_roomOf, bigI 442 (by decide +kernel) rfl, bigI 443 (by decide +kernel) rfl, ⟨_, _, rfl⟩, Or.inl (bigI 441 (by decide +kernel) rfl)⟩
theorem kX7_133 : KV RX7 133 mX6_begin 6 1 := ⟨kcX6_begin, bigI 446 (by decide +kernel) rfl, bigI 447 (by decide +kernel) rfl, ⟨_, _, rfl⟩, Or.inl (bigI 445 (by decide +kernel) rfl)⟩
theorem kX6_29 : KV RX6 29 mX4_copyFrom 4 1 := ⟨kcX4_copyFrom, bigI 339 (by decide +kernel) rfl, bigI 340 (by decide +kernel) rfl, ⟨_, _, rfl⟩, Or.inl (bigI 449 (by decide +kernel) rfl)⟩
theorem kX6_33 : KV RX6 33 mX6_makeList 6 0 := ⟨kcX6_makeList, bigI 452 (by decide +kernel) rfl, bigI 6 (by decide +kernel) rfl, ⟨_, _, rfl⟩, Or.inl (bigI 450 (by decide +kernel) rfl)⟩
theorem kX6_47 : KV RX6 47 mX1_cousins 1 0 := ⟨kcX1_cousins, bigI 417 (by decide +kernel) rfl, bigI 418 (by decide +kernel) rfl, ⟨_, _, rfl⟩, Or.inl (bigI 454 (by decide +kernel) rfl)⟩
theorem kX6_43 : KS RX6 43 mX7_at 2 := ⟨kcX7_at, bigI 303 (by decide +kernel) rfl, Or.inr ⟨"BirthdayRooms", nestI 455 (by decide +kernel) rfl⟩⟩
theorem kX6_86 : KV RX6 86 mX4_birthdayOf 4 1 := ⟨kcX4_birthdayOf, bigI 433 (by decide +kernel) rfl, bigI 434 (by decide +kernel) rfl, ⟨_, _, rfl⟩, Or.inl (bigI 456 (by decide +kernel) rfl)⟩
theorem kX6_89 : KS RX6 89 mX7_put 3 := ⟨kcX7_put, bigI 300 (by decide +kernel) rfl, Or.inr ⟨"BirthdayRooms", nestI 457 (by decide +kernel) rfl⟩⟩
theorem kX6_36 : KV RX6 36 mX6_clearCounts 6 0 := ⟨kcX6_clearCounts, bigI 460 (by decide +kernel) rfl, bigI 7 (by decide +kernel) rfl, ⟨_, _, rfl⟩, Or.inl (bigI 458 (by decide +kernel) rfl)⟩
theorem kX7_137 : KV RX7 137 mX6_placeOf 6 1 := ⟨kcX6_placeOf, bigI 463 (by decide +kernel) rfl, bigI 464 (by decide +kernel) rfl, ⟨_, _, rfl⟩, Or.inl (bigI 462 (by decide +kernel) rfl)⟩
theorem kL_36 : KV RL 36 mX7_room 7 2 := ⟨kcX7_room, bigI 467 (by decide +kernel) rfl, bigI 468 (by decide +kernel) rfl, ⟨_, _, rfl⟩, Or.inl (bigI 466 (by decide +kernel) rfl)⟩
theorem kX7_140 : KV RX7 140 mX7_isRoom 7 1 := ⟨kcX7_isRoom, bigI 472 (by decide +kernel) rfl, bigI 8 (by decide +kernel) rfl, ⟨_, _, rfl⟩, Or.inl (bigI 470 (by decide +kernel) rfl)⟩
theorem kX7_261 : KV RX7 261 mX1_rooms 1 0 := ⟨kcX1_rooms, bigI 475 (by decide +kernel) rfl, bigI 476 (by decide +kernel) rfl, ⟨_, _, rfl⟩, Or.inl (bigI 474 (by decide +kernel) rfl)⟩
theorem kX7_143 : KV RX7 143 mX1_winterSun 1 1 := ⟨kcX1_winterSun, bigI 479 (by decide +kernel) rfl, bigI 480 (by decide +kernel) rfl, ⟨_, _, rfl⟩, Or.inl (bigI 478 (by decide +kernel) rfl)⟩
theorem kX7_146 : KV RX7 146 mX1_summerSun 1 1 := ⟨kcX1_summerSun, bigI 483 (by decide +kernel) rfl, bigI 484 (by decide +kernel) rfl, ⟨_, _, rfl⟩, Or.inl (bigI 482 (by decide +kernel) rfl)⟩
theorem kX7_149 : KV RX7 149 mX4_ownerOf 4 2 := ⟨kcX4_ownerOf, bigI 487 (by decide +kernel) rfl, bigI 488 (by decide +kernel) rfl, ⟨_, _, rfl⟩, Or.inl (bigI 486 (by decide +kernel) rfl)⟩
theorem kL_40 : KV RL 40 mX7_pass 7 1 := ⟨kcX7_pass, bigI 491 (by decide +kernel) rfl, bigI 492 (by decide +kernel) rfl, ⟨_, _, rfl⟩, Or.inl (bigI 490 (by decide +kernel) rfl)⟩
theorem kX7_153 : KV RX7 153 mX4_day 4 0 := ⟨kcX4_day, bigI 495 (by decide +kernel) rfl, bigI 496 (by decide +kernel) rfl, ⟨_, _, rfl⟩, Or.inl (bigI 494 (by decide +kernel) rfl)⟩
theorem kX7_156 : KV RX7 156 mX0_push 0 1 := ⟨kcX0_push, bigI 499 (by decide +kernel) rfl, bigI 500 (by decide +kernel) rfl, ⟨_, _, rfl⟩, Or.inl (bigI 498 (by decide +kernel) rfl)⟩
theorem kX0_26 : KV RX0 26 mX0_isFull 0 0 := ⟨kcX0_isFull, bigI 503 (by decide +kernel) rfl, bigI 504 (by decide +kernel) rfl, ⟨_, _, rfl⟩, Or.inl (bigI 502 (by decide +kernel) rfl)⟩
theorem kX0_30 : KV RX0 30 mX0_loseLowest 0 0 := ⟨kcX0_loseLowest, bigI 508 (by decide +kernel) rfl, bigI 9 (by decide +kernel) rfl, ⟨_, _, rfl⟩, Or.inl (bigI 506 (by decide +kernel) rfl)⟩
theorem kX0_33 : KV RX0 33 mX0_standingAt 0 1 := ⟨kcX0_standingAt, bigI 512 (by decide +kernel) rfl, bigI 10 (by decide +kernel) rfl, ⟨_, _, rfl⟩, Or.inl (bigI 510 (by decide +kernel) rfl)⟩
theorem kX0_37 : KV RX0 37 mX4_copyFrom 4 1 := ⟨kcX4_copyFrom, bigI 339 (by decide +kernel) rfl, bigI 340 (by decide +kernel) rfl, ⟨_, _, rfl⟩, Or.inl (bigI 514 (by decide +kernel) rfl)⟩
theorem kX7_159 : KV RX7 159 mX6_go 6 1 := ⟨kcX6_go, bigI 516 (by decide +kernel) rfl, bigI 517 (by decide +kernel) rfl, ⟨_, _, rfl⟩, Or.inl (bigI 515 (by decide +kernel) rfl)⟩
theorem kX6_64 : KV RX6 64 mX6_changeRooms 6 0 := ⟨kcX6_changeRooms, bigI 521 (by decide +kernel) rfl, bigI 11 (by decide +kernel) rfl, ⟨_, _, rfl⟩, Or.inl (bigI 519 (by decide +kernel) rfl)⟩
theorem kX6_93 : KV RX6 93 mX4_day 4 0 := ⟨kcX4_day, bigI 495 (by decide +kernel) rfl, bigI 496 (by decide +kernel) rfl, ⟨_, _, rfl⟩, Or.inl (bigI 523 (by decide +kernel) rfl)⟩
theorem kX6_96 : KV RX6 96 mX6_changeRoomOf 6 2 := ⟨kcX6_changeRoomOf, bigI 526 (by decide +kernel) rfl, bigI 12 (by decide +kernel) rfl, ⟨_, _, rfl⟩, Or.inl (bigI 524 (by decide +kernel) rfl)⟩
theorem kX6_99 : KV RX6 99 mX1_kindOf 1 1 := ⟨kcX1_kindOf, bigI 429 (by decide +kernel) rfl, bigI 430 (by decide +kernel) rfl, ⟨_, _, rfl⟩, Or.inl (bigI 528 (by decide +kernel) rfl)⟩
theorem kX6_102 : KS RX6 102 mX7_wrapped 2 := ⟨kcX7_wrapped, bigI 530 (by decide +kernel) rfl, Or.inr ⟨"BirthdayRooms", nestI 529 (by decide +kernel) rfl⟩⟩
theorem kX7_275 : KS RX7 275 mM_floorMod 2 := ⟨kcM_floorMod, bigI 533 (by decide +kernel) rfl, Or.inl (bigI 532 (by decide +kernel) rfl)⟩
theorem kX6_57 : KV RX6 57 mX6_sunNow 6 1 := ⟨kcX6_sunNow, bigI 537 (by decide +kernel) rfl, bigI 13 (by decide +kernel) rfl, ⟨_, _, rfl⟩, Or.inl (bigI 535 (by decide +kernel) rfl)⟩
theorem kX6_108 : KV RX6 108 mX1_sunsOn 1 1 := ⟨kcX1_sunsOn, bigI 540 (by decide +kernel) rfl, bigI 541 (by decide +kernel) rfl, ⟨_, _, rfl⟩, Or.inl (bigI 539 (by decide +kernel) rfl)⟩
theorem kX6_112 : KV RX6 112 mX4_roomOf 4 1 := ⟨kcX4_roomOf, bigI 442 (by decide +kernel) rfl, bigI 443 (by decide +kernel) rfl, ⟨_, _, rfl⟩, Or.inl (bigI 543 (by decide +kernel) rfl)⟩
theorem kX6_105 : KV RX6 105 mX4_exchange 4 2 := ⟨kcX4_exchange, bigI 545 (by decide +kernel) rfl, bigI 546 (by decide +kernel) rfl, ⟨_, _, rfl⟩, Or.inl (bigI 544 (by decide +kernel) rfl)⟩
theorem kX6_67 : KV RX6 67 mX6_daysAlike 6 0 := ⟨kcX6_daysAlike, bigI 550 (by decide +kernel) rfl, bigI 14 (by decide +kernel) rfl, ⟨_, _, rfl⟩, Or.inl (bigI 548 (by decide +kernel) rfl)⟩
theorem kX6_115 : KV RX6 115 mX4_daysToBirthdayOf 4 1 := ⟨kcX4_daysToBirthdayOf, bigI 553 (by decide +kernel) rfl, bigI 554 (by decide +kernel) rfl, ⟨_, _, rfl⟩, Or.inl (bigI 552 (by decide +kernel) rfl)⟩
theorem kX4_43 : KV RX4 43 mX4_birthdayOf 4 1 := ⟨kcX4_birthdayOf, bigI 433 (by decide +kernel) rfl, bigI 434 (by decide +kernel) rfl, ⟨_, _, rfl⟩, Or.inl (bigI 556 (by decide +kernel) rfl)⟩
theorem kX4_46 : KS RX4 46 mM_floorMod 2 := ⟨kcM_floorMod, bigI 533 (by decide +kernel) rfl, Or.inl (bigI 557 (by decide +kernel) rfl)⟩
theorem kX6_76 : KV RX6 76 mX6_countDays 6 1 := ⟨kcX6_countDays, bigI 564 (by decide +kernel) rfl, bigI 15 (by decide +kernel) rfl, ⟨_, _, rfl⟩, Or.inl (bigI 562 (by decide +kernel) rfl)⟩
theorem kX6_61 : KV RX6 61 mX1_wantOf 1 1 := ⟨kcX1_wantOf, bigI 438 (by decide +kernel) rfl, bigI 439 (by decide +kernel) rfl, ⟨_, _, rfl⟩, Or.inl (bigI 566 (by decide +kernel) rfl)⟩
theorem kX6_80 : KV RX6 80 mX4_addDays 4 1 := ⟨kcX4_addDays, bigI 568 (by decide +kernel) rfl, bigI 569 (by decide +kernel) rfl, ⟨_, _, rfl⟩, Or.inl (bigI 567 (by decide +kernel) rfl)⟩
theorem kX7_162 : KV RX7 162 mX6_standing 6 0 := ⟨kcX6_standing, bigI 572 (by decide +kernel) rfl, bigI 573 (by decide +kernel) rfl, ⟨_, _, rfl⟩, Or.inl (bigI 571 (by decide +kernel) rfl)⟩
theorem kL_44 : KV RL 44 mX7_swap 7 2 := ⟨kcX7_swap, bigI 576 (by decide +kernel) rfl, bigI 577 (by decide +kernel) rfl, ⟨_, _, rfl⟩, Or.inl (bigI 575 (by decide +kernel) rfl)⟩
theorem kX7_169 : KV RX7 169 mX4_exchange 4 2 := ⟨kcX4_exchange, bigI 545 (by decide +kernel) rfl, bigI 546 (by decide +kernel) rfl, ⟨_, _, rfl⟩, Or.inl (bigI 579 (by decide +kernel) rfl)⟩
theorem kL_48 : KV RL 48 mX7_alter 7 2 := ⟨kcX7_alter, bigI 581 (by decide +kernel) rfl, bigI 582 (by decide +kernel) rfl, ⟨_, _, rfl⟩, Or.inl (bigI 580 (by decide +kernel) rfl)⟩
theorem kX7_173 : KV RX7 173 mX4_setBirthday 4 2 := ⟨kcX4_setBirthday, bigI 585 (by decide +kernel) rfl, bigI 586 (by decide +kernel) rfl, ⟨_, _, rfl⟩, Or.inl (bigI 584 (by decide +kernel) rfl)⟩
theorem kL_52 : KV RL 52 mX7_undo 7 0 := ⟨kcX7_undo, bigI 589 (by decide +kernel) rfl, bigI 590 (by decide +kernel) rfl, ⟨_, _, rfl⟩, Or.inl (bigI 588 (by decide +kernel) rfl)⟩
theorem kX7_176 : KV RX7 176 mX0_pop 0 1 := ⟨kcX0_pop, bigI 593 (by decide +kernel) rfl, bigI 594 (by decide +kernel) rfl, ⟨_, _, rfl⟩, Or.inl (bigI 592 (by decide +kernel) rfl)⟩
theorem kX7_180 : KV RX7 180 mX0_size 0 0 := ⟨kcX0_size, bigI 597 (by decide +kernel) rfl, bigI 598 (by decide +kernel) rfl, ⟨_, _, rfl⟩, Or.inl (bigI 596 (by decide +kernel) rfl)⟩
theorem kL_56 : KV RL 56 mX7_has 7 2 := ⟨kcX7_has, bigI 601 (by decide +kernel) rfl, bigI 602 (by decide +kernel) rfl, ⟨_, _, rfl⟩, Or.inl (bigI 600 (by decide +kernel) rfl)⟩
theorem kL_60 : KV RL 60 mX7_whose 7 2 := ⟨kcX7_whose, bigI 605 (by decide +kernel) rfl, bigI 606 (by decide +kernel) rfl, ⟨_, _, rfl⟩, Or.inl (bigI 604 (by decide +kernel) rfl)⟩
theorem kL_64 : KV RL 64 mX7_sun 7 2 := ⟨kcX7_sun, bigI 609 (by decide +kernel) rfl, bigI 610 (by decide +kernel) rfl, ⟨_, _, rfl⟩, Or.inl (bigI 608 (by decide +kernel) rfl)⟩
theorem kX7_181 : KV RX7 181 mX6_sunTogether 6 1 := ⟨kcX6_sunTogether, bigI 613 (by decide +kernel) rfl, bigI 614 (by decide +kernel) rfl, ⟨_, _, rfl⟩, Or.inl (bigI 612 (by decide +kernel) rfl)⟩
theorem kL_68 : KV RL 68 mX7_cold 7 1 := ⟨kcX7_cold, bigI 617 (by decide +kernel) rfl, bigI 618 (by decide +kernel) rfl, ⟨_, _, rfl⟩, Or.inl (bigI 616 (by decide +kernel) rfl)⟩
theorem kX7_184 : KV RX7 184 mX6_goBehind 6 1 := ⟨kcX6_goBehind, bigI 621 (by decide +kernel) rfl, bigI 622 (by decide +kernel) rfl, ⟨_, _, rfl⟩, Or.inl (bigI 620 (by decide +kernel) rfl)⟩
theorem kX6_83 : KV RX6 83 mX6_go 6 1 := ⟨kcX6_go, bigI 516 (by decide +kernel) rfl, bigI 517 (by decide +kernel) rfl, ⟨_, _, rfl⟩, Or.inl (bigI 624 (by decide +kernel) rfl)⟩
theorem kX7_187 : KV RX7 187 mX6_coldBits 6 0 := ⟨kcX6_coldBits, bigI 626 (by decide +kernel) rfl, bigI 627 (by decide +kernel) rfl, ⟨_, _, rfl⟩, Or.inl (bigI 625 (by decide +kernel) rfl)⟩
theorem kL_72 : KV RL 72 mX7_want 7 1 := ⟨kcX7_want, bigI 630 (by decide +kernel) rfl, bigI 631 (by decide +kernel) rfl, ⟨_, _, rfl⟩, Or.inl (bigI 629 (by decide +kernel) rfl)⟩
theorem kX7_190 : KV RX7 190 mX6_coldTogether 6 0 := ⟨kcX6_coldTogether, bigI 634 (by decide +kernel) rfl, bigI 635 (by decide +kernel) rfl, ⟨_, _, rfl⟩, Or.inl (bigI 633 (by decide +kernel) rfl)⟩
theorem kL_76 : KV RL 76 mX7_swaps 7 3 := ⟨kcX7_swaps, bigI 638 (by decide +kernel) rfl, bigI 639 (by decide +kernel) rfl, ⟨_, _, rfl⟩, Or.inl (bigI 637 (by decide +kernel) rfl)⟩
theorem kX7_193 : KV RX7 193 mX2_seekMostSun 2 3 := ⟨kcX2_seekMostSun, bigI 642 (by decide +kernel) rfl, bigI 643 (by decide +kernel) rfl, ⟨_, _, rfl⟩, Or.inl (bigI 641 (by decide +kernel) rfl)⟩
theorem kX2_29 : KV RX2 29 mX2_beginBy 2 3 := ⟨kcX2_beginBy, bigI 647 (by decide +kernel) rfl, bigI 16 (by decide +kernel) rfl, ⟨_, _, rfl⟩, Or.inl (bigI 645 (by decide +kernel) rfl)⟩
theorem kX2_70 : KV RX2 70 mX6_begin 6 1 := ⟨kcX6_begin, bigI 446 (by decide +kernel) rfl, bigI 447 (by decide +kernel) rfl, ⟨_, _, rfl⟩, Or.inl (bigI 649 (by decide +kernel) rfl)⟩
theorem kX2_55 : KV RX2 55 mX6_standing 6 0 := ⟨kcX6_standing, bigI 572 (by decide +kernel) rfl, bigI 573 (by decide +kernel) rfl, ⟨_, _, rfl⟩, Or.inl (bigI 650 (by decide +kernel) rfl)⟩
theorem kX2_74 : KV RX2 74 mX4_exchange 4 2 := ⟨kcX4_exchange, bigI 545 (by decide +kernel) rfl, bigI 546 (by decide +kernel) rfl, ⟨_, _, rfl⟩, Or.inl (bigI 651 (by decide +kernel) rfl)⟩
theorem kX2_33 : KV RX2 33 mX6_go 6 1 := ⟨kcX6_go, bigI 516 (by decide +kernel) rfl, bigI 517 (by decide +kernel) rfl, ⟨_, _, rfl⟩, Or.inl (bigI 652 (by decide +kernel) rfl)⟩
theorem kX2_39 : KV RX2 39 mX6_sunTogether 6 1 := ⟨kcX6_sunTogether, bigI 613 (by decide +kernel) rfl, bigI 614 (by decide +kernel) rfl, ⟨_, _, rfl⟩, Or.inl (bigI 653 (by decide +kernel) rfl)⟩
theorem kX2_43 : KV RX2 43 mX2_take 2 3 := ⟨kcX2_take, bigI 656 (by decide +kernel) rfl, bigI 17 (by decide +kernel) rfl, ⟨_, _, rfl⟩, Or.inl (bigI 654 (by decide +kernel) rfl)⟩
theorem kX2_47 : KV RX2 47 mX2_isPair 2 1 := ⟨kcX2_isPair, bigI 660 (by decide +kernel) rfl, bigI 18 (by decide +kernel) rfl, ⟨_, _, rfl⟩, Or.inl (bigI 658 (by decide +kernel) rfl)⟩
theorem kX2_59 : KV RX2 59 mX1_cousins 1 0 := ⟨kcX1_cousins, bigI 417 (by decide +kernel) rfl, bigI 418 (by decide +kernel) rfl, ⟨_, _, rfl⟩, Or.inl (bigI 662 (by decide +kernel) rfl)⟩
theorem kX7_197 : KV RX7 197 mX2_best 2 0 := ⟨kcX2_best, bigI 664 (by decide +kernel) rfl, bigI 665 (by decide +kernel) rfl, ⟨_, _, rfl⟩, Or.inl (bigI 663 (by decide +kernel) rfl)⟩
theorem kX7_200 : KV RX7 200 mX2_firstPair 2 0 := ⟨kcX2_firstPair, bigI 668 (by decide +kernel) rfl, bigI 669 (by decide +kernel) rfl, ⟨_, _, rfl⟩, Or.inl (bigI 667 (by decide +kernel) rfl)⟩
theorem kX7_203 : KV RX7 203 mX2_secondPair 2 0 := ⟨kcX2_secondPair, bigI 672 (by decide +kernel) rfl, bigI 673 (by decide +kernel) rfl, ⟨_, _, rfl⟩, Or.inl (bigI 671 (by decide +kernel) rfl)⟩
theorem kL_81 : KV RL 81 mX7_warm 7 2 := ⟨kcX7_warm, bigI 676 (by decide +kernel) rfl, bigI 677 (by decide +kernel) rfl, ⟨_, _, rfl⟩, Or.inl (bigI 675 (by decide +kernel) rfl)⟩
theorem kX7_206 : KV RX7 206 mX2_seekFewestCold 2 2 := ⟨kcX2_seekFewestCold, bigI 680 (by decide +kernel) rfl, bigI 681 (by decide +kernel) rfl, ⟨_, _, rfl⟩, Or.inl (bigI 679 (by decide +kernel) rfl)⟩
theorem kX2_51 : KV RX2 51 mX6_coldTogether 6 0 := ⟨kcX6_coldTogether, bigI 634 (by decide +kernel) rfl, bigI 635 (by decide +kernel) rfl, ⟨_, _, rfl⟩, Or.inl (bigI 683 (by decide +kernel) rfl)⟩
theorem kL_85 : KV RL 85 mX7_canHave 7 2 := ⟨kcX7_canHave, bigI 685 (by decide +kernel) rfl, bigI 686 (by decide +kernel) rfl, ⟨_, _, rfl⟩, Or.inl (bigI 684 (by decide +kernel) rfl)⟩
theorem kX7_210 : KV RX7 210 mX2_ownersByOneSwap 2 3 := ⟨kcX2_ownersByOneSwap, bigI 689 (by decide +kernel) rfl, bigI 690 (by decide +kernel) rfl, ⟨_, _, rfl⟩, Or.inl (bigI 688 (by decide +kernel) rfl)⟩
theorem kX2_64 : KV RX2 64 mX4_ownerOf 4 2 := ⟨kcX4_ownerOf, bigI 487 (by decide +kernel) rfl, bigI 488 (by decide +kernel) rfl, ⟨_, _, rfl⟩, Or.inl (bigI 692 (by decide +kernel) rfl)⟩
theorem kL_89 : KV RL 89 mX7_round 7 0 := ⟨kcX7_round, bigI 694 (by decide +kernel) rfl, bigI 695 (by decide +kernel) rfl, ⟨_, _, rfl⟩, Or.inl (bigI 693 (by decide +kernel) rfl)⟩
theorem kX7_214 : KV RX7 214 mX4_hasRoomsOf 4 2 := ⟨kcX4_hasRoomsOf, bigI 698 (by decide +kernel) rfl, bigI 699 (by decide +kernel) rfl, ⟨_, _, rfl⟩, Or.inl (bigI 697 (by decide +kernel) rfl)⟩
theorem kX4_40 : KV RX4 40 mX4_roomOf 4 1 := ⟨kcX4_roomOf, bigI 442 (by decide +kernel) rfl, bigI 443 (by decide +kernel) rfl, ⟨_, _, rfl⟩, Or.inl (bigI 701 (by decide +kernel) rfl)⟩
theorem kL_93 : KV RL 93 mX7_way 7 3 := ⟨kcX7_way, bigI 703 (by decide +kernel) rfl, bigI 704 (by decide +kernel) rfl, ⟨_, _, rfl⟩, Or.inl (bigI 702 (by decide +kernel) rfl)⟩
theorem kX7_218 : KV RX7 218 mX7_wantsBetween 7 2 := ⟨kcX7_wantsBetween, bigI 708 (by decide +kernel) rfl, bigI 19 (by decide +kernel) rfl, ⟨_, _, rfl⟩, Or.inl (bigI 706 (by decide +kernel) rfl)⟩
theorem kX7_264 : KS RX7 264 mX7_wrapped 2 := ⟨kcX7_wrapped, bigI 530 (by decide +kernel) rfl, Or.inl (bigI 710 (by decide +kernel) rfl)⟩
theorem kL_97 : KV RL 97 mX7_seen 7 3 := ⟨kcX7_seen, bigI 713 (by decide +kernel) rfl, bigI 714 (by decide +kernel) rfl, ⟨_, _, rfl⟩, Or.inl (bigI 712 (by decide +kernel) rfl)⟩
theorem kX7_226 : KV RX7 226 mX3_isFull 3 0 := ⟨kcX3_isFull, bigI 717 (by decide +kernel) rfl, bigI 718 (by decide +kernel) rfl, ⟨_, _, rfl⟩, Or.inl (bigI 716 (by decide +kernel) rfl)⟩
theorem kX7_227 : KV RX7 227 mX3_add 3 3 := ⟨kcX3_add, bigI 721 (by decide +kernel) rfl, bigI 722 (by decide +kernel) rfl, ⟨_, _, rfl⟩, Or.inl (bigI 720 (by decide +kernel) rfl)⟩
theorem kX3_25 : KS RX3 25 mX7_at 2 := ⟨kcX7_at, bigI 303 (by decide +kernel) rfl, Or.inr ⟨"BirthdayRooms", nestI 724 (by decide +kernel) rfl⟩⟩
theorem kX3_29 : KV RX3 29 mX3_set 3 4 := ⟨kcX3_set, bigI 727 (by decide +kernel) rfl, bigI 20 (by decide +kernel) rfl, ⟨_, _, rfl⟩, Or.inl (bigI 725 (by decide +kernel) rfl)⟩
theorem kX3_33 : KS RX3 33 mX7_put 3 := ⟨kcX7_put, bigI 300 (by decide +kernel) rfl, Or.inr ⟨"BirthdayRooms", nestI 729 (by decide +kernel) rfl⟩⟩
theorem kX7_230 : KV RX7 230 mX3_size 3 0 := ⟨kcX3_size, bigI 731 (by decide +kernel) rfl, bigI 732 (by decide +kernel) rfl, ⟨_, _, rfl⟩, Or.inl (bigI 730 (by decide +kernel) rfl)⟩
theorem kL_101 : KV RL 101 mX7_forget 7 0 := ⟨kcX7_forget, bigI 735 (by decide +kernel) rfl, bigI 736 (by decide +kernel) rfl, ⟨_, _, rfl⟩, Or.inl (bigI 734 (by decide +kernel) rfl)⟩
theorem kL_105 : KV RL 105 mX7_register 7 2 := ⟨kcX7_register, bigI 739 (by decide +kernel) rfl, bigI 740 (by decide +kernel) rfl, ⟨_, _, rfl⟩, Or.inl (bigI 738 (by decide +kernel) rfl)⟩
theorem kX7_232 : KV RX7 232 mX6_beginWith 6 3 := ⟨kcX6_beginWith, bigI 743 (by decide +kernel) rfl, bigI 744 (by decide +kernel) rfl, ⟨_, _, rfl⟩, Or.inl (bigI 742 (by decide +kernel) rfl)⟩
theorem kX6_39 : KV RX6 39 mX4_setBirthday 4 2 := ⟨kcX4_setBirthday, bigI 585 (by decide +kernel) rfl, bigI 586 (by decide +kernel) rfl, ⟨_, _, rfl⟩, Or.inl (bigI 746 (by decide +kernel) rfl)⟩
theorem kX7_235 : KV RX7 235 mX3_allHoldOn 3 1 := ⟨kcX3_allHoldOn, bigI 748 (by decide +kernel) rfl, bigI 749 (by decide +kernel) rfl, ⟨_, _, rfl⟩, Or.inl (bigI 747 (by decide +kernel) rfl)⟩
theorem kX3_37 : KV RX3 37 mX6_go 6 1 := ⟨kcX6_go, bigI 516 (by decide +kernel) rfl, bigI 517 (by decide +kernel) rfl, ⟨_, _, rfl⟩, Or.inl (bigI 751 (by decide +kernel) rfl)⟩
theorem kX3_43 : KV RX3 43 mX6_standing 6 0 := ⟨kcX6_standing, bigI 572 (by decide +kernel) rfl, bigI 573 (by decide +kernel) rfl, ⟨_, _, rfl⟩, Or.inl (bigI 752 (by decide +kernel) rfl)⟩
theorem kX3_47 : KV RX3 47 mX4_roomOf 4 1 := ⟨kcX4_roomOf, bigI 442 (by decide +kernel) rfl, bigI 443 (by decide +kernel) rfl, ⟨_, _, rfl⟩, Or.inl (bigI 753 (by decide +kernel) rfl)⟩
theorem kL_109 : KV RL 109 mX7_foundling 7 4 := ⟨kcX7_foundling, bigI 755 (by decide +kernel) rfl, bigI 756 (by decide +kernel) rfl, ⟨_, _, rfl⟩, Or.inl (bigI 754 (by decide +kernel) rfl)⟩
theorem kX7_239 : KS RX7 239 mX7_commonDivisor 2 := ⟨kcX7_commonDivisor, bigI 759 (by decide +kernel) rfl, Or.inl (bigI 758 (by decide +kernel) rfl)⟩
theorem kL_114 : KV RL 114 mX7_loses 7 1 := ⟨kcX7_loses, bigI 763 (by decide +kernel) rfl, bigI 764 (by decide +kernel) rfl, ⟨_, _, rfl⟩, Or.inl (bigI 762 (by decide +kernel) rfl)⟩
theorem kL_118 : KV RL 118 mX7_next 7 1 := ⟨kcX7_next, bigI 767 (by decide +kernel) rfl, bigI 768 (by decide +kernel) rfl, ⟨_, _, rfl⟩, Or.inl (bigI 766 (by decide +kernel) rfl)⟩
theorem kX7_242 : KV RX7 242 mX6_listed 6 1 := ⟨kcX6_listed, bigI 771 (by decide +kernel) rfl, bigI 772 (by decide +kernel) rfl, ⟨_, _, rfl⟩, Or.inl (bigI 770 (by decide +kernel) rfl)⟩
theorem kX7_245 : KV RX7 245 mX4_daysToBirthdayOf 4 1 := ⟨kcX4_daysToBirthdayOf, bigI 553 (by decide +kernel) rfl, bigI 554 (by decide +kernel) rfl, ⟨_, _, rfl⟩, Or.inl (bigI 774 (by decide +kernel) rfl)⟩
theorem kL_122 : KV RL 122 mX7_year 7 3 := ⟨kcX7_year, bigI 776 (by decide +kernel) rfl, bigI 777 (by decide +kernel) rfl, ⟨_, _, rfl⟩, Or.inl (bigI 775 (by decide +kernel) rfl)⟩
theorem kX7_248 : KS RX7 248 mX7_drawOf 2 := ⟨kcX7_drawOf, bigI 780 (by decide +kernel) rfl, Or.inl (bigI 779 (by decide +kernel) rfl)⟩
theorem kX7_251 : KV RX7 251 mX7_exchangeByDraw 7 1 := ⟨kcX7_exchangeByDraw, bigI 788 (by decide +kernel) rfl, bigI 21 (by decide +kernel) rfl, ⟨_, _, rfl⟩, Or.inl (bigI 786 (by decide +kernel) rfl)⟩
theorem kL_126 : KV RL 126 mX7_keep 7 0 := ⟨kcX7_keep, bigI 791 (by decide +kernel) rfl, bigI 792 (by decide +kernel) rfl, ⟨_, _, rfl⟩, Or.inl (bigI 790 (by decide +kernel) rfl)⟩
theorem kX7_254 : KV RX7 254 mX0_isFull 0 0 := ⟨kcX0_isFull, bigI 503 (by decide +kernel) rfl, bigI 504 (by decide +kernel) rfl, ⟨_, _, rfl⟩, Or.inl (bigI 794 (by decide +kernel) rfl)⟩
theorem kL_130 : KV RL 130 mX7_back 7 0 := ⟨kcX7_back, bigI 796 (by decide +kernel) rfl, bigI 797 (by decide +kernel) rfl, ⟨_, _, rfl⟩, Or.inl (bigI 795 (by decide +kernel) rfl)⟩
theorem kL_134 : KV RL 134 mX7_count 7 1 := ⟨kcX7_count, bigI 800 (by decide +kernel) rfl, bigI 801 (by decide +kernel) rfl, ⟨_, _, rfl⟩, Or.inl (bigI 799 (by decide +kernel) rfl)⟩
theorem kX8_52 : KV RX8 52 mX8_clearTold 8 0 := ⟨kcX8_clearTold, bigI 811 (by decide +kernel) rfl, bigI 22 (by decide +kernel) rfl, ⟨_, _, rfl⟩, Or.inl (bigI 809 (by decide +kernel) rfl)⟩
theorem kX8_76 : KS RX8 76 mX8_in 3 := ⟨kcX8_in, bigI 814 (by decide +kernel) rfl, Or.inl (bigI 813 (by decide +kernel) rfl)⟩
theorem kX8_55 : KV RX8 55 mX8_tellsCousin 8 3 := ⟨kcX8_tellsCousin, bigI 818 (by decide +kernel) rfl, bigI 23 (by decide +kernel) rfl, ⟨_, _, rfl⟩, Or.inl (bigI 816 (by decide +kernel) rfl)⟩
theorem kX8_59 : KV RX8 59 mX8_tellsRoom 8 2 := ⟨kcX8_tellsRoom, bigI 822 (by decide +kernel) rfl, bigI 24 (by decide +kernel) rfl, ⟨_, _, rfl⟩, Or.inl (bigI 820 (by decide +kernel) rfl)⟩
theorem kX8_63 : KV RX8 63 mX8_settles 8 0 := ⟨kcX8_settles, bigI 826 (by decide +kernel) rfl, bigI 25 (by decide +kernel) rfl, ⟨_, _, rfl⟩, Or.inl (bigI 824 (by decide +kernel) rfl)⟩
theorem kX8_114 : KS RX8 114 mX8_put 4 := ⟨kcX8_put, bigI 829 (by decide +kernel) rfl, Or.inl (bigI 828 (by decide +kernel) rfl)⟩
theorem kL_17 : KV RL 17 mX8_write 8 1 := ⟨kcX8_write, bigI 908 (by decide +kernel) rfl, bigI 909 (by decide +kernel) rfl, ⟨_, _, rfl⟩, Or.inl (bigI 907 (by decide +kernel) rfl)⟩
theorem kL_22 : KV RL 22 mX8_wipe 8 0 := ⟨kcX8_wipe, bigI 912 (by decide +kernel) rfl, bigI 913 (by decide +kernel) rfl, ⟨_, _, rfl⟩, Or.inl (bigI 911 (by decide +kernel) rfl)⟩
theorem kL_26 : KV RL 26 mX8_fault 8 0 := ⟨kcX8_fault, bigI 916 (by decide +kernel) rfl, bigI 917 (by decide +kernel) rfl, ⟨_, _, rfl⟩, Or.inl (bigI 915 (by decide +kernel) rfl)⟩
theorem kX8_107 : KV RX8 107 mX8_readItem 8 0 := ⟨kcX8_readItem, bigI 921 (by decide +kernel) rfl, bigI 26 (by decide +kernel) rfl, ⟨_, _, rfl⟩, Or.inl (bigI 919 (by decide +kernel) rfl)⟩
theorem kX8_86 : KV RX8 86 mX8_letterAt 8 1 := ⟨kcX8_letterAt, bigI 925 (by decide +kernel) rfl, bigI 27 (by decide +kernel) rfl, ⟨_, _, rfl⟩, Or.inl (bigI 923 (by decide +kernel) rfl)⟩
theorem kX8_100 : KV RX8 100 mX8_readCousinOf 8 0 := ⟨kcX8_readCousinOf, bigI 929 (by decide +kernel) rfl, bigI 28 (by decide +kernel) rfl, ⟨_, _, rfl⟩, Or.inl (bigI 927 (by decide +kernel) rfl)⟩
theorem kX8_94 : KV RX8 94 mX8_readNumbers 8 1 := ⟨kcX8_readNumbers, bigI 933 (by decide +kernel) rfl, bigI 29 (by decide +kernel) rfl, ⟨_, _, rfl⟩, Or.inl (bigI 931 (by decide +kernel) rfl)⟩
theorem kX8_90 : KS RX8 90 mX8_isFigure 1 := ⟨kcX8_isFigure, bigI 936 (by decide +kernel) rfl, Or.inl (bigI 935 (by decide +kernel) rfl)⟩
theorem kX8_97 : KV RX8 97 mX8_isTold 8 3 := ⟨kcX8_isTold, bigI 940 (by decide +kernel) rfl, bigI 30 (by decide +kernel) rfl, ⟨_, _, rfl⟩, Or.inl (bigI 938 (by decide +kernel) rfl)⟩
theorem kX8_104 : KV RX8 104 mX8_readRoomOf 8 0 := ⟨kcX8_readRoomOf, bigI 944 (by decide +kernel) rfl, bigI 31 (by decide +kernel) rfl, ⟨_, _, rfl⟩, Or.inl (bigI 942 (by decide +kernel) rfl)⟩
theorem kL_30 : KV RL 30 mX8_lay 8 0 := ⟨kcX8_lay, bigI 947 (by decide +kernel) rfl, bigI 948 (by decide +kernel) rfl, ⟨_, _, rfl⟩, Or.inl (bigI 946 (by decide +kernel) rfl)⟩
theorem kX8_110 : KV RX8 110 mX8_fault 8 0 := ⟨kcX8_fault, bigI 916 (by decide +kernel) rfl, bigI 917 (by decide +kernel) rfl, ⟨_, _, rfl⟩, Or.inl (bigI 950 (by decide +kernel) rfl)⟩
theorem kL_35 : KV RL 35 mX8_cousin 8 2 := ⟨kcX8_cousin, bigI 952 (by decide +kernel) rfl, bigI 953 (by decide +kernel) rfl, ⟨_, _, rfl⟩, Or.inl (bigI 951 (by decide +kernel) rfl)⟩
theorem kX8_151 : KV RX8 151 mX8_isOne 8 1 := ⟨kcX8_isOne, bigI 957 (by decide +kernel) rfl, bigI 32 (by decide +kernel) rfl, ⟨_, _, rfl⟩, Or.inl (bigI 955 (by decide +kernel) rfl)⟩
theorem kX8_154 : KV RX8 154 mX8_from 8 1 := ⟨kcX8_from, bigI 961 (by decide +kernel) rfl, bigI 33 (by decide +kernel) rfl, ⟨_, _, rfl⟩, Or.inl (bigI 959 (by decide +kernel) rfl)⟩
theorem kX8_127 : KV RX8 127 mX8_findList 8 0 := ⟨kcX8_findList, bigI 965 (by decide +kernel) rfl, bigI 34 (by decide +kernel) rfl, ⟨_, _, rfl⟩, Or.inl (bigI 963 (by decide +kernel) rfl)⟩
theorem kX8_130 : KV RX8 130 mX8_placeOf 8 1 := ⟨kcX8_placeOf, bigI 969 (by decide +kernel) rfl, bigI 35 (by decide +kernel) rfl, ⟨_, _, rfl⟩, Or.inl (bigI 967 (by decide +kernel) rfl)⟩
theorem kL_39 : KV RL 39 mX8_room 8 2 := ⟨kcX8_room, bigI 972 (by decide +kernel) rfl, bigI 973 (by decide +kernel) rfl, ⟨_, _, rfl⟩, Or.inl (bigI 971 (by decide +kernel) rfl)⟩
theorem kX8_158 : KV RX8 158 mX8_whoseNow 8 1 := ⟨kcX8_whoseNow, bigI 977 (by decide +kernel) rfl, bigI 36 (by decide +kernel) rfl, ⟨_, _, rfl⟩, Or.inl (bigI 975 (by decide +kernel) rfl)⟩
theorem kL_43 : KV RL 43 mX8_pass 8 1 := ⟨kcX8_pass, bigI 980 (by decide +kernel) rfl, bigI 981 (by decide +kernel) rfl, ⟨_, _, rfl⟩, Or.inl (bigI 979 (by decide +kernel) rfl)⟩
theorem kX8_161 : KV RX8 161 mX8_remembers 8 0 := ⟨kcX8_remembers, bigI 985 (by decide +kernel) rfl, bigI 37 (by decide +kernel) rfl, ⟨_, _, rfl⟩, Or.inl (bigI 983 (by decide +kernel) rfl)⟩
theorem kX8_164 : KV RX8 164 mX8_goesOn 8 1 := ⟨kcX8_goesOn, bigI 989 (by decide +kernel) rfl, bigI 38 (by decide +kernel) rfl, ⟨_, _, rfl⟩, Or.inl (bigI 987 (by decide +kernel) rfl)⟩
theorem kX8_145 : KV RX8 145 mX8_goes 8 0 := ⟨kcX8_goes, bigI 993 (by decide +kernel) rfl, bigI 39 (by decide +kernel) rfl, ⟨_, _, rfl⟩, Or.inl (bigI 991 (by decide +kernel) rfl)⟩
theorem kX8_141 : KV RX8 141 mX8_changes 8 1 := ⟨kcX8_changes, bigI 997 (by decide +kernel) rfl, bigI 40 (by decide +kernel) rfl, ⟨_, _, rfl⟩, Or.inl (bigI 995 (by decide +kernel) rfl)⟩
theorem kX8_133 : KS RX8 133 mX8_swapped 3 := ⟨kcX8_swapped, bigI 1000 (by decide +kernel) rfl, Or.inl (bigI 999 (by decide +kernel) rfl)⟩
theorem kX8_137 : KV RX8 137 mX8_sunIn 8 2 := ⟨kcX8_sunIn, bigI 1004 (by decide +kernel) rfl, bigI 41 (by decide +kernel) rfl, ⟨_, _, rfl⟩, Or.inl (bigI 1002 (by decide +kernel) rfl)⟩
theorem kL_47 : KV RL 47 mX8_swap 8 2 := ⟨kcX8_swap, bigI 1007 (by decide +kernel) rfl, bigI 1008 (by decide +kernel) rfl, ⟨_, _, rfl⟩, Or.inl (bigI 1006 (by decide +kernel) rfl)⟩
theorem kL_51 : KV RL 51 mX8_alter 8 2 := ⟨kcX8_alter, bigI 1011 (by decide +kernel) rfl, bigI 1012 (by decide +kernel) rfl, ⟨_, _, rfl⟩, Or.inl (bigI 1010 (by decide +kernel) rfl)⟩
theorem kL_55 : KV RL 55 mX8_undo 8 0 := ⟨kcX8_undo, bigI 1015 (by decide +kernel) rfl, bigI 1016 (by decide +kernel) rfl, ⟨_, _, rfl⟩, Or.inl (bigI 1014 (by decide +kernel) rfl)⟩
theorem kL_59 : KV RL 59 mX8_has 8 2 := ⟨kcX8_has, bigI 1019 (by decide +kernel) rfl, bigI 1020 (by decide +kernel) rfl, ⟨_, _, rfl⟩, Or.inl (bigI 1018 (by decide +kernel) rfl)⟩
theorem kL_63 : KV RL 63 mX8_whose 8 2 := ⟨kcX8_whose, bigI 1023 (by decide +kernel) rfl, bigI 1024 (by decide +kernel) rfl, ⟨_, _, rfl⟩, Or.inl (bigI 1022 (by decide +kernel) rfl)⟩
theorem kL_67 : KV RL 67 mX8_sun 8 2 := ⟨kcX8_sun, bigI 1027 (by decide +kernel) rfl, bigI 1028 (by decide +kernel) rfl, ⟨_, _, rfl⟩, Or.inl (bigI 1026 (by decide +kernel) rfl)⟩
theorem kX8_167 : KV RX8 167 mX8_sunOn 8 2 := ⟨kcX8_sunOn, bigI 1032 (by decide +kernel) rfl, bigI 42 (by decide +kernel) rfl, ⟨_, _, rfl⟩, Or.inl (bigI 1030 (by decide +kernel) rfl)⟩
theorem kL_71 : KV RL 71 mX8_cold 8 1 := ⟨kcX8_cold, bigI 1035 (by decide +kernel) rfl, bigI 1036 (by decide +kernel) rfl, ⟨_, _, rfl⟩, Or.inl (bigI 1034 (by decide +kernel) rfl)⟩
theorem kL_75 : KV RL 75 mX8_want 8 1 := ⟨kcX8_want, bigI 1039 (by decide +kernel) rfl, bigI 1040 (by decide +kernel) rfl, ⟨_, _, rfl⟩, Or.inl (bigI 1038 (by decide +kernel) rfl)⟩
theorem kX8_170 : KV RX8 170 mX8_wantOn 8 1 := ⟨kcX8_wantOn, bigI 1044 (by decide +kernel) rfl, bigI 43 (by decide +kernel) rfl, ⟨_, _, rfl⟩, Or.inl (bigI 1042 (by decide +kernel) rfl)⟩
theorem kX8_148 : KS RX8 148 mX8_bits 1 := ⟨kcX8_bits, bigI 1047 (by decide +kernel) rfl, Or.inl (bigI 1046 (by decide +kernel) rfl)⟩
theorem kL_80 : KV RL 80 mX8_swaps 8 3 := ⟨kcX8_swaps, bigI 1050 (by decide +kernel) rfl, bigI 1051 (by decide +kernel) rfl, ⟨_, _, rfl⟩, Or.inl (bigI 1049 (by decide +kernel) rfl)⟩
theorem kX8_182 : KV RX8 182 mX8_triesSwaps 8 4 := ⟨kcX8_triesSwaps, bigI 1055 (by decide +kernel) rfl, bigI 44 (by decide +kernel) rfl, ⟨_, _, rfl⟩, Or.inl (bigI 1053 (by decide +kernel) rfl)⟩
theorem kX8_186 : KS RX8 186 mX8_isPair 2 := ⟨kcX8_isPair, bigI 1058 (by decide +kernel) rfl, Or.inl (bigI 1057 (by decide +kernel) rfl)⟩
theorem kL_84 : KV RL 84 mX8_warm 8 2 := ⟨kcX8_warm, bigI 1061 (by decide +kernel) rfl, bigI 1062 (by decide +kernel) rfl, ⟨_, _, rfl⟩, Or.inl (bigI 1060 (by decide +kernel) rfl)⟩
theorem kL_88 : KV RL 88 mX8_canHave 8 2 := ⟨kcX8_canHave, bigI 1065 (by decide +kernel) rfl, bigI 1066 (by decide +kernel) rfl, ⟨_, _, rfl⟩, Or.inl (bigI 1064 (by decide +kernel) rfl)⟩
theorem kL_92 : KV RL 92 mX8_round 8 0 := ⟨kcX8_round, bigI 1069 (by decide +kernel) rfl, bigI 1070 (by decide +kernel) rfl, ⟨_, _, rfl⟩, Or.inl (bigI 1068 (by decide +kernel) rfl)⟩
theorem kL_96 : KV RL 96 mX8_way 8 3 := ⟨kcX8_way, bigI 1073 (by decide +kernel) rfl, bigI 1074 (by decide +kernel) rfl, ⟨_, _, rfl⟩, Or.inl (bigI 1072 (by decide +kernel) rfl)⟩
theorem kX8_190 : KV RX8 190 mX8_wayBy 8 3 := ⟨kcX8_wayBy, bigI 1078 (by decide +kernel) rfl, bigI 45 (by decide +kernel) rfl, ⟨_, _, rfl⟩, Or.inl (bigI 1076 (by decide +kernel) rfl)⟩
theorem kL_100 : KV RL 100 mX8_seen 8 3 := ⟨kcX8_seen, bigI 1081 (by decide +kernel) rfl, bigI 1082 (by decide +kernel) rfl, ⟨_, _, rfl⟩, Or.inl (bigI 1080 (by decide +kernel) rfl)⟩
theorem kL_104 : KV RL 104 mX8_forget 8 0 := ⟨kcX8_forget, bigI 1085 (by decide +kernel) rfl, bigI 1086 (by decide +kernel) rfl, ⟨_, _, rfl⟩, Or.inl (bigI 1084 (by decide +kernel) rfl)⟩
theorem kL_108 : KV RL 108 mX8_register 8 2 := ⟨kcX8_register, bigI 1089 (by decide +kernel) rfl, bigI 1090 (by decide +kernel) rfl, ⟨_, _, rfl⟩, Or.inl (bigI 1088 (by decide +kernel) rfl)⟩
theorem kL_113 : KV RL 113 mX8_foundling 8 4 := ⟨kcX8_foundling, bigI 1093 (by decide +kernel) rfl, bigI 1094 (by decide +kernel) rfl, ⟨_, _, rfl⟩, Or.inl (bigI 1092 (by decide +kernel) rfl)⟩
theorem kL_117 : KV RL 117 mX8_loses 8 1 := ⟨kcX8_loses, bigI 1097 (by decide +kernel) rfl, bigI 1098 (by decide +kernel) rfl, ⟨_, _, rfl⟩, Or.inl (bigI 1096 (by decide +kernel) rfl)⟩
theorem kL_121 : KV RL 121 mX8_next 8 1 := ⟨kcX8_next, bigI 1101 (by decide +kernel) rfl, bigI 1102 (by decide +kernel) rfl, ⟨_, _, rfl⟩, Or.inl (bigI 1100 (by decide +kernel) rfl)⟩
theorem kL_125 : KV RL 125 mX8_year 8 3 := ⟨kcX8_year, bigI 1105 (by decide +kernel) rfl, bigI 1106 (by decide +kernel) rfl, ⟨_, _, rfl⟩, Or.inl (bigI 1104 (by decide +kernel) rfl)⟩
theorem kL_129 : KV RL 129 mX8_keep 8 0 := ⟨kcX8_keep, bigI 1113 (by decide +kernel) rfl, bigI 1114 (by decide +kernel) rfl, ⟨_, _, rfl⟩, Or.inl (bigI 1112 (by decide +kernel) rfl)⟩
theorem kL_133 : KV RL 133 mX8_back 8 0 := ⟨kcX8_back, bigI 1117 (by decide +kernel) rfl, bigI 1118 (by decide +kernel) rfl, ⟨_, _, rfl⟩, Or.inl (bigI 1116 (by decide +kernel) rfl)⟩
theorem kL_137 : KV RL 137 mX8_count 8 1 := ⟨kcX8_count, bigI 1121 (by decide +kernel) rfl, bigI 1122 (by decide +kernel) rfl, ⟨_, _, rfl⟩, Or.inl (bigI 1120 (by decide +kernel) rfl)⟩
theorem qX7_267 : Cond.constantLong RX7 267 7919 ∈ bigW := bigI 782 (by decide +kernel) rfl
theorem qX7_269 : Cond.constantLong RX7 269 6151 ∈ bigW := bigI 783 (by decide +kernel) rfl
theorem qX7_271 : Cond.constantLong RX7 271 65521 ∈ bigW := bigI 784 (by decide +kernel) rfl
theorem qX7_273 : Cond.constantLong RX7 273 2 ∈ bigW := bigI 785 (by decide +kernel) rfl
theorem qX8_194 : Cond.constantLong RX8 194 7919 ∈ bigW := bigI 1108 (by decide +kernel) rfl
theorem qX8_196 : Cond.constantLong RX8 196 6151 ∈ bigW := bigI 1109 (by decide +kernel) rfl
theorem qX8_198 : Cond.constantLong RX8 198 65521 ∈ bigW := bigI 1110 (by decide +kernel) rfl
theorem qX8_200 : Cond.constantLong RX8 200 2 ∈ bigW := bigI 1111 (by decide +kernel) rfl
set_option maxRecDepth 20000 in
theorem kX0_7 : Cond.methodLink RX0 7 Lib.Math.max.name ∈ bigW ∧ Cond.static Lib.Math.max.name ∈ bigW ∧ Cond.initialized "java/lang/Math" ∈ bigW ∧ Cond.code Lib.Math.max.name Lib.Math.max.code 2 (some .int) ∈ bigW := ⟨bigI 140 (by decide +kernel) rfl, bigI 141 (by decide +kernel) rfl, bigI 52 (by decide +kernel) rfl, bigI 142 rfl rfl⟩
set_option maxRecDepth 20000 in
theorem kX5_67 : Cond.methodLink RX5 67 Lib.Math.max.name ∈ bigW ∧ Cond.static Lib.Math.max.name ∈ bigW ∧ Cond.initialized "java/lang/Math" ∈ bigW ∧ Cond.code Lib.Math.max.name Lib.Math.max.code 2 (some .int) ∈ bigW := ⟨bigI 298 (by decide +kernel) rfl, bigI 141 (by decide +kernel) rfl, bigI 52 (by decide +kernel) rfl, bigI 142 rfl rfl⟩
set_option maxRecDepth 20000 in
theorem kX6_118 : Cond.methodLink RX6 118 Lib.Math.max.name ∈ bigW ∧ Cond.static Lib.Math.max.name ∈ bigW ∧ Cond.initialized "java/lang/Math" ∈ bigW ∧ Cond.code Lib.Math.max.name Lib.Math.max.code 2 (some .int) ∈ bigW := ⟨bigI 558 (by decide +kernel) rfl, bigI 141 (by decide +kernel) rfl, bigI 52 (by decide +kernel) rfl, bigI 142 rfl rfl⟩
set_option maxRecDepth 20000 in
theorem kX6_70 : Cond.methodLink RX6 70 Lib.Math.min.name ∈ bigW ∧ Cond.static Lib.Math.min.name ∈ bigW ∧ Cond.initialized "java/lang/Math" ∈ bigW ∧ Cond.code Lib.Math.min.name Lib.Math.min.code 2 (some .int) ∈ bigW := ⟨bigI 559 (by decide +kernel) rfl, bigI 560 (by decide +kernel) rfl, bigI 52 (by decide +kernel) rfl, bigI 561 rfl rfl⟩
set_option maxRecDepth 20000 in
theorem kX7_221 : Cond.methodLink RX7 221 Lib.Math.min.name ∈ bigW ∧ Cond.static Lib.Math.min.name ∈ bigW ∧ Cond.initialized "java/lang/Math" ∈ bigW ∧ Cond.code Lib.Math.min.name Lib.Math.min.code 2 (some .int) ∈ bigW := ⟨bigI 711 (by decide +kernel) rfl, bigI 560 (by decide +kernel) rfl, bigI 52 (by decide +kernel) rfl, bigI 561 rfl rfl⟩
set_option maxRecDepth 20000 in
theorem kX7_278 : Cond.methodLink RX7 278 Lib.Math.max.name ∈ bigW ∧ Cond.static Lib.Math.max.name ∈ bigW ∧ Cond.initialized "java/lang/Math" ∈ bigW ∧ Cond.code Lib.Math.max.name Lib.Math.max.code 2 (some .int) ∈ bigW := ⟨bigI 761 (by decide +kernel) rfl, bigI 141 (by decide +kernel) rfl, bigI 52 (by decide +kernel) rfl, bigI 142 rfl rfl⟩
theorem dM_floorMod_0 : decode cM_floorMod 0 = .ok (.iload_n 0, 1) := by decide +kernel
theorem dM_floorMod_1 : decode cM_floorMod 1 = .ok (.iload_n 1, 1) := by decide +kernel
theorem dM_floorMod_2 : decode cM_floorMod 2 = .ok (.irem, 1) := by decide +kernel
theorem dM_floorMod_3 : decode cM_floorMod 3 = .ok (.istore_n 2, 1) := by decide +kernel
theorem dM_floorMod_4 : decode cM_floorMod 4 = .ok (.iload_n 0, 1) := by decide +kernel
theorem dM_floorMod_5 : decode cM_floorMod 5 = .ok (.iload_n 1, 1) := by decide +kernel
theorem dM_floorMod_6 : decode cM_floorMod 6 = .ok (.ixor, 1) := by decide +kernel
theorem dM_floorMod_7 : decode cM_floorMod 7 = .ok (.ifCond .ge 11, 3) := by decide +kernel
theorem dM_floorMod_10 : decode cM_floorMod 10 = .ok (.iload_n 2, 1) := by decide +kernel
theorem dM_floorMod_11 : decode cM_floorMod 11 = .ok (.ifCond .eq 7, 3) := by decide +kernel
theorem dM_floorMod_14 : decode cM_floorMod 14 = .ok (.iload_n 2, 1) := by decide +kernel
theorem dM_floorMod_15 : decode cM_floorMod 15 = .ok (.iload_n 1, 1) := by decide +kernel
theorem dM_floorMod_16 : decode cM_floorMod 16 = .ok (.iadd, 1) := by decide +kernel
theorem dM_floorMod_17 : decode cM_floorMod 17 = .ok (.ireturn, 1) := by decide +kernel
theorem dM_floorMod_18 : decode cM_floorMod 18 = .ok (.iload_n 2, 1) := by decide +kernel
theorem dM_floorMod_19 : decode cM_floorMod 19 = .ok (.ireturn, 1) := by decide +kernel
end
section
section MORE
variable {M : MI} {d pc : Nat} {lv : List (Option Value)} {st : List Value} {h : Hp} {Q : Option Value → Hp → Prop}
theorem aw_getI {idx ci k a : Nat} {fs : List (Option Nat)} (hd : decode M.2.1 pc = .ok (.getfield idx, 3)) (hf : FL M.1.cls idx ci k) (ho : lay[a]? = some (oO ci fs)) (hk : fs[k]? = some none) (kk : AW M d (pc + 3) lv (.int (nI (h a k)) :: st) h Q) : AW M d pc lv (.ref a :: st) h Q := aw_getfield hd hf ho hk kk
theorem aw_getR {idx ci k a r : Nat} {fs : List (Option Nat)} (hd : decode M.2.1 pc = .ok (.getfield idx, 3)) (hf : FL M.1.cls idx ci k) (ho : lay[a]? = some (oO ci fs)) (hk : fs[k]? = some (some r)) (kk : AW M d (pc + 3) lv (.ref r :: st) h Q) : AW M d pc lv (.ref a :: st) h Q := aw_getfield hd hf ho hk kk
theorem aw_mmaxN {idx x y : Nat} (hd : decode M.2.1 pc = .ok (.invokestatic idx, 3)) (hk : Cond.methodLink M.1.cls idx Lib.Math.max.name ∈ bigW ∧ Cond.static Lib.Math.max.name ∈ bigW ∧ Cond.initialized "java/lang/Math" ∈ bigW ∧ Cond.code Lib.Math.max.name Lib.Math.max.code 2 (some .int) ∈ bigW) (hx : x < 2 ^ 31) (hy : y < 2 ^ 31) (hz : (st.map fun v => v.category).sum ≤ 8) (kk : AW M (d + 1) (pc + 3) lv (.int (nI (max x y)) :: st) h Q) : AW M (d + 1) pc lv (.int (nI y) :: .int (nI x) :: st) h Q := by
  refine aw_mmax hd hk hz ?_
  have : (if nI x < nI y then nI y else nI x) = nI (max x y) := by
    by_cases q : x < y
    · rw [if_pos ((nI_ltI hx hy).mpr q), Nat.max_eq_right (Nat.le_of_lt q)]
    · rw [if_neg (fun z => q ((nI_ltI hx hy).mp z)), Nat.max_eq_left (Nat.le_of_not_lt q)]
  rw [this]
  exact kk
theorem aw_mminN {idx x y : Nat} (hd : decode M.2.1 pc = .ok (.invokestatic idx, 3)) (hk : Cond.methodLink M.1.cls idx Lib.Math.min.name ∈ bigW ∧ Cond.static Lib.Math.min.name ∈ bigW ∧ Cond.initialized "java/lang/Math" ∈ bigW ∧ Cond.code Lib.Math.min.name Lib.Math.min.code 2 (some .int) ∈ bigW) (hx : x < 2 ^ 31) (hy : y < 2 ^ 31) (hz : (st.map fun v => v.category).sum ≤ 8) (kk : AW M (d + 1) (pc + 3) lv (.int (nI (min x y)) :: st) h Q) : AW M (d + 1) pc lv (.int (nI y) :: .int (nI x) :: st) h Q := by
  refine aw_mmin hd hk hz ?_
  have : (if nI y < nI x then nI y else nI x) = nI (min x y) := by
    by_cases q : y < x
    · rw [if_pos ((nI_ltI hy hx).mpr q), Nat.min_eq_right (Nat.le_of_lt q)]
    · rw [if_neg (fun z => q ((nI_ltI hy hx).mp z)), Nat.min_eq_left (Nat.le_of_not_lt q)]
  first | (rw [this]; exact kk) | (have this2 : (if nI x < nI y then nI x else nI y) = nI (min x y) := by
                                     by_cases q : x < y
                                     · rw [if_pos ((nI_ltI hx hy).mpr q), Nat.min_eq_left (Nat.le_of_lt q)]
                                     · rw [if_neg (fun z => q ((nI_ltI hx hy).mp z)), Nat.min_eq_right (Nat.le_of_not_lt q)]
                                   rw [this2]; exact kk)
/-- the same machine, another way to say what is left -/
theorem aw_imp {Q' : Option Value → Hp → Prop} (hq : ∀ v h', Q' v h' → Q v h') (kk : AW M d pc lv st h Q') : AW M d pc lv st h Q := by
  intro p l e s m args below meth c G H locs ls hc hwd hl T hT X
  obtain ⟨t, a1, o, b1, b2, ⟨v, h', c1, c2, c3⟩, b4⟩ := kk p l e s m args below meth c G H locs ls hc hwd hl T hT X
  exact ⟨t, a1, o, b1, b2, ⟨v, h', c1, hq v h' c2, c3⟩, b4⟩
theorem RT.imp {as : List Value} {Q' : Option Value → Hp → Prop} (kk : RT M d as h Q') (hq : ∀ v h', Q' v h' → Q v h') : RT M d as h Q := aw_imp hq kk
end MORE
/-- a callee whose answer and world are told outright -/
theorem aw_callSF {M M' : MI} {d pc idx n : Nat} {as st0 st : List Value} {h H' : Hp} {V : Option Value} {Q : Option Value → Hp → Prop} {lv : List (Option Value)} (hd : decode M.2.1 pc = .ok (.invokestatic idx, 3)) (hk : KS M.1.cls idx M' n) (hR : RT M' d as h (fun v h' => v = V ∧ h' = H'))
    (hst : st0 = as.reverse ++ st) (hn : as.length = n) (hcat0 : (as.all fun w => decide (w.category = 1)) = true) (hlen : as.length ≤ M'.2.2.1) (hz : (st.map fun v => v.category).sum ≤ 8)
    (kk : AW M (d + 1) (pc + 3) lv (V.toList ++ st) H' Q) : AW M (d + 1) pc lv st0 h Q :=
  aw_callS hd hk hR hst hn hcat0 hlen hz (fun v h' e => by rw [e.1, e.2]; exact kk)
theorem aw_callVF {M M' : MI} {d pc idx ci n b : Nat} {as st0 st : List Value} {h H' : Hp} {V : Option Value} {Q : Option Value → Hp → Prop} {lv : List (Option Value)} {fs : List (Option Nat)} (hd : decode M.2.1 pc = .ok (.invokevirtual idx, 3)) (hk : KV M.1.cls idx M' ci n) (hR : RT M' d (.ref b :: as) h (fun v h' => v = V ∧ h' = H')) (ho : lay[b]? = some (oO ci fs))
    (hst : st0 = as.reverse ++ .ref b :: st) (hn : as.length = n) (hcat0 : (as.all fun w => decide (w.category = 1)) = true) (hlen : as.length + 1 ≤ M'.2.2.1) (hz : (st.map fun v => v.category).sum ≤ 8)
    (kk : AW M (d + 1) (pc + 3) lv (V.toList ++ st) H' Q) : AW M (d + 1) pc lv st0 h Q :=
  aw_callV hd hk hR ho hst hn hcat0 hlen hz (fun v h' e => by rw [e.1, e.2]; exact kk)
/-- a local that is read no more -/
theorem aw_forget {M : MI} {d pc : Nat} {lv : List (Option Value)} {st : List Value} {h : Hp} {Q : Option Value → Hp → Prop} (i : Nat) (kk : AW M d pc (lv.set i none) st h Q) : AW M d pc lv st h Q := by
  intro p l e s m args below meth c G H locs ls hc hwd hl
  refine kk p l e s m args below meth c G H locs ls hc hwd ⟨by rw [List.length_set]; exact hl.1, hl.2.1, hl.2.2.1, ?_⟩
  rintro ⟨j, w⟩ hq
  obtain ⟨x, hx, rfl⟩ := prs_mem.mp hq
  rw [List.getElem?_set] at hx
  by_cases hj : i = j
  · rw [if_pos hj] at hx
    split at hx <;> cases hx
  · rw [if_neg hj] at hx
    exact hl.at hx
end
section
/-! the static helpers of the class: at, put, copyRow, within, wrapped, floorMod -/
theorem c_at {d a n i : Nat} {h : Hp} (ho : lay[a]? = some (oI n)) (hi : i < n) (hn : n < 2 ^ 31) : RT mX7_at d [.ref a, .int (nI i)] h (fun v h' => v = some (.int (nI (h a i))) ∧ h' = h) := by
  change AW mX7_at _ 0 [some (.ref a), some (.int (nI i))] [] h _
  refine aw_iload_n dX7_at_0 rfl rfl ?_
  refine aw_if_ltN (tgt := 16) dX7_at_1 (by decide) (by omega) (fun q => absurd q (by omega)) (fun _ => ?_)
  refine aw_iload_n dX7_at_4 rfl rfl ?_
  refine aw_aload_n dX7_at_5 rfl rfl ?_
  refine aw_alen dX7_at_6 (by first | assumption | rfl) ?_
  refine aw_icmp_geN (tgt := 16) dX7_at_7 (by decide) (by omega) (by omega) (fun q => absurd q (by omega)) (fun _ => ?_)
  refine aw_aload_n dX7_at_10 rfl rfl ?_
  refine aw_iload_n dX7_at_11 rfl rfl ?_
  refine aw_iaload dX7_at_12 (by first | assumption | rfl) (by omega) (by omega) ?_
  refine aw_goto (tgt := 17) dX7_at_13 (by decide) ?_
  refine aw_iret dX7_at_17 rfl (by first | rfl | exact (pk_charN (by omega)).1 | decide) ?_
  exact ⟨rfl, rfl⟩
theorem c_put {d a n i x : Nat} {h : Hp} (ho : lay[a]? = some (oI n)) (hi : i < n) (hn : n < 2 ^ 31) : RT mX7_put d [.ref a, .int (nI i), .int (nI x)] h (fun v h' => v = none ∧ h' = hw h a i x) := by
  change AW mX7_put _ 0 [some (.ref a), some (.int (nI i)), some (.int (nI x))] [] h _
  refine aw_iload_n dX7_put_0 rfl rfl ?_
  refine aw_if_ltN (tgt := 14) dX7_put_1 (by decide) (by omega) (fun q => absurd q (by omega)) (fun _ => ?_)
  refine aw_iload_n dX7_put_4 rfl rfl ?_
  refine aw_aload_n dX7_put_5 rfl rfl ?_
  refine aw_alen dX7_put_6 (by first | assumption | rfl) ?_
  refine aw_icmp_geN (tgt := 14) dX7_put_7 (by decide) (by omega) (by omega) (fun q => absurd q (by omega)) (fun _ => ?_)
  refine aw_aload_n dX7_put_10 rfl rfl ?_
  refine aw_iload_n dX7_put_11 rfl rfl ?_
  refine aw_iload_n dX7_put_12 rfl rfl ?_
  refine aw_iastore dX7_put_13 (by first | assumption | rfl) (by omega) (by omega) ?_
  refine aw_vret dX7_put_14 rfl ?_
  exact ⟨rfl, rfl⟩
/-- the first n places of row b become those of row a -/
def hcp (h : Hp) (a b n : Nat) : Hp := fun o j => if o = b ∧ j < n then h a j else h o j
theorem hcp_succ {h : Hp} {a b k : Nat} (hab : a ≠ b) : hw (hcp h a b k) b k (h a k) = hcp h a b (k + 1) := by
  funext o j
  unfold hw hcp
  by_cases ho : o = b
  · subst ho
    by_cases hj : j = k
    · subst hj; simp
    · have e : (j < k + 1) = (j < k) := by apply propext; omega
      simp [hj, e]
  · simp [ho]
theorem c_copyRow {d a b n : Nat} {h : Hp} (ha : lay[a]? = some (oI n)) (hb : lay[b]? = some (oI n)) (hab : a ≠ b) (hn : n < 2 ^ 31) : RT mX7_copyRow d [.ref a, .ref b] h (fun v h' => v = none ∧ h' = hcp h a b n) := by
  change AW mX7_copyRow _ 0 [some (.ref a), some (.ref b), none] [] h _
  refine aw_iconst (v := nI 0) dX7_copyRow_0 (by decide) ?_
  refine aw_istore_n dX7_copyRow_1 rfl (Nat.le_of_ble_eq_true rfl) rfl ?_
  dsimp only [List.set]
  have loop : ∀ f k, k ≤ n → n < k + f → AW mX7_copyRow d 2 [some (.ref a), some (.ref b), some (.int (nI k))] [] (hcp h a b k) (fun v h' => v = none ∧ h' = hcp h a b n) := by
    intro f
    induction f with
    | zero => intro k h1 h2; omega
    | succ f ih =>
      intro k h1 h2
      refine aw_iload_n dX7_copyRow_2 rfl rfl ?_
      refine aw_aload_n dX7_copyRow_3 rfl rfl ?_
      refine aw_alen dX7_copyRow_4 (by first | assumption | rfl) ?_
      refine aw_icmp_geN (tgt := 26) dX7_copyRow_5 (by decide) (by omega) (by omega) (fun c5 => ?_) (fun c5 => ?_)
      · have e : k = n := by omega
        subst e
        refine aw_vret dX7_copyRow_26 rfl ?_
        exact ⟨rfl, rfl⟩
      · refine aw_iload_n dX7_copyRow_8 rfl rfl ?_
        refine aw_aload_n dX7_copyRow_9 rfl rfl ?_
        refine aw_alen dX7_copyRow_10 (by first | assumption | rfl) ?_
        refine aw_icmp_geN (tgt := 26) dX7_copyRow_11 (by decide) (by omega) (by omega) (fun q => absurd q (by omega)) (fun _ => ?_)
        refine aw_aload_n dX7_copyRow_14 rfl rfl ?_
        refine aw_iload_n dX7_copyRow_15 rfl rfl ?_
        refine aw_aload_n dX7_copyRow_16 rfl rfl ?_
        refine aw_iload_n dX7_copyRow_17 rfl rfl ?_
        refine aw_iaload dX7_copyRow_18 (by first | assumption | rfl) (by omega) (by omega) ?_
        refine aw_iastore dX7_copyRow_19 (by first | assumption | rfl) (by omega) (by omega) ?_
        refine aw_iincN (v := 1) dX7_copyRow_20 rfl rfl ?_
        dsimp only [List.set]
        refine aw_goto (tgt := 2) dX7_copyRow_23 (by decide) ?_
        have e : hcp h a b k a k = h a k := by simp [hcp, hab]
        rw [e, hcp_succ hab]
        exact ih (k + 1) (by omega) (by omega)
  have e : h = hcp h a b 0 := by funext o j; simp [hcp]
  have r := loop (n + 1) 0 (Nat.zero_le _) (by omega)
  rw [← e] at r
  exact r
theorem c_within {d : Nat} {x a b : Int32} {h : Hp} : RT mX7_within d [.int x, .int a, .int b] h (fun v h' => v = some (.int (nI (if a ≤ x ∧ x ≤ b then 1 else 0))) ∧ h' = h) := by
  change AW mX7_within _ 0 [some (.int x), some (.int a), some (.int b)] [] h _
  refine aw_iload_n dX7_within_0 rfl rfl ?_
  refine aw_iload_n dX7_within_1 rfl rfl ?_
  refine aw_icmp_lt (tgt := 14) dX7_within_2 (by decide) (fun c2 => ?_) (fun c2 => ?_)
  · refine aw_iconst (v := nI 0) dX7_within_14 (by decide) ?_
    refine aw_iret dX7_within_15 rfl (by first | rfl | exact (pk_charN (by omega)).1 | decide) ?_
    rw [if_neg (fun q => by
      have h1 := q.1
      have h2 := c2
      rw [Int32.le_iff_toInt_le] at h1
      rw [Int32.lt_iff_toInt_lt] at h2
      omega)]
    exact ⟨rfl, rfl⟩
  · refine aw_iload_n dX7_within_5 rfl rfl ?_
    refine aw_iload_n dX7_within_6 rfl rfl ?_
    refine aw_icmp_gt (tgt := 14) dX7_within_7 (by decide) (fun c7 => ?_) (fun c7 => ?_)
    · refine aw_iconst (v := nI 0) dX7_within_14 (by decide) ?_
      refine aw_iret dX7_within_15 rfl (by first | rfl | exact (pk_charN (by omega)).1 | decide) ?_
      rw [if_neg (fun q => by
        have h1 := q.2
        have h2 := c7
        rw [Int32.le_iff_toInt_le] at h1
        rw [Int32.lt_iff_toInt_lt] at h2
        omega)]
      exact ⟨rfl, rfl⟩
    · refine aw_iconst (v := nI 1) dX7_within_10 (by decide) ?_
      refine aw_goto (tgt := 15) dX7_within_11 (by decide) ?_
      refine aw_iret dX7_within_15 rfl (by first | rfl | exact (pk_charN (by omega)).1 | decide) ?_
      rw [if_pos ⟨by
        rw [Int32.le_iff_toInt_le]
        rw [Int32.lt_iff_toInt_lt] at c2
        omega, by
        rw [Int32.le_iff_toInt_le]
        rw [Int32.lt_iff_toInt_lt] at c7
        omega⟩]
      exact ⟨rfl, rfl⟩
theorem c_withinT {d : Nat} {x a b : Int32} {h : Hp} (q : a ≤ x ∧ x ≤ b) : RT mX7_within d [.int x, .int a, .int b] h (fun v h' => v = some (.int (nI 1)) ∧ h' = h) := c_within.imp (fun v h' e => by rw [if_pos q] at e; exact e)
theorem c_withinF {d : Nat} {x a b : Int32} {h : Hp} (q : ¬ (a ≤ x ∧ x ≤ b)) : RT mX7_within d [.int x, .int a, .int b] h (fun v h' => v = some (.int (nI 0)) ∧ h' = h) := c_within.imp (fun v h' e => by rw [if_neg q] at e; exact e)
/-- a number within its bounds, as a Nat or not at all -/
theorem wi_T {j a b : Nat} (h1 : a ≤ j) (h2 : j ≤ b) (hb : b < 2 ^ 31) : nI a ≤ nI j ∧ nI j ≤ nI b := ⟨nI_le h1 (by omega), nI_le h2 hb⟩
theorem wi_F {x : Int32} {a b : Nat} (ha : a < 2 ^ 31) (hb : b + 1 < 2 ^ 31) (h : ∀ j, a ≤ j → j ≤ b → x ≠ nI j) : ¬ (nI a ≤ x ∧ x ≤ nI b) := by
  rintro ⟨h1, h2⟩
  rw [Int32.le_iff_toInt_le, nI_toInt ha] at h1
  rw [Int32.le_iff_toInt_le, nI_toInt (by omega)] at h2
  rcases pk_ix x (n := b + 1) hb with h3 | h3 | ⟨j, hj, rfl⟩
  · rw [Int32.lt_iff_toInt_lt] at h3
    have : (0 : Int32).toInt = 0 := rfl
    omega
  · rw [Int32.le_iff_toInt_le, nI_toInt hb] at h3
    omega
  · rw [nI_toInt (by omega)] at h1
    exact h j (by omega) (by omega) rfl
theorem xor_neg {x y : Int32} (hy : ¬ y < 0) : x ^^^ y < 0 ↔ x < 0 := by
  have key : ∀ z : Int32, z < 0 ↔ z.toBitVec.msb = true := fun z => by
    rw [Int32.lt_iff_toBitVec_slt, BitVec.msb_eq_toInt]
    simp [BitVec.slt]
  rw [key, key, Int32.toBitVec_xor, BitVec.msb_xor]
  have h1 : y.toBitVec.msb = false := by
    cases hq : y.toBitVec.msb
    · rfl
    · exact absurd ((key y).mpr hq) hy
  rw [h1]
  simp
theorem zz_rem_toInt {x : Int32} {m : Nat} (hm : 0 < m) (hm2 : m < 2 ^ 30) : (x - x / nI m * nI m).toInt = x.toInt.tmod m := by
  rw [rem_toInt, nI_toInt (by omega)]
theorem c_floorMod {d m : Nat} {x : Int32} {h : Hp} (hm : 0 < m) (hm2 : m < 2 ^ 30) : RT mM_floorMod d [.int x, .int (nI m)] h (fun v h' => v = some (.int (nI (x.toInt % (m : Int)).toNat)) ∧ h' = h) := by
  have hx1 := x.toInt_lt
  have hx2 := x.le_toInt
  have hr : (x - x / nI m * nI m).toInt = x.toInt.tmod m := zz_rem_toInt hm hm2
  have hmi : (0 : Int) < m := by omega
  have hy : ¬ nI m < 0 := nI_pos (by omega)
  have e0 := Int.emod_nonneg x.toInt (show (m : Int) ≠ 0 by omega)
  have e1 := Int.emod_lt_of_pos x.toInt hmi
  change AW mM_floorMod _ 0 [some (.int x), some (.int (nI m)), none] [] h _
  refine aw_iload_n dM_floorMod_0 rfl rfl ?_
  refine aw_iload_n dM_floorMod_1 rfl rfl ?_
  refine aw_irem dM_floorMod_2 (nI_ne0 hm (by omega)) ?_
  generalize hg : x - x / nI m * nI m = r at hr
  refine aw_istore_n dM_floorMod_3 rfl (Nat.le_of_ble_eq_true rfl) rfl ?_
  dsimp only [List.set]
  refine aw_iload_n dM_floorMod_4 rfl rfl ?_
  refine aw_iload_n dM_floorMod_5 rfl rfl ?_
  refine aw_ixor dM_floorMod_6 ?_
  refine aw_if_ge (tgt := 18) dM_floorMod_7 (by decide) (fun c7 => ?_) (fun c7 => ?_)
  · have h1 : ¬ x < 0 := fun q => by
      have h2 := (xor_neg hy).mpr q
      rw [Int32.lt_iff_toInt_lt] at h2
      rw [Int32.le_iff_toInt_le] at c7
      omega
    have h3 : 0 ≤ x.toInt := by
      have h4 := h1
      rw [Int32.lt_iff_toInt_lt] at h4
      have : (0 : Int32).toInt = 0 := rfl
      omega
    refine aw_iload_n dM_floorMod_18 rfl rfl ?_
    refine aw_iret dM_floorMod_19 rfl (by first | rfl | exact (pk_charN (by omega)).1 | decide) ?_
    refine ⟨?_, rfl⟩
    congr 2
    apply Int32.toInt_inj.mp
    rw [hr, Int.tmod_eq_emod_of_nonneg h3, nI_toInt (by omega)]
    omega
  · have h1 : x < 0 := by
      refine (xor_neg hy).mp ?_
      rw [Int32.lt_iff_toInt_lt]
      rw [Int32.le_iff_toInt_le] at c7
      omega
    have h3 : x.toInt < 0 := by
      rw [Int32.lt_iff_toInt_lt] at h1
      exact h1
    refine aw_iload_n dM_floorMod_10 rfl rfl ?_
    refine aw_if_eq (tgt := 18) dM_floorMod_11 (by decide) (fun c11 => ?_) (fun c11 => ?_)
    · refine aw_iload_n dM_floorMod_18 rfl rfl ?_
      refine aw_iret dM_floorMod_19 rfl (by first | rfl | exact (pk_charN (by omega)).1 | decide) ?_
      refine ⟨?_, rfl⟩
      congr 2
      rw [c11] at hr ⊢
      have h4 : x.toInt.tmod m = 0 := hr.symm
      have h5 : (m : Int) ∣ x.toInt := Int.dvd_of_tmod_eq_zero h4
      rw [Int.emod_eq_zero_of_dvd h5]
      rfl
    · refine aw_iload_n dM_floorMod_14 rfl rfl ?_
      refine aw_iload_n dM_floorMod_15 rfl rfl ?_
      refine aw_iadd dM_floorMod_16 ?_
      refine aw_iret dM_floorMod_17 rfl rfl ?_
      refine ⟨?_, rfl⟩
      congr 2
      have h4 : ¬ x.toInt.tmod m = 0 := fun q => c11 (by
        apply Int32.toInt_inj.mp
        rw [hr, q]; rfl)
      have h5 : x.toInt % m = x.toInt.tmod m + m := by
        have h6 := Int.tmod_eq_emod (a := x.toInt) (b := (m : Int))
        have h7 : ¬ (0 ≤ x.toInt ∨ (m : Int) ∣ x.toInt) := by
          rintro (q | q)
          · omega
          · exact h4 (Int.tmod_eq_zero_of_dvd q)
        rw [if_neg h7] at h6
        have : ((m : Int).natAbs : Int) = m := by omega
        omega
      have h8 : r = nI m - nI (m - (x.toInt % m).toNat) - nI m := by
        apply Int32.toInt_inj.mp
        have h9 : (m - (x.toInt % m).toNat) ≤ m := by omega
        rw [pk_sub h9, pk_sub_toInt (by omega) (by omega), hr]
        omega
      rw [h8, Int32.sub_add_cancel, pk_sub (by omega)]
      congr 1
      omega
theorem c_wrapped {d m : Nat} {x : Int32} {h : Hp} (hm : 0 < m) (hm2 : m < 2 ^ 30) : RT mX7_wrapped (d + 1) [.int x, .int (nI m)] h (fun v h' => v = some (.int (nI (x.toInt % (m : Int)).toNat)) ∧ h' = h) := by
  change AW mX7_wrapped _ 0 [some (.int x), some (.int (nI m))] [] h _
  refine aw_iload_n dX7_wrapped_0 rfl rfl ?_
  refine aw_if_gtN (tgt := 8) dX7_wrapped_1 (by decide) (by omega) (fun _ => ?_) (fun q => absurd q (by omega))
  refine aw_iload_n dX7_wrapped_8 rfl rfl ?_
  refine aw_iload_n dX7_wrapped_9 rfl rfl ?_
  refine aw_callSF dX7_wrapped_10 kX7_275 (c_floorMod hm hm2) rfl rfl rfl (Nat.le_of_ble_eq_true rfl) (Nat.le_of_ble_eq_true rfl) ?_
  dsimp only [Option.toList, List.cons_append, List.nil_append, Nat.reduceAdd]
  refine aw_iret dX7_wrapped_13 rfl (by first | rfl | exact (pk_charN (by omega)).1 | decide) ?_
  exact ⟨rfl, rfl⟩
end
section
/-! Standing: object o, rooms o + 1, birthdays o + 2 -/
def SD (o : Nat) : Prop := lay[o]? = some (oO 4 [some (o + 1), some (o + 2), none]) ∧ lay[o + 1]? = some (oI 8) ∧ lay[o + 2]? = some (oI 8)
theorem c_S_day {d o : Nat} {h : Hp} (hs : SD o) : RT mX4_day d [.ref o] h (fun v h' => v = some (.int (nI (h o 2))) ∧ h' = h) := by
  obtain ⟨ho, hr, hb⟩ := hs
  change AW mX4_day _ 0 [some (.ref o)] [] h _
  refine aw_aload_n dX4_day_0 rfl rfl ?_
  refine aw_getI dX4_day_1 fX4_18 (by first | assumption | rfl) (by rfl) ?_
  refine aw_iret dX4_day_4 rfl (by first | rfl | exact (pk_charN (by omega)).1 | decide) ?_
  exact ⟨rfl, rfl⟩
theorem c_S_addDays {d o n : Nat} {h : Hp} (hs : SD o) : RT mX4_addDays d [.ref o, .int (nI n)] h (fun v h' => v = none ∧ h' = hw h o 2 (h o 2 + n)) := by
  obtain ⟨ho, hr, hb⟩ := hs
  change AW mX4_addDays _ 0 [some (.ref o), some (.int (nI n))] [] h _
  refine aw_aload_n dX4_addDays_0 rfl rfl ?_
  refine aw_dup dX4_addDays_1 rfl ?_
  refine aw_getI dX4_addDays_2 fX4_18 (by first | assumption | rfl) (by rfl) ?_
  refine aw_iload_n dX4_addDays_5 rfl rfl ?_
  refine aw_iaddN dX4_addDays_6 ?_
  refine aw_putfield dX4_addDays_7 gX4_18 (by first | assumption | rfl) (by rfl) ?_
  refine aw_vret dX4_addDays_10 rfl ?_
  exact ⟨rfl, rfl⟩
theorem c_S_roomOf {d o i : Nat} {h : Hp} (hs : SD o) (hi : i < 8) : RT mX4_roomOf d [.ref o, .int (nI i)] h (fun v h' => v = some (.int (nI (h (o + 1) i))) ∧ h' = h) := by
  obtain ⟨ho, hr, hb⟩ := hs
  change AW mX4_roomOf _ 0 [some (.ref o), some (.int (nI i))] [] h _
  refine aw_iload_n dX4_roomOf_0 rfl rfl ?_
  refine aw_if_ltN (tgt := 22) dX4_roomOf_1 (by decide) (by omega) (fun q => absurd q (by omega)) (fun _ => ?_)
  refine aw_iload_n dX4_roomOf_4 rfl rfl ?_
  refine aw_aload_n dX4_roomOf_5 rfl rfl ?_
  refine aw_getR dX4_roomOf_6 fX4_9 (by first | assumption | rfl) (by rfl) ?_
  refine aw_alen dX4_roomOf_9 (by first | assumption | rfl) ?_
  refine aw_icmp_geN (tgt := 22) dX4_roomOf_10 (by decide) (by omega) (by omega) (fun q => absurd q (by omega)) (fun _ => ?_)
  refine aw_aload_n dX4_roomOf_13 rfl rfl ?_
  refine aw_getR dX4_roomOf_14 fX4_9 (by first | assumption | rfl) (by rfl) ?_
  refine aw_iload_n dX4_roomOf_17 rfl rfl ?_
  refine aw_iaload dX4_roomOf_18 (by first | assumption | rfl) (by omega) (by omega) ?_
  refine aw_goto (tgt := 23) dX4_roomOf_19 (by decide) ?_
  refine aw_iret dX4_roomOf_23 rfl (by first | rfl | exact (pk_charN (by omega)).1 | decide) ?_
  exact ⟨rfl, rfl⟩
theorem c_S_birthdayOf {d o i : Nat} {h : Hp} (hs : SD o) (hi : i < 8) : RT mX4_birthdayOf (d + 1) [.ref o, .int (nI i)] h (fun v h' => v = some (.int (nI (h (o + 2) i))) ∧ h' = h) := by
  obtain ⟨ho, hr, hb⟩ := hs
  change AW mX4_birthdayOf _ 0 [some (.ref o), some (.int (nI i))] [] h _
  refine aw_aload_n dX4_birthdayOf_0 rfl rfl ?_
  refine aw_getR dX4_birthdayOf_1 fX4_15 (by first | assumption | rfl) (by rfl) ?_
  refine aw_iload_n dX4_birthdayOf_4 rfl rfl ?_
  refine aw_callSF dX4_birthdayOf_5 kX4_36 (c_at (by first | assumption | rfl) (by omega) (by decide)) rfl rfl rfl (Nat.le_of_ble_eq_true rfl) (Nat.le_of_ble_eq_true rfl) ?_
  dsimp only [Option.toList, List.cons_append, List.nil_append, Nat.reduceAdd]
  refine aw_iret dX4_birthdayOf_8 rfl (by first | rfl | exact (pk_charN (by omega)).1 | decide) ?_
  exact ⟨rfl, rfl⟩
theorem c_S_setBirthday {d o i x : Nat} {h : Hp} (hs : SD o) (hi : i < 8) : RT mX4_setBirthday (d + 1) [.ref o, .int (nI i), .int (nI x)] h (fun v h' => v = none ∧ h' = hw h (o + 2) i x) := by
  obtain ⟨ho, hr, hb⟩ := hs
  change AW mX4_setBirthday _ 0 [some (.ref o), some (.int (nI i)), some (.int (nI x))] [] h _
  refine aw_aload_n dX4_setBirthday_0 rfl rfl ?_
  refine aw_getR dX4_setBirthday_1 fX4_15 (by first | assumption | rfl) (by rfl) ?_
  refine aw_iload_n dX4_setBirthday_4 rfl rfl ?_
  refine aw_iload_n dX4_setBirthday_5 rfl rfl ?_
  refine aw_callSF dX4_setBirthday_6 kX4_22 (c_put (by first | assumption | rfl) (by omega) (by decide)) rfl rfl rfl (Nat.le_of_ble_eq_true rfl) (Nat.le_of_ble_eq_true rfl) ?_
  dsimp only [Option.toList, List.cons_append, List.nil_append, Nat.reduceAdd]
  refine aw_vret dX4_setBirthday_9 rfl ?_
  exact ⟨rfl, rfl⟩
/-- two places of a row change their values -/
def hx2 (h : Hp) (a i j : Nat) : Hp := hw (hw h a i (h a j)) a j (h a i)
theorem c_S_exchange {d o i j : Nat} {h : Hp} (hs : SD o) (hi : i < 8) (hj : j < 8) : RT mX4_exchange (d + 1) [.ref o, .int (nI i), .int (nI j)] h (fun v h' => v = none ∧ h' = hx2 h (o + 1) i j) := by
  obtain ⟨ho, hr, hb⟩ := hs
  change AW mX4_exchange _ 0 [some (.ref o), some (.int (nI i)), some (.int (nI j)), none] [] h _
  refine aw_aload_n dX4_exchange_0 rfl rfl ?_
  refine aw_getR dX4_exchange_1 fX4_9 (by first | assumption | rfl) (by rfl) ?_
  refine aw_iload_n dX4_exchange_4 rfl rfl ?_
  refine aw_callSF dX4_exchange_5 kX4_36 (c_at (by first | assumption | rfl) (by omega) (by decide)) rfl rfl rfl (Nat.le_of_ble_eq_true rfl) (Nat.le_of_ble_eq_true rfl) ?_
  dsimp only [Option.toList, List.cons_append, List.nil_append, Nat.reduceAdd]
  refine aw_istore_n dX4_exchange_8 rfl (Nat.le_of_ble_eq_true rfl) rfl ?_
  dsimp only [List.set]
  refine aw_aload_n dX4_exchange_9 rfl rfl ?_
  refine aw_getR dX4_exchange_10 fX4_9 (by first | assumption | rfl) (by rfl) ?_
  refine aw_iload_n dX4_exchange_13 rfl rfl ?_
  refine aw_aload_n dX4_exchange_14 rfl rfl ?_
  refine aw_getR dX4_exchange_15 fX4_9 (by first | assumption | rfl) (by rfl) ?_
  refine aw_iload_n dX4_exchange_18 rfl rfl ?_
  refine aw_callSF dX4_exchange_19 kX4_36 (c_at (by first | assumption | rfl) (by omega) (by decide)) rfl rfl rfl (Nat.le_of_ble_eq_true rfl) (Nat.le_of_ble_eq_true rfl) ?_
  dsimp only [Option.toList, List.cons_append, List.nil_append, Nat.reduceAdd]
  refine aw_callSF dX4_exchange_22 kX4_22 (c_put (by first | assumption | rfl) (by omega) (by decide)) rfl rfl rfl (Nat.le_of_ble_eq_true rfl) (Nat.le_of_ble_eq_true rfl) ?_
  dsimp only [Option.toList, List.cons_append, List.nil_append, Nat.reduceAdd]
  refine aw_aload_n dX4_exchange_25 rfl rfl ?_
  refine aw_getR dX4_exchange_26 fX4_9 (by first | assumption | rfl) (by rfl) ?_
  refine aw_iload_n dX4_exchange_29 rfl rfl ?_
  refine aw_iload_n dX4_exchange_30 rfl rfl ?_
  refine aw_callSF dX4_exchange_31 kX4_22 (c_put (by first | assumption | rfl) (by omega) (by decide)) rfl rfl rfl (Nat.le_of_ble_eq_true rfl) (Nat.le_of_ble_eq_true rfl) ?_
  dsimp only [Option.toList, List.cons_append, List.nil_append, Nat.reduceAdd]
  refine aw_vret dX4_exchange_34 rfl ?_
  exact ⟨rfl, rfl⟩
/-- whose a room is: the first of n who has it, or -4 -/
def own (f : Nat → Nat) (r : Nat) : Nat → Nat → Nat
  | 0, _ => 4294967292
  | n + 1, k => if f k = r then k else own f r n (k + 1)
theorem c_S_ownerOf {d o r n : Nat} {h : Hp} (hs : SD o) (hn : n ≤ 8) (hr8 : r < 2 ^ 31) (hf : ∀ i, i < n → h (o + 1) i < 2 ^ 31) : RT mX4_ownerOf (d + 1) [.ref o, .int (nI r), .int (nI n)] h (fun v h' => v = some (.int (nI (own (h (o + 1)) r n 0))) ∧ h' = h) := by
  obtain ⟨ho, hr, hb⟩ := hs
  change AW mX4_ownerOf _ 0 [some (.ref o), some (.int (nI r)), some (.int (nI n)), none] [] h _
  refine aw_iconst (v := nI 0) dX4_ownerOf_0 (by decide) ?_
  refine aw_istore_n dX4_ownerOf_1 rfl (Nat.le_of_ble_eq_true rfl) rfl ?_
  dsimp only [List.set]
  have loop : ∀ f k, k + f = n → AW mX4_ownerOf (d + 1) 2 [some (.ref o), some (.int (nI r)), some (.int (nI n)), some (.int (nI k))] [] h (fun v h' => v = some (.int (nI (own (h (o + 1)) r f k))) ∧ h' = h) := by
    intro f
    induction f with
    | zero =>
      intro k hk
      refine aw_iload_n dX4_ownerOf_2 rfl rfl ?_
      refine aw_iload_n dX4_ownerOf_3 rfl rfl ?_
      refine aw_icmp_geN (tgt := 27) dX4_ownerOf_4 (by decide) (by omega) (by omega) (fun _ => ?_) (fun q => absurd q (by omega))
      refine aw_bipush (v := nI 4294967292) dX4_ownerOf_27 (by decide) ?_
      refine aw_iret dX4_ownerOf_29 rfl (by first | rfl | exact (pk_charN (by omega)).1 | decide) ?_
      exact ⟨rfl, rfl⟩
    | succ f ih =>
      intro k hk
      have hb1 := hf k (by omega)
      refine aw_iload_n dX4_ownerOf_2 rfl rfl ?_
      refine aw_iload_n dX4_ownerOf_3 rfl rfl ?_
      refine aw_icmp_geN (tgt := 27) dX4_ownerOf_4 (by decide) (by omega) (by omega) (fun q => absurd q (by omega)) (fun _ => ?_)
      refine aw_aload_n dX4_ownerOf_7 rfl rfl ?_
      refine aw_getR dX4_ownerOf_8 fX4_9 (by first | assumption | rfl) (by rfl) ?_
      refine aw_iload_n dX4_ownerOf_11 rfl rfl ?_
      refine aw_callSF dX4_ownerOf_12 kX4_36 (c_at (by first | assumption | rfl) (by omega) (by decide)) rfl rfl rfl (Nat.le_of_ble_eq_true rfl) (Nat.le_of_ble_eq_true rfl) ?_
      dsimp only [Option.toList, List.cons_append, List.nil_append, Nat.reduceAdd]
      refine aw_iload_n dX4_ownerOf_15 rfl rfl ?_
      refine aw_icmp_neN (tgt := 21) dX4_ownerOf_16 (by decide) (by omega) (by omega) (fun c16 => ?_) (fun c16 => ?_)
      · refine aw_iincN (v := 1) dX4_ownerOf_21 rfl rfl ?_
        dsimp only [List.set]
        refine aw_goto (tgt := 2) dX4_ownerOf_24 (by decide) ?_
        have e : own (h (o + 1)) r (f + 1) k = own (h (o + 1)) r f (k + 1) := by
          rw [own, if_neg (by omega)]
        rw [e]
        exact ih (k + 1) (by omega)
      · refine aw_iload_n dX4_ownerOf_19 rfl rfl ?_
        refine aw_iret dX4_ownerOf_20 rfl (by first | rfl | exact (pk_charN (by omega)).1 | decide) ?_
        have e : own (h (o + 1)) r (f + 1) k = k := by
          rw [own, if_pos (by omega)]
        rw [e]
        exact ⟨rfl, rfl⟩
  exact loop n 0 (by omega)
theorem c_S_hasRoomsOf {d o p n : Nat} {h : Hp} (hs : SD o) (hp : SD p) (hn : n ≤ 8) (hf : ∀ i, i < n → h (o + 1) i < 2 ^ 31 ∧ h (p + 1) i < 2 ^ 31) : RT mX4_hasRoomsOf (d + 1) [.ref o, .ref p, .int (nI n)] h (fun v h' => v = some (.int (nI (if ∀ i, i < n → h (o + 1) i = h (p + 1) i then 1 else 0))) ∧ h' = h) := by
  have ho := hs.1
  have hp1 := hp.1
  change AW mX4_hasRoomsOf _ 0 [some (.ref o), some (.ref p), some (.int (nI n)), none] [] h _
  refine aw_iconst (v := nI 0) dX4_hasRoomsOf_0 (by decide) ?_
  refine aw_istore_n dX4_hasRoomsOf_1 rfl (Nat.le_of_ble_eq_true rfl) rfl ?_
  dsimp only [List.set]
  have loop : ∀ f k, k + f = n → (∀ i, i < k → h (o + 1) i = h (p + 1) i) → AW mX4_hasRoomsOf (d + 1) 2 [some (.ref o), some (.ref p), some (.int (nI n)), some (.int (nI k))] [] h (fun v h' => v = some (.int (nI (if ∀ i, i < n → h (o + 1) i = h (p + 1) i then 1 else 0))) ∧ h' = h) := by
    intro f
    induction f with
    | zero =>
      intro k hk hall
      refine aw_iload_n dX4_hasRoomsOf_2 rfl rfl ?_
      refine aw_iload_n dX4_hasRoomsOf_3 rfl rfl ?_
      refine aw_icmp_geN (tgt := 28) dX4_hasRoomsOf_4 (by decide) (by omega) (by omega) (fun _ => ?_) (fun q => absurd q (by omega))
      refine aw_iconst (v := nI 1) dX4_hasRoomsOf_28 (by decide) ?_
      refine aw_iret dX4_hasRoomsOf_29 rfl (by first | rfl | exact (pk_charN (by omega)).1 | decide) ?_
      have e : k = n := by omega
      subst e
      rw [if_pos hall]
      exact ⟨rfl, rfl⟩
    | succ f ih =>
      intro k hk hall
      have hb1 := hf k (by omega)
      refine aw_iload_n dX4_hasRoomsOf_2 rfl rfl ?_
      refine aw_iload_n dX4_hasRoomsOf_3 rfl rfl ?_
      refine aw_icmp_geN (tgt := 28) dX4_hasRoomsOf_4 (by decide) (by omega) (by omega) (fun q => absurd q (by omega)) (fun _ => ?_)
      refine aw_aload_n dX4_hasRoomsOf_7 rfl rfl ?_
      refine aw_iload_n dX4_hasRoomsOf_8 rfl rfl ?_
      refine aw_callVF dX4_hasRoomsOf_9 kX4_40 (c_S_roomOf (by first | assumption | exact ⟨rfl, rfl, rfl⟩) (by omega)) (by first | assumption | rfl) rfl rfl rfl (Nat.le_of_ble_eq_true rfl) (Nat.le_of_ble_eq_true rfl) ?_
      dsimp only [Option.toList, List.cons_append, List.nil_append, Nat.reduceAdd]
      refine aw_aload_n dX4_hasRoomsOf_12 rfl rfl ?_
      refine aw_iload_n dX4_hasRoomsOf_13 rfl rfl ?_
      refine aw_callVF dX4_hasRoomsOf_14 kX4_40 (c_S_roomOf (by first | assumption | exact ⟨rfl, rfl, rfl⟩) (by omega)) (by first | assumption | rfl) rfl rfl rfl (Nat.le_of_ble_eq_true rfl) (Nat.le_of_ble_eq_true rfl) ?_
      dsimp only [Option.toList, List.cons_append, List.nil_append, Nat.reduceAdd]
      refine aw_icmp_eqN (tgt := 22) dX4_hasRoomsOf_17 (by decide) (by omega) (by omega) (fun c17 => ?_) (fun c17 => ?_)
      · refine aw_iincN (v := 1) dX4_hasRoomsOf_22 rfl rfl ?_
        dsimp only [List.set]
        refine aw_goto (tgt := 2) dX4_hasRoomsOf_25 (by decide) ?_
        exact ih (k + 1) (by omega) (fun i hi => by
          rcases Nat.lt_succ_iff_lt_or_eq.mp hi with q | q
          · exact hall i q
          · subst q; omega)
      · refine aw_iconst (v := nI 0) dX4_hasRoomsOf_20 (by decide) ?_
        refine aw_iret dX4_hasRoomsOf_21 rfl (by first | rfl | exact (pk_charN (by omega)).1 | decide) ?_
        rw [if_neg (fun q => c17 (q k (by omega)))]
        exact ⟨rfl, rfl⟩
  exact loop n 0 (by omega) (fun i hi => by omega)
theorem c_S_daysTo {d o i : Nat} {h : Hp} (hs : SD o) (hi : i < 8) (h1 : h (o + 2) i < 60) (h2 : h o 2 < 2 ^ 30) : RT mX4_daysToBirthdayOf (d + 2) [.ref o, .int (nI i)] h (fun v h' => v = some (.int (nI ((h (o + 2) i + 60 - h o 2 % 60) % 60))) ∧ h' = h) := by
  have ho := hs.1
  change AW mX4_daysToBirthdayOf _ 0 [some (.ref o), some (.int (nI i))] [] h _
  refine aw_aload_n dX4_daysToBirthdayOf_0 rfl rfl ?_
  refine aw_iload_n dX4_daysToBirthdayOf_1 rfl rfl ?_
  refine aw_callVF dX4_daysToBirthdayOf_2 kX4_43 (c_S_birthdayOf (by first | assumption | exact ⟨rfl, rfl, rfl⟩) (by omega)) (by first | assumption | rfl) rfl rfl rfl (Nat.le_of_ble_eq_true rfl) (Nat.le_of_ble_eq_true rfl) ?_
  dsimp only [Option.toList, List.cons_append, List.nil_append, Nat.reduceAdd]
  refine aw_aload_n dX4_daysToBirthdayOf_5 rfl rfl ?_
  refine aw_getI dX4_daysToBirthdayOf_6 fX4_18 (by first | assumption | rfl) (by rfl) ?_
  refine aw_isub dX4_daysToBirthdayOf_9 ?_
  refine aw_bipush (v := nI 60) dX4_daysToBirthdayOf_10 (by decide) ?_
  refine aw_callSF dX4_daysToBirthdayOf_12 kX4_46 (c_floorMod (by omega) (by omega)) rfl rfl rfl (Nat.le_of_ble_eq_true rfl) (Nat.le_of_ble_eq_true rfl) ?_
  dsimp only [Option.toList, List.cons_append, List.nil_append, Nat.reduceAdd]
  refine aw_iret dX4_daysToBirthdayOf_15 rfl (by first | rfl | exact (pk_charN (by omega)).1 | decide) ?_
  refine ⟨?_, rfl⟩
  congr 3
  rw [pk_sub_toInt (by omega) (by omega)]
  omega
/-- standing p copied to o -/
def hcs (h : Hp) (p o : Nat) : Hp := hcp (hcp (hw h o 2 (h p 2)) (p + 1) (o + 1) 8) (p + 2) (o + 2) 8
theorem c_S_copyFrom {d o p : Nat} {h : Hp} (hs : SD o) (hp : SD p) (hne : p + 2 < o ∨ o + 2 < p) : RT mX4_copyFrom (d + 1) [.ref o, .ref p] h (fun v h' => v = none ∧ h' = hcs h p o) := by
  obtain ⟨ho, hr, hb⟩ := hs
  obtain ⟨ho2, hr2, hb2⟩ := hp
  have n1 : p + 1 ≠ o + 1 := by omega
  have n2 : p + 2 ≠ o + 2 := by omega
  change AW mX4_copyFrom _ 0 [some (.ref o), some (.ref p)] [] h _
  refine aw_aload_n dX4_copyFrom_0 rfl rfl ?_
  refine aw_aload_n dX4_copyFrom_1 rfl rfl ?_
  refine aw_getI dX4_copyFrom_2 fX4_18 (by first | assumption | rfl) (by rfl) ?_
  refine aw_putfield dX4_copyFrom_5 gX4_18 (by first | assumption | rfl) (by rfl) ?_
  refine aw_aload_n dX4_copyFrom_8 rfl rfl ?_
  refine aw_getR dX4_copyFrom_9 fX4_9 (by first | assumption | rfl) (by rfl) ?_
  refine aw_aload_n dX4_copyFrom_12 rfl rfl ?_
  refine aw_getR dX4_copyFrom_13 fX4_9 (by first | assumption | rfl) (by rfl) ?_
  refine aw_callSF dX4_copyFrom_16 kX4_32 (c_copyRow (by first | assumption | rfl) (by first | assumption | rfl) (by first | assumption | decide) (by decide)) rfl rfl rfl (Nat.le_of_ble_eq_true rfl) (Nat.le_of_ble_eq_true rfl) ?_
  dsimp only [Option.toList, List.cons_append, List.nil_append, Nat.reduceAdd]
  refine aw_aload_n dX4_copyFrom_19 rfl rfl ?_
  refine aw_getR dX4_copyFrom_20 fX4_15 (by first | assumption | rfl) (by rfl) ?_
  refine aw_aload_n dX4_copyFrom_23 rfl rfl ?_
  refine aw_getR dX4_copyFrom_24 fX4_15 (by first | assumption | rfl) (by rfl) ?_
  refine aw_callSF dX4_copyFrom_27 kX4_32 (c_copyRow (by first | assumption | rfl) (by first | assumption | rfl) (by first | assumption | decide) (by decide)) rfl rfl rfl (Nat.le_of_ble_eq_true rfl) (Nat.le_of_ble_eq_true rfl) ?_
  dsimp only [Option.toList, List.cons_append, List.nil_append, Nat.reduceAdd]
  refine aw_vret dX4_copyFrom_30 rfl ?_
  exact ⟨rfl, rfl⟩
theorem SD8 (o : Nat) (hs : SD o) : True := trivial
end
section
/-! Plan: object 4 (the house), its getters -/
theorem c_P_cousins {d : Nat} {h : Hp} : RT mX1_cousins d [.ref 4] h (fun v h' => v = some (.int (nI (h 4 5))) ∧ h' = h) := by
  change AW mX1_cousins _ 0 [some (.ref 4)] [] h _
  refine aw_aload_n dX1_cousins_0 rfl rfl ?_
  refine aw_getI dX1_cousins_1 fX1_27 (by first | assumption | rfl) (by rfl) ?_
  refine aw_iret dX1_cousins_4 rfl (by first | rfl | exact (pk_charN (by omega)).1 | decide) ?_
  exact ⟨rfl, rfl⟩
theorem c_P_rooms {d : Nat} {h : Hp} : RT mX1_rooms d [.ref 4] h (fun v h' => v = some (.int (nI (h 4 6))) ∧ h' = h) := by
  change AW mX1_rooms _ 0 [some (.ref 4)] [] h _
  refine aw_aload_n dX1_rooms_0 rfl rfl ?_
  refine aw_getI dX1_rooms_1 fX1_31 (by first | assumption | rfl) (by rfl) ?_
  refine aw_iret dX1_rooms_4 rfl (by first | rfl | exact (pk_charN (by omega)).1 | decide) ?_
  exact ⟨rfl, rfl⟩
theorem c_P_kindOf {d i : Nat} {h : Hp} (hi : i < 8) : RT mX1_kindOf (d + 1) [.ref 4, .int (nI i)] h (fun v h' => v = some (.int (nI (h 5 i))) ∧ h' = h) := by
  change AW mX1_kindOf _ 0 [some (.ref 4), some (.int (nI i))] [] h _
  refine aw_aload_n dX1_kindOf_0 rfl rfl ?_
  refine aw_getR dX1_kindOf_1 fX1_9 (by first | assumption | rfl) (by rfl) ?_
  refine aw_iload_n dX1_kindOf_4 rfl rfl ?_
  refine aw_callSF dX1_kindOf_5 kX1_46 (c_at (by first | assumption | rfl) (by omega) (by decide)) rfl rfl rfl (Nat.le_of_ble_eq_true rfl) (Nat.le_of_ble_eq_true rfl) ?_
  dsimp only [Option.toList, List.cons_append, List.nil_append, Nat.reduceAdd]
  refine aw_iret dX1_kindOf_8 rfl (by first | rfl | exact (pk_charN (by omega)).1 | decide) ?_
  exact ⟨rfl, rfl⟩
theorem c_P_birthdayAtFirst {d i : Nat} {h : Hp} (hi : i < 8) : RT mX1_birthdayAtFirst (d + 1) [.ref 4, .int (nI i)] h (fun v h' => v = some (.int (nI (h 6 i))) ∧ h' = h) := by
  change AW mX1_birthdayAtFirst _ 0 [some (.ref 4), some (.int (nI i))] [] h _
  refine aw_aload_n dX1_birthdayAtFirst_0 rfl rfl ?_
  refine aw_getR dX1_birthdayAtFirst_1 fX1_15 (by first | assumption | rfl) (by rfl) ?_
  refine aw_iload_n dX1_birthdayAtFirst_4 rfl rfl ?_
  refine aw_callSF dX1_birthdayAtFirst_5 kX1_46 (c_at (by first | assumption | rfl) (by omega) (by decide)) rfl rfl rfl (Nat.le_of_ble_eq_true rfl) (Nat.le_of_ble_eq_true rfl) ?_
  dsimp only [Option.toList, List.cons_append, List.nil_append, Nat.reduceAdd]
  refine aw_iret dX1_birthdayAtFirst_8 rfl (by first | rfl | exact (pk_charN (by omega)).1 | decide) ?_
  exact ⟨rfl, rfl⟩
theorem c_P_wantOf {d i : Nat} {h : Hp} (hi : i < 8) : RT mX1_wantOf (d + 1) [.ref 4, .int (nI i)] h (fun v h' => v = some (.int (nI (h 7 i))) ∧ h' = h) := by
  change AW mX1_wantOf _ 0 [some (.ref 4), some (.int (nI i))] [] h _
  refine aw_aload_n dX1_wantOf_0 rfl rfl ?_
  refine aw_getR dX1_wantOf_1 fX1_18 (by first | assumption | rfl) (by rfl) ?_
  refine aw_iload_n dX1_wantOf_4 rfl rfl ?_
  refine aw_callSF dX1_wantOf_5 kX1_46 (c_at (by first | assumption | rfl) (by omega) (by decide)) rfl rfl rfl (Nat.le_of_ble_eq_true rfl) (Nat.le_of_ble_eq_true rfl) ?_
  dsimp only [Option.toList, List.cons_append, List.nil_append, Nat.reduceAdd]
  refine aw_iret dX1_wantOf_8 rfl (by first | rfl | exact (pk_charN (by omega)).1 | decide) ?_
  exact ⟨rfl, rfl⟩
theorem c_P_winterSun {d i : Nat} {h : Hp} (hi : i < 8) : RT mX1_winterSun (d + 1) [.ref 4, .int (nI i)] h (fun v h' => v = some (.int (nI (h 8 i))) ∧ h' = h) := by
  change AW mX1_winterSun _ 0 [some (.ref 4), some (.int (nI i))] [] h _
  refine aw_aload_n dX1_winterSun_0 rfl rfl ?_
  refine aw_getR dX1_winterSun_1 fX1_21 (by first | assumption | rfl) (by rfl) ?_
  refine aw_iload_n dX1_winterSun_4 rfl rfl ?_
  refine aw_callSF dX1_winterSun_5 kX1_46 (c_at (by first | assumption | rfl) (by omega) (by decide)) rfl rfl rfl (Nat.le_of_ble_eq_true rfl) (Nat.le_of_ble_eq_true rfl) ?_
  dsimp only [Option.toList, List.cons_append, List.nil_append, Nat.reduceAdd]
  refine aw_iret dX1_winterSun_8 rfl (by first | rfl | exact (pk_charN (by omega)).1 | decide) ?_
  exact ⟨rfl, rfl⟩
theorem c_P_summerSun {d i : Nat} {h : Hp} (hi : i < 8) : RT mX1_summerSun (d + 1) [.ref 4, .int (nI i)] h (fun v h' => v = some (.int (nI (h 9 i))) ∧ h' = h) := by
  change AW mX1_summerSun _ 0 [some (.ref 4), some (.int (nI i))] [] h _
  refine aw_aload_n dX1_summerSun_0 rfl rfl ?_
  refine aw_getR dX1_summerSun_1 fX1_24 (by first | assumption | rfl) (by rfl) ?_
  refine aw_iload_n dX1_summerSun_4 rfl rfl ?_
  refine aw_callSF dX1_summerSun_5 kX1_46 (c_at (by first | assumption | rfl) (by omega) (by decide)) rfl rfl rfl (Nat.le_of_ble_eq_true rfl) (Nat.le_of_ble_eq_true rfl) ?_
  dsimp only [Option.toList, List.cons_append, List.nil_append, Nat.reduceAdd]
  refine aw_iret dX1_summerSun_8 rfl (by first | rfl | exact (pk_charN (by omega)).1 | decide) ?_
  exact ⟨rfl, rfl⟩
theorem c_P_sunsOn {d dd : Nat} {h : Hp} (hd0 : dd < 2 ^ 31) : RT mX1_sunsOn d [.ref 4, .int (nI dd)] h (fun v h' => v = some (.ref (if dd % 60 < 30 then 8 else 9)) ∧ h' = h) := by
  change AW mX1_sunsOn _ 0 [some (.ref 4), some (.int (nI dd))] [] h _
  refine aw_iload_n dX1_sunsOn_0 rfl rfl ?_
  refine aw_bipush (v := nI 60) dX1_sunsOn_1 (by decide) ?_
  refine aw_iremN dX1_sunsOn_3 (by omega) (by omega) (by omega) ?_
  refine aw_bipush (v := nI 30) dX1_sunsOn_4 (by decide) ?_
  refine aw_icmp_geN (tgt := 16) dX1_sunsOn_6 (by decide) (by omega) (by omega) (fun c6 => ?_) (fun c6 => ?_)
  · rw [if_neg (by omega)]
    refine aw_aload_n dX1_sunsOn_16 rfl rfl ?_
    refine aw_getR dX1_sunsOn_17 fX1_24 (by first | assumption | rfl) (by rfl) ?_
    refine aw_aret dX1_sunsOn_20 rfl (by first | exact Or.inl ⟨_, rfl⟩ | exact Or.inr ⟨_, rfl⟩) (by first | exact Or.inr ⟨_, rfl⟩ | exact Or.inl rfl) ?_
    exact ⟨rfl, rfl⟩
  · rw [if_pos (by omega)]
    refine aw_aload_n dX1_sunsOn_9 rfl rfl ?_
    refine aw_getR dX1_sunsOn_10 fX1_21 (by first | assumption | rfl) (by rfl) ?_
    refine aw_goto (tgt := 20) dX1_sunsOn_13 (by decide) ?_
    refine aw_aret dX1_sunsOn_20 rfl (by first | exact Or.inl ⟨_, rfl⟩ | exact Or.inr ⟨_, rfl⟩) (by first | exact Or.inr ⟨_, rfl⟩ | exact Or.inl rfl) ?_
    exact ⟨rfl, rfl⟩
/-! THE HOUSE as mathematics: how many, kinds, wants, winter and summer suns -/
abbrev Hs : Type := Nat × (Nat → Nat) × (Nat → Nat) × (Nat → Nat) × (Nat → Nat)
def sn (S : Hs) : Nat := S.1
def sK (S : Hs) : Nat → Nat := S.2.1
def sW (S : Hs) : Nat → Nat := S.2.2.1
def sA (S : Hs) : Nat → Nat := S.2.2.2.1
def sB (S : Hs) : Nat → Nat := S.2.2.2.2
def sunR (S : Hs) (day r : Nat) : Nat := if day % 60 < 30 then sA S r else sB S r
def swp (f : Nat → Nat) (i j : Nat) : Nat → Nat := fun k => if k = j then f i else if k = i then f j else f k
/-- a house as it can be -/
def HsOk (S : Hs) : Prop := 1 ≤ sn S ∧ sn S ≤ 8 ∧ ∀ i, i < sn S → sK S i ≤ 3 ∧ sW S i ≤ 9 ∧ sA S i ≤ 9 ∧ sB S i ≤ 9
theorem sunR_le {S : Hs} (hS : HsOk S) {day r : Nat} (hr : r < sn S) : sunR S day r ≤ 9 := by
  have := hS.2.2 r hr
  unfold sunR
  split <;> omega
/-- rooms as they can be: each of n has one of n, each is somebody's -/
def PM (n : Nat) (f : Nat → Nat) : Prop := (∀ i, i < n → f i < n) ∧ ∀ r, r < n → ∃ i, i < n ∧ f i = r
theorem PM_swp {n : Nat} {f : Nat → Nat} (hf : PM n f) {i j : Nat} (hi : i < n) (hj : j < n) : PM n (swp f i j) := by
  refine ⟨fun k hk => ?_, fun r hr => ?_⟩
  · unfold swp
    split
    · exact hf.1 i hi
    · split
      · exact hf.1 j hj
      · exact hf.1 k hk
  · obtain ⟨k, hk, e⟩ := hf.2 r hr
    by_cases h1 : k = i
    · subst h1
      exact ⟨j, hj, by unfold swp; rw [if_pos rfl]; exact e⟩
    · by_cases h2 : k = j
      · subst h2
        refine ⟨i, hi, ?_⟩
        unfold swp
        by_cases h3 : i = k
        · exact absurd h3.symm h1
        · rw [if_neg h3, if_pos rfl]; exact e
      · refine ⟨k, hk, ?_⟩
        unfold swp
        rw [if_neg h2, if_neg h1]; exact e
/-- with whom the one at place p of the list changes -/
def nxo (S : Hs) (L : Nat → Nat) (p : Nat) : Nat := L ((p + if sK S (L p) = 2 then 2 else 1) % sn S)
def ch1 (S : Hs) (L : Nat → Nat) (day p : Nat) (f : Nat → Nat) : Nat → Nat :=
  if (sK S (L p) = 1 ∧ day / 60 % 4 ≠ 0) ∨ (sK S (L p) = 3 ∧ sunR S day (f (nxo S L p)) ≤ sunR S day (f (L p))) then f
  else swp f (L p) (nxo S L p)
def chR (S : Hs) (b L : Nat → Nat) (day : Nat) (f : Nat → Nat) : Nat → Nat → Nat
  | 0 => f
  | p + 1 => if b (L p) = day % 60 then ch1 S L day p (chR S b L day f p) else chR S b L day f p
/-- the rooms behind k days from day day0 on -/
def rmF (S : Hs) (b L : Nat → Nat) (day0 : Nat) (f : Nat → Nat) : Nat → Nat → Nat
  | 0 => f
  | k + 1 => chR S b L (day0 + k) (rmF S b L day0 f k) (sn S)
def sunF (S : Hs) (b L : Nat → Nat) (day0 : Nat) (f : Nat → Nat) (i : Nat) : Nat → Nat
  | 0 => 0
  | k + 1 => sunF S b L day0 f i k + sunR S (day0 + k) (rmF S b L day0 f (k + 1) i)
def coldN (S : Hs) (day : Nat) (f : Nat → Nat) : Nat → Nat
  | 0 => 0
  | m + 1 => coldN S day f m + if sunR S day (f m) < sW S m then 1 else 0
def coldF (S : Hs) (b L : Nat → Nat) (day0 : Nat) (f : Nat → Nat) : Nat → Nat
  | 0 => 0
  | k + 1 => coldF S b L day0 f k + coldN S (day0 + k) (rmF S b L day0 f (k + 1)) (sn S)
theorem PM_ch1 {S : Hs} {L : Nat → Nat} {day p : Nat} {f : Nat → Nat} (hS : HsOk S) (hL : ∀ q, q < sn S → L q < sn S) (hp : p < sn S) (hf : PM (sn S) f) : PM (sn S) (ch1 S L day p f) := by
  unfold ch1
  split
  · exact hf
  · exact PM_swp hf (hL p hp) (hL _ (Nat.mod_lt _ (by have := hS.1; omega)))
theorem PM_chR {S : Hs} {b L : Nat → Nat} {day : Nat} {f : Nat → Nat} (hS : HsOk S) (hL : ∀ q, q < sn S → L q < sn S) (hf : PM (sn S) f) : ∀ p, p ≤ sn S → PM (sn S) (chR S b L day f p) := by
  intro p
  induction p with
  | zero => intro _; exact hf
  | succ p ih =>
    intro hp
    unfold chR
    split
    · exact PM_ch1 hS hL (by omega) (ih (by omega))
    · exact ih (by omega)
theorem PM_rmF {S : Hs} {b L : Nat → Nat} {day0 : Nat} {f : Nat → Nat} (hS : HsOk S) (hL : ∀ q, q < sn S → L q < sn S) (hf : PM (sn S) f) : ∀ k, PM (sn S) (rmF S b L day0 f k) := by
  intro k
  induction k with
  | zero => exact hf
  | succ k ih => exact PM_chR hS hL ih (sn S) (Nat.le_refl _)
end
section
/-! Walk: object 60, standing 61 (rooms 62, birthdays 63), list 64, suns 65, colds in 60 at 4 -/
/-- the house in the class's world -/
def HX (h : Hp) (S : Hs) : Prop := h 4 5 = sn S ∧ h 4 6 = sn S ∧ ∀ i, i < sn S → h 5 i = sK S i ∧ h 7 i = sW S i ∧ h 8 i = sA S i ∧ h 9 i = sB S i
/-- the walk: list L, birthdays b, next day dd, rooms f, suns s, colds c -/
def WS (h : Hp) (S : Hs) (b L : Nat → Nat) (dd : Nat) (f s : Nat → Nat) (c : Nat) : Prop :=
  HX h S ∧ h 61 2 = dd ∧ h 60 4 = c ∧ ∀ i, i < sn S → h 62 i = f i ∧ h 63 i = b i ∧ h 64 i = L i ∧ h 65 i = s i
/-- the numbers of a walk are such as can be -/
def WO (S : Hs) (b L : Nat → Nat) : Prop := HsOk S ∧ ∀ i, i < sn S → b i < 60 ∧ L i < sn S
/-- only the walk's objects may have changed -/
def FW6 (h h' : Hp) : Prop := ∀ o, o < 60 ∨ 65 < o → h' o = h o
theorem FW6.trans {h h1 h2 : Hp} (a : FW6 h h1) (b : FW6 h1 h2) : FW6 h h2 := fun o ho => (b o ho).trans (a o ho)
theorem HX.fr {h h' : Hp} {S : Hs} (hh : HX h S) (hf : FW6 h h') : HX h' S := by
  unfold HX
  rw [hf 4 (by omega), hf 5 (by omega), hf 7 (by omega), hf 8 (by omega), hf 9 (by omega)]
  exact hh
theorem hw_ne {h : Hp} {o k x a : Nat} (hne : a ≠ o) : hw h o k x a = h a := by
  funext j
  simp [hw, hne]
theorem hw_at {h : Hp} {o k x j : Nat} : hw h o k x o j = if j = k then x else h o j := by
  simp [hw]
theorem hx2_ne {h : Hp} {o i j a : Nat} (hne : a ≠ o) : hx2 h o i j a = h a := by
  unfold hx2
  rw [hw_ne hne, hw_ne hne]
theorem hx2_at {h : Hp} {o i j k : Nat} : hx2 h o i j o k = swp (h o) i j k := by
  unfold hx2 swp
  rw [hw_at, hw_at]
theorem c_W_sunNow {d i dd c : Nat} {h : Hp} {S : Hs} {b L f s : Nat → Nat} (hws : WS h S b L dd f s c) (hok : WO S b L) (hpm : PM (sn S) f) (hi : i < sn S) (hdd : dd < 2 ^ 30) :
    RT mX6_sunNow (d + 1) [.ref 60, .int (nI i)] h (fun v h' => v = some (.int (nI (sunR S dd (f i)))) ∧ h' = h) := by
  obtain ⟨⟨e1, e2, e3⟩, e4, e5, e6⟩ := hws
  have hi6 := e6 i hi
  have hfi := hpm.1 i hi
  have h38 := hok.1.2.1
  have hr := e3 (f i) hfi
  subst e4
  change AW mX6_sunNow _ 0 [some (.ref 60), some (.int (nI i))] [] h _
  refine aw_aload_n dX6_sunNow_0 rfl rfl ?_
  refine aw_getR dX6_sunNow_1 fX6_25 (by first | assumption | rfl) (by rfl) ?_
  refine aw_aload_n dX6_sunNow_4 rfl rfl ?_
  refine aw_getR dX6_sunNow_5 fX6_12 (by first | assumption | rfl) (by rfl) ?_
  refine aw_callVF dX6_sunNow_8 kX6_93 (c_S_day (by first | assumption | exact ⟨rfl, rfl, rfl⟩)) (by first | assumption | rfl) rfl rfl rfl (Nat.le_of_ble_eq_true rfl) (Nat.le_of_ble_eq_true rfl) ?_
  dsimp only [Option.toList, List.cons_append, List.nil_append, Nat.reduceAdd]
  refine aw_callVF dX6_sunNow_11 kX6_108 (c_P_sunsOn (by omega)) (by first | assumption | rfl) rfl rfl rfl (Nat.le_of_ble_eq_true rfl) (Nat.le_of_ble_eq_true rfl) ?_
  dsimp only [Option.toList, List.cons_append, List.nil_append, Nat.reduceAdd]
  refine aw_aload_n dX6_sunNow_14 rfl rfl ?_
  refine aw_getR dX6_sunNow_15 fX6_12 (by first | assumption | rfl) (by rfl) ?_
  refine aw_iload_n dX6_sunNow_18 rfl rfl ?_
  refine aw_callVF dX6_sunNow_19 kX6_112 (c_S_roomOf (by first | assumption | exact ⟨rfl, rfl, rfl⟩) (by omega)) (by first | assumption | rfl) rfl rfl rfl (Nat.le_of_ble_eq_true rfl) (Nat.le_of_ble_eq_true rfl) ?_
  dsimp only [Option.toList, List.cons_append, List.nil_append, Nat.reduceAdd]
  by_cases hq : h 61 2 % 60 < 30
  · rw [if_pos hq]
    refine aw_callSF dX6_sunNow_22 kX6_43 (c_at (by first | assumption | rfl) (by omega) (by decide)) rfl rfl rfl (Nat.le_of_ble_eq_true rfl) (Nat.le_of_ble_eq_true rfl) ?_
    dsimp only [Option.toList, List.cons_append, List.nil_append, Nat.reduceAdd]
    refine aw_iret dX6_sunNow_25 rfl (by first | rfl | exact (pk_charN (by omega)).1 | decide) ?_
    refine ⟨?_, rfl⟩
    rw [hi6.1, hr.2.2.1]
    unfold sunR
    rw [if_pos hq]
  · rw [if_neg hq]
    refine aw_callSF dX6_sunNow_22 kX6_43 (c_at (by first | assumption | rfl) (by omega) (by decide)) rfl rfl rfl (Nat.le_of_ble_eq_true rfl) (Nat.le_of_ble_eq_true rfl) ?_
    dsimp only [Option.toList, List.cons_append, List.nil_append, Nat.reduceAdd]
    refine aw_iret dX6_sunNow_25 rfl (by first | rfl | exact (pk_charN (by omega)).1 | decide) ?_
    refine ⟨?_, rfl⟩
    rw [hi6.1, hr.2.2.2]
    unfold sunR
    rw [if_neg hq]
theorem c_W_changeRoomOf {d p dd c : Nat} {h : Hp} {S : Hs} {b L f s : Nat → Nat} (hws : WS h S b L dd f s c) (hok : WO S b L) (hpm : PM (sn S) f) (hp : p < sn S) (hdd : dd < 2 ^ 30) :
    RT mX6_changeRoomOf (d + 2) [.ref 60, .int (nI (L p)), .int (nI p)] h (fun v h' => v = none ∧ WS h' S b L dd (ch1 S L dd p f) s c ∧ FW6 h h') := by
  obtain ⟨⟨e1, e2, e3⟩, e4, e5, e6⟩ := id hws
  have h38 := hok.1.2.1
  have h37 := hok.1.1
  have hLp := (hok.2 p hp).2
  have hk := (e3 (L p) hLp).1
  have hk3 := (hok.1.2.2 (L p) hLp).1
  have same : ∀ (hc : (sK S (L p) = 1 ∧ dd / 60 % 4 ≠ 0) ∨ (sK S (L p) = 3 ∧ sunR S dd (f (nxo S L p)) ≤ sunR S dd (f (L p)))), WS h S b L dd (ch1 S L dd p f) s c ∧ FW6 h h := fun hc => by
    unfold ch1
    rw [if_pos hc]
    exact ⟨hws, fun o _ => rfl⟩
  have swap : ∀ (hc : ¬ ((sK S (L p) = 1 ∧ dd / 60 % 4 ≠ 0) ∨ (sK S (L p) = 3 ∧ sunR S dd (f (nxo S L p)) ≤ sunR S dd (f (L p))))), nxo S L p < sn S → WS (hx2 h 62 (L p) (nxo S L p)) S b L dd (ch1 S L dd p f) s c ∧ FW6 h (hx2 h 62 (L p) (nxo S L p)) := fun hc hnx => by
    unfold ch1
    rw [if_neg hc]
    refine ⟨⟨⟨?_, ?_, fun i hi => ?_⟩, ?_, ?_, fun i hi => ?_⟩, fun o ho => hx2_ne (by omega)⟩
    · rw [hx2_ne (by decide)]; exact e1
    · rw [hx2_ne (by decide)]; exact e2
    · rw [hx2_ne (by decide), hx2_ne (by decide), hx2_ne (by decide), hx2_ne (by decide)]; exact e3 i hi
    · rw [hx2_ne (by decide)]; exact e4
    · rw [hx2_ne (by decide)]; exact e5
    · rw [hx2_ne (a := 63) (by decide), hx2_ne (a := 64) (by decide), hx2_ne (a := 65) (by decide)]
      refine ⟨?_, (e6 i hi).2⟩
      rw [hx2_at]
      unfold swp
      rw [(e6 (L p) hLp).1, (e6 _ hnx).1, (e6 i hi).1]
  -- the other one
  have mid : ∀ q, q = p + (if sK S (L p) = 2 then 2 else 1) → AW mX6_changeRoomOf (d + 2) 27 [some (.ref 60), some (.int (nI (L p))), some (.int (nI p)), some (.int (nI (sK S (L p)))), none] [.int (nI q), .ref 64] h (fun v h' => v = none ∧ WS h' S b L dd (ch1 S L dd p f) s c ∧ FW6 h h') := by
    intro q hq
    have hqm : q % sn S < sn S := Nat.mod_lt _ (by omega)
    have hnx : nxo S L p = L (q % sn S) := by unfold nxo; rw [hq]
    have hnx2 : nxo S L p < sn S := by rw [hnx]; exact (hok.2 _ hqm).2
    have hq2 : q < 2 ^ 30 := by rw [hq]; split <;> omega
    have e64 := (e6 _ hqm).2.2.1
    have ew : ((nI q).toInt % (sn S : Int)).toNat = q % sn S := by
      rw [nI_toInt (by omega)]
      omega
    refine aw_aload_n dX6_changeRoomOf_27 rfl rfl ?_
    refine aw_getR dX6_changeRoomOf_28 fX6_25 (by first | assumption | rfl) (by rfl) ?_
    refine aw_callVF dX6_changeRoomOf_31 kX6_47 (c_P_cousins) (by first | assumption | rfl) rfl rfl rfl (Nat.le_of_ble_eq_true rfl) (Nat.le_of_ble_eq_true rfl) ?_
    dsimp only [Option.toList, List.cons_append, List.nil_append, Nat.reduceAdd]
    rw [e1]
    refine aw_callSF dX6_changeRoomOf_34 kX6_102 (c_wrapped (by omega) (by omega)) rfl rfl rfl (Nat.le_of_ble_eq_true rfl) (Nat.le_of_ble_eq_true rfl) ?_
    dsimp only [Option.toList, List.cons_append, List.nil_append, Nat.reduceAdd]
    rw [ew]
    refine aw_callSF dX6_changeRoomOf_37 kX6_43 (c_at (by first | assumption | rfl) (by omega) (by decide)) rfl rfl rfl (Nat.le_of_ble_eq_true rfl) (Nat.le_of_ble_eq_true rfl) ?_
    dsimp only [Option.toList, List.cons_append, List.nil_append, Nat.reduceAdd]
    rw [e64, ← hnx]
    subst e4
    refine aw_istore dX6_changeRoomOf_40 (Nat.le_of_ble_eq_true rfl) rfl ?_
    dsimp only [List.set]
    refine aw_iload_n dX6_changeRoomOf_42 rfl rfl ?_
    refine aw_iconst (v := nI 1) dX6_changeRoomOf_43 (by decide) ?_
    refine aw_icmp_neN (tgt := 63) dX6_changeRoomOf_44 (by decide) (by omega) (by omega) (fun c44 => ?_) (fun c44 => ?_)
    · -- no LEAP
      refine aw_iload_n dX6_changeRoomOf_63 rfl rfl ?_
      refine aw_iconst (v := nI 3) dX6_changeRoomOf_64 (by decide) ?_
      refine aw_icmp_neN (tgt := 83) dX6_changeRoomOf_65 (by decide) (by omega) (by omega) (fun c65 => ?_) (fun c65 => ?_)
      · -- neither a HOMELY one
        refine aw_aload_n dX6_changeRoomOf_83 rfl rfl ?_
        refine aw_getR dX6_changeRoomOf_84 fX6_12 (by first | assumption | rfl) (by rfl) ?_
        refine aw_iload_n dX6_changeRoomOf_87 rfl rfl ?_
        refine aw_iload dX6_changeRoomOf_88 rfl ?_
        refine aw_callVF dX6_changeRoomOf_90 kX6_105 (c_S_exchange (by first | assumption | exact ⟨rfl, rfl, rfl⟩) (by omega) (by omega)) (by first | assumption | rfl) rfl rfl rfl (Nat.le_of_ble_eq_true rfl) (Nat.le_of_ble_eq_true rfl) ?_
        dsimp only [Option.toList, List.cons_append, List.nil_append, Nat.reduceAdd]
        refine aw_vret dX6_changeRoomOf_93 rfl ?_
        exact ⟨rfl, swap (by
          rintro (⟨z, _⟩ | ⟨z, _⟩)
          · omega
          · omega) hnx2⟩
      · have hs1 := sunR_le hok.1 (day := h 61 2) (hpm.1 _ hnx2)
        have hs2 := sunR_le hok.1 (day := h 61 2) (hpm.1 _ hLp)
        refine aw_aload_n dX6_changeRoomOf_68 rfl rfl ?_
        refine aw_iload dX6_changeRoomOf_69 rfl ?_
        refine aw_callVF dX6_changeRoomOf_71 kX6_57 (c_W_sunNow hws hok hpm hnx2 hdd) (by first | assumption | rfl) rfl rfl rfl (Nat.le_of_ble_eq_true rfl) (Nat.le_of_ble_eq_true rfl) ?_
        dsimp only [Option.toList, List.cons_append, List.nil_append, Nat.reduceAdd]
        refine aw_aload_n dX6_changeRoomOf_74 rfl rfl ?_
        refine aw_iload_n dX6_changeRoomOf_75 rfl rfl ?_
        refine aw_callVF dX6_changeRoomOf_76 kX6_57 (c_W_sunNow hws hok hpm hLp hdd) (by first | assumption | rfl) rfl rfl rfl (Nat.le_of_ble_eq_true rfl) (Nat.le_of_ble_eq_true rfl) ?_
        dsimp only [Option.toList, List.cons_append, List.nil_append, Nat.reduceAdd]
        refine aw_icmp_gtN (tgt := 83) dX6_changeRoomOf_79 (by decide) (by omega) (by omega) (fun c79 => ?_) (fun c79 => ?_)
        · refine aw_aload_n dX6_changeRoomOf_83 rfl rfl ?_
          refine aw_getR dX6_changeRoomOf_84 fX6_12 (by first | assumption | rfl) (by rfl) ?_
          refine aw_iload_n dX6_changeRoomOf_87 rfl rfl ?_
          refine aw_iload dX6_changeRoomOf_88 rfl ?_
          refine aw_callVF dX6_changeRoomOf_90 kX6_105 (c_S_exchange (by first | assumption | exact ⟨rfl, rfl, rfl⟩) (by omega) (by omega)) (by first | assumption | rfl) rfl rfl rfl (Nat.le_of_ble_eq_true rfl) (Nat.le_of_ble_eq_true rfl) ?_
          dsimp only [Option.toList, List.cons_append, List.nil_append, Nat.reduceAdd]
          refine aw_vret dX6_changeRoomOf_93 rfl ?_
          exact ⟨rfl, swap (by
            rintro (⟨z, _⟩ | ⟨z, z2⟩)
            · omega
            · omega) hnx2⟩
        · refine aw_vret dX6_changeRoomOf_82 rfl ?_
          exact ⟨rfl, same (Or.inr ⟨by omega, by omega⟩)⟩
    · refine aw_aload_n dX6_changeRoomOf_47 rfl rfl ?_
      refine aw_getR dX6_changeRoomOf_48 fX6_12 (by first | assumption | rfl) (by rfl) ?_
      refine aw_callVF dX6_changeRoomOf_51 kX6_93 (c_S_day (by first | assumption | exact ⟨rfl, rfl, rfl⟩)) (by first | assumption | rfl) rfl rfl rfl (Nat.le_of_ble_eq_true rfl) (Nat.le_of_ble_eq_true rfl) ?_
      dsimp only [Option.toList, List.cons_append, List.nil_append, Nat.reduceAdd]
      refine aw_bipush (v := nI 60) dX6_changeRoomOf_54 (by decide) ?_
      refine aw_idivN dX6_changeRoomOf_56 (by omega) (by omega) (by omega) ?_
      refine aw_iconst (v := nI 4) dX6_changeRoomOf_57 (by decide) ?_
      refine aw_iremN dX6_changeRoomOf_58 (by omega) (by omega) (by omega) ?_
      refine aw_if_eqN (tgt := 63) dX6_changeRoomOf_59 (by decide) (by omega) (fun c59 => ?_) (fun c59 => ?_)
      · refine aw_iload_n dX6_changeRoomOf_63 rfl rfl ?_
        refine aw_iconst (v := nI 3) dX6_changeRoomOf_64 (by decide) ?_
        refine aw_icmp_neN (tgt := 83) dX6_changeRoomOf_65 (by decide) (by omega) (by omega) (fun _ => ?_) (fun q => absurd q (by omega))
        refine aw_aload_n dX6_changeRoomOf_83 rfl rfl ?_
        refine aw_getR dX6_changeRoomOf_84 fX6_12 (by first | assumption | rfl) (by rfl) ?_
        refine aw_iload_n dX6_changeRoomOf_87 rfl rfl ?_
        refine aw_iload dX6_changeRoomOf_88 rfl ?_
        refine aw_callVF dX6_changeRoomOf_90 kX6_105 (c_S_exchange (by first | assumption | exact ⟨rfl, rfl, rfl⟩) (by omega) (by omega)) (by first | assumption | rfl) rfl rfl rfl (Nat.le_of_ble_eq_true rfl) (Nat.le_of_ble_eq_true rfl) ?_
        dsimp only [Option.toList, List.cons_append, List.nil_append, Nat.reduceAdd]
        refine aw_vret dX6_changeRoomOf_93 rfl ?_
        exact ⟨rfl, swap (by
          rintro (⟨_, z⟩ | ⟨z, _⟩)
          · omega
          · omega) hnx2⟩
      · refine aw_vret dX6_changeRoomOf_62 rfl ?_
        exact ⟨rfl, same (Or.inl ⟨by omega, by omega⟩)⟩
  change AW mX6_changeRoomOf _ 0 [some (.ref 60), some (.int (nI (L p))), some (.int (nI p)), none, none] [] h _
  refine aw_aload_n dX6_changeRoomOf_0 rfl rfl ?_
  refine aw_getR dX6_changeRoomOf_1 fX6_25 (by first | assumption | rfl) (by rfl) ?_
  refine aw_iload_n dX6_changeRoomOf_4 rfl rfl ?_
  refine aw_callVF dX6_changeRoomOf_5 kX6_99 (c_P_kindOf (by omega)) (by first | assumption | rfl) rfl rfl rfl (Nat.le_of_ble_eq_true rfl) (Nat.le_of_ble_eq_true rfl) ?_
  dsimp only [Option.toList, List.cons_append, List.nil_append, Nat.reduceAdd]
  rw [hk]
  refine aw_istore_n dX6_changeRoomOf_8 rfl (Nat.le_of_ble_eq_true rfl) rfl ?_
  dsimp only [List.set]
  refine aw_aload_n dX6_changeRoomOf_9 rfl rfl ?_
  refine aw_getR dX6_changeRoomOf_10 fX6_18 (by first | assumption | rfl) (by rfl) ?_
  refine aw_iload_n dX6_changeRoomOf_13 rfl rfl ?_
  refine aw_iconst (v := nI 2) dX6_changeRoomOf_14 (by decide) ?_
  refine aw_icmp_neN (tgt := 24) dX6_changeRoomOf_15 (by decide) (by omega) (by omega) (fun c15 => ?_) (fun c15 => ?_)
  · refine aw_iload_n dX6_changeRoomOf_24 rfl rfl ?_
    refine aw_iconst (v := nI 1) dX6_changeRoomOf_25 (by decide) ?_
    refine aw_iaddN dX6_changeRoomOf_26 ?_
    exact mid _ (by rw [if_neg (by omega)])
  · refine aw_iload_n dX6_changeRoomOf_18 rfl rfl ?_
    refine aw_iconst (v := nI 2) dX6_changeRoomOf_19 (by decide) ?_
    refine aw_iaddN dX6_changeRoomOf_20 ?_
    refine aw_goto (tgt := 27) dX6_changeRoomOf_21 (by decide) ?_
    exact mid _ (by rw [if_pos (by omega)])
theorem c_W_changeRooms {d dd c : Nat} {h : Hp} {S : Hs} {b L f s : Nat → Nat} (hws : WS h S b L dd f s c) (hok : WO S b L) (hpm : PM (sn S) f) (hdd : dd < 2 ^ 30) :
    RT mX6_changeRooms (d + 3) [.ref 60] h (fun v h' => v = none ∧ WS h' S b L dd (chR S b L dd f (sn S)) s c ∧ FW6 h h') := by
  have h38 := hok.1.2.1
  have e4 := hws.2.1
  have loop : ∀ t p hh, p + t = sn S → WS hh S b L dd (chR S b L dd f p) s c → FW6 h hh → AW mX6_changeRooms (d + 3) 13 [some (.ref 60), some (.int (nI (dd % 60))), some (.int (nI p)), none] [] hh (fun v h' => v = none ∧ WS h' S b L dd (chR S b L dd f (sn S)) s c ∧ FW6 h h') ∧ ∀ x, AW mX6_changeRooms (d + 3) 13 [some (.ref 60), some (.int (nI (dd % 60))), some (.int (nI p)), some (.int (nI x))] [] hh (fun v h' => v = none ∧ WS h' S b L dd (chR S b L dd f (sn S)) s c ∧ FW6 h h') := by
    intro t
    induction t with
    | zero =>
      intro p hh hp hw1 hf1
      obtain ⟨⟨e1, _, _⟩, _, _, _⟩ := id hw1
      have ep : p = sn S := by omega
      subst ep
      refine ⟨?_, fun x => ?_⟩
      · refine aw_iload_n dX6_changeRooms_13 rfl rfl ?_
        refine aw_aload_n dX6_changeRooms_14 rfl rfl ?_
        refine aw_getR dX6_changeRooms_15 fX6_25 (by first | assumption | rfl) (by rfl) ?_
        refine aw_callVF dX6_changeRooms_18 kX6_47 (c_P_cousins) (by first | assumption | rfl) rfl rfl rfl (Nat.le_of_ble_eq_true rfl) (Nat.le_of_ble_eq_true rfl) ?_
        dsimp only [Option.toList, List.cons_append, List.nil_append, Nat.reduceAdd]
        rw [e1]
        refine aw_icmp_geN (tgt := 57) dX6_changeRooms_21 (by decide) (by omega) (by omega) (fun _ => ?_) (fun q => absurd q (by omega))
        refine aw_vret dX6_changeRooms_57 rfl ?_
        exact ⟨rfl, hw1, hf1⟩
      · refine aw_iload_n dX6_changeRooms_13 rfl rfl ?_
        refine aw_aload_n dX6_changeRooms_14 rfl rfl ?_
        refine aw_getR dX6_changeRooms_15 fX6_25 (by first | assumption | rfl) (by rfl) ?_
        refine aw_callVF dX6_changeRooms_18 kX6_47 (c_P_cousins) (by first | assumption | rfl) rfl rfl rfl (Nat.le_of_ble_eq_true rfl) (Nat.le_of_ble_eq_true rfl) ?_
        dsimp only [Option.toList, List.cons_append, List.nil_append, Nat.reduceAdd]
        rw [e1]
        refine aw_icmp_geN (tgt := 57) dX6_changeRooms_21 (by decide) (by omega) (by omega) (fun _ => ?_) (fun q => absurd q (by omega))
        refine aw_vret dX6_changeRooms_57 rfl ?_
        exact ⟨rfl, hw1, hf1⟩
    | succ t ih =>
      intro p hh hp hw1 hf1
      obtain ⟨⟨e1, _, _⟩, _, _, e6⟩ := id hw1
      have hp8 : p < sn S := by omega
      have e64 := (e6 p hp8).2.2.1
      have hLp := hok.2 p hp8
      have hbL := hok.2 (L p) hLp.2
      have e63 := (e6 (L p) hLp.2).2.1
      have hpm1 := PM_chR (b := b) (day := dd) hok.1 (fun q hq => (hok.2 q hq).2) hpm p (by omega)
      have body : AW mX6_changeRooms (d + 3) 24 [some (.ref 60), some (.int (nI (dd % 60))), some (.int (nI p)), none] [] hh (fun v h' => v = none ∧ WS h' S b L dd (chR S b L dd f (sn S)) s c ∧ FW6 h h') ∧ ∀ x, AW mX6_changeRooms (d + 3) 24 [some (.ref 60), some (.int (nI (dd % 60))), some (.int (nI p)), some (.int (nI x))] [] hh (fun v h' => v = none ∧ WS h' S b L dd (chR S b L dd f (sn S)) s c ∧ FW6 h h') := by
        have tail : AW mX6_changeRooms (d + 3) 33 [some (.ref 60), some (.int (nI (dd % 60))), some (.int (nI p)), some (.int (nI (L p)))] [] hh (fun v h' => v = none ∧ WS h' S b L dd (chR S b L dd f (sn S)) s c ∧ FW6 h h') := by
          refine aw_aload_n dX6_changeRooms_33 rfl rfl ?_
          refine aw_getR dX6_changeRooms_34 fX6_12 (by first | assumption | rfl) (by rfl) ?_
          refine aw_iload_n dX6_changeRooms_37 rfl rfl ?_
          refine aw_callVF dX6_changeRooms_38 kX6_86 (c_S_birthdayOf (by first | assumption | exact ⟨rfl, rfl, rfl⟩) (by omega)) (by first | assumption | rfl) rfl rfl rfl (Nat.le_of_ble_eq_true rfl) (Nat.le_of_ble_eq_true rfl) ?_
          dsimp only [Option.toList, List.cons_append, List.nil_append, Nat.reduceAdd]
          rw [e63]
          refine aw_iload_n dX6_changeRooms_41 rfl rfl ?_
          refine aw_icmp_neN (tgt := 51) dX6_changeRooms_42 (by decide) (by omega) (by omega) (fun c42 => ?_) (fun c42 => ?_)
          · have ec : chR S b L dd f (p + 1) = chR S b L dd f p := by
              show (if b (L p) = dd % 60 then _ else _) = _
              rw [if_neg (by omega)]
            refine aw_iincN (v := 1) dX6_changeRooms_51 rfl rfl ?_
            dsimp only [List.set]
            refine aw_goto (tgt := 13) dX6_changeRooms_54 (by decide) ?_
            exact (ih (p + 1) hh (by omega) (by rw [ec]; exact hw1) hf1).2 _
          · have ec : chR S b L dd f (p + 1) = ch1 S L dd p (chR S b L dd f p) := by
              show (if b (L p) = dd % 60 then _ else _) = _
              rw [if_pos (by omega)]
            refine aw_aload_n dX6_changeRooms_45 rfl rfl ?_
            refine aw_iload_n dX6_changeRooms_46 rfl rfl ?_
            refine aw_iload_n dX6_changeRooms_47 rfl rfl ?_
            refine aw_callV dX6_changeRooms_48 kX6_96 (c_W_changeRoomOf hw1 hok hpm1 hp8 hdd) (by first | assumption | rfl) rfl rfl rfl (Nat.le_of_ble_eq_true rfl) (Nat.le_of_ble_eq_true rfl) ?_
            rintro _ h2 ⟨rfl, hw2, hf2⟩
            dsimp only [Option.toList, List.cons_append, List.nil_append, Nat.reduceAdd]
            refine aw_iincN (v := 1) dX6_changeRooms_51 rfl rfl ?_
            dsimp only [List.set]
            refine aw_goto (tgt := 13) dX6_changeRooms_54 (by decide) ?_
            exact (ih (p + 1) h2 (by omega) (by rw [ec]; exact hw2) (hf1.trans hf2)).2 _
        refine ⟨?_, fun x => ?_⟩
        · refine aw_aload_n dX6_changeRooms_24 rfl rfl ?_
          refine aw_getR dX6_changeRooms_25 fX6_18 (by first | assumption | rfl) (by rfl) ?_
          refine aw_iload_n dX6_changeRooms_28 rfl rfl ?_
          refine aw_callSF dX6_changeRooms_29 kX6_43 (c_at (by first | assumption | rfl) (by omega) (by decide)) rfl rfl rfl (Nat.le_of_ble_eq_true rfl) (Nat.le_of_ble_eq_true rfl) ?_
          dsimp only [Option.toList, List.cons_append, List.nil_append, Nat.reduceAdd]
          rw [e64]
          refine aw_istore_n dX6_changeRooms_32 rfl (Nat.le_of_ble_eq_true rfl) rfl ?_
          dsimp only [List.set]
          exact tail
        · refine aw_aload_n dX6_changeRooms_24 rfl rfl ?_
          refine aw_getR dX6_changeRooms_25 fX6_18 (by first | assumption | rfl) (by rfl) ?_
          refine aw_iload_n dX6_changeRooms_28 rfl rfl ?_
          refine aw_callSF dX6_changeRooms_29 kX6_43 (c_at (by first | assumption | rfl) (by omega) (by decide)) rfl rfl rfl (Nat.le_of_ble_eq_true rfl) (Nat.le_of_ble_eq_true rfl) ?_
          dsimp only [Option.toList, List.cons_append, List.nil_append, Nat.reduceAdd]
          rw [e64]
          refine aw_istore_n dX6_changeRooms_32 rfl (Nat.le_of_ble_eq_true rfl) rfl ?_
          dsimp only [List.set]
          exact tail
      refine ⟨?_, fun x => ?_⟩
      · refine aw_iload_n dX6_changeRooms_13 rfl rfl ?_
        refine aw_aload_n dX6_changeRooms_14 rfl rfl ?_
        refine aw_getR dX6_changeRooms_15 fX6_25 (by first | assumption | rfl) (by rfl) ?_
        refine aw_callVF dX6_changeRooms_18 kX6_47 (c_P_cousins) (by first | assumption | rfl) rfl rfl rfl (Nat.le_of_ble_eq_true rfl) (Nat.le_of_ble_eq_true rfl) ?_
        dsimp only [Option.toList, List.cons_append, List.nil_append, Nat.reduceAdd]
        rw [e1]
        refine aw_icmp_geN (tgt := 57) dX6_changeRooms_21 (by decide) (by omega) (by omega) (fun q => absurd q (by omega)) (fun _ => ?_)
        exact body.1
      · refine aw_iload_n dX6_changeRooms_13 rfl rfl ?_
        refine aw_aload_n dX6_changeRooms_14 rfl rfl ?_
        refine aw_getR dX6_changeRooms_15 fX6_25 (by first | assumption | rfl) (by rfl) ?_
        refine aw_callVF dX6_changeRooms_18 kX6_47 (c_P_cousins) (by first | assumption | rfl) rfl rfl rfl (Nat.le_of_ble_eq_true rfl) (Nat.le_of_ble_eq_true rfl) ?_
        dsimp only [Option.toList, List.cons_append, List.nil_append, Nat.reduceAdd]
        rw [e1]
        refine aw_icmp_geN (tgt := 57) dX6_changeRooms_21 (by decide) (by omega) (by omega) (fun q => absurd q (by omega)) (fun _ => ?_)
        exact body.2 x
  change AW mX6_changeRooms _ 0 [some (.ref 60), none, none, none] [] h _
  refine aw_aload_n dX6_changeRooms_0 rfl rfl ?_
  refine aw_getR dX6_changeRooms_1 fX6_12 (by first | assumption | rfl) (by rfl) ?_
  refine aw_callVF dX6_changeRooms_4 kX6_93 (c_S_day (by first | assumption | exact ⟨rfl, rfl, rfl⟩)) (by first | assumption | rfl) rfl rfl rfl (Nat.le_of_ble_eq_true rfl) (Nat.le_of_ble_eq_true rfl) ?_
  dsimp only [Option.toList, List.cons_append, List.nil_append, Nat.reduceAdd]
  rw [e4]
  refine aw_bipush (v := nI 60) dX6_changeRooms_7 (by decide) ?_
  refine aw_iremN dX6_changeRooms_9 (by omega) (by omega) (by omega) ?_
  refine aw_istore_n dX6_changeRooms_10 rfl (Nat.le_of_ble_eq_true rfl) rfl ?_
  dsimp only [List.set]
  refine aw_iconst (v := nI 0) dX6_changeRooms_11 (by decide) ?_
  refine aw_istore_n dX6_changeRooms_12 rfl (Nat.le_of_ble_eq_true rfl) rfl ?_
  dsimp only [List.set]
  exact (loop (sn S) 0 h (by omega) hws (fun o _ => rfl)).1
end
section
/-! Walk, the days that are alike, what is counted on them -/
def ahd (b : Nat → Nat) (dd i : Nat) : Nat := (b i + 60 - dd % 60) % 60
theorem c_W_daysAlike {d dd c : Nat} {h : Hp} {S : Hs} {b L f s : Nat → Nat} (hws : WS h S b L dd f s c) (hok : WO S b L) (hdd : dd < 2 ^ 30) :
    RT mX6_daysAlike (d + 3) [.ref 60] h (fun v h' => ∃ t, v = some (.int (nI t)) ∧ 1 ≤ t ∧ t + dd % 30 ≤ 30 ∧ (∀ i, i < sn S → ahd b dd i = 0 ∨ t ≤ ahd b dd i) ∧ h' = h) := by
  obtain ⟨⟨e1, _, _⟩, e4, _, e6⟩ := id hws
  have h38 := hok.1.2.1
  have loop : ∀ u k t, k + u = sn S → 1 ≤ t → t + dd % 30 ≤ 30 → (∀ i, i < k → ahd b dd i = 0 ∨ t ≤ ahd b dd i) → AW mX6_daysAlike (d + 3) 16 [some (.ref 60), some (.int (nI t)), some (.int (nI k)), none] [] h (fun v h' => ∃ t, v = some (.int (nI t)) ∧ 1 ≤ t ∧ t + dd % 30 ≤ 30 ∧ (∀ i, i < sn S → ahd b dd i = 0 ∨ t ≤ ahd b dd i) ∧ h' = h) := by
    intro u
    induction u with
    | zero =>
      intro k t hk h1 h2 hall
      have ek : k = sn S := by omega
      subst ek
      refine aw_iload_n dX6_daysAlike_16 rfl rfl ?_
      refine aw_aload_n dX6_daysAlike_17 rfl rfl ?_
      refine aw_getR dX6_daysAlike_18 fX6_25 (by first | assumption | rfl) (by rfl) ?_
      refine aw_callVF dX6_daysAlike_21 kX6_47 (c_P_cousins) (by first | assumption | rfl) rfl rfl rfl (Nat.le_of_ble_eq_true rfl) (Nat.le_of_ble_eq_true rfl) ?_
      dsimp only [Option.toList, List.cons_append, List.nil_append, Nat.reduceAdd]
      rw [e1]
      refine aw_icmp_geN (tgt := 53) dX6_daysAlike_24 (by decide) (by omega) (by omega) (fun _ => ?_) (fun q => absurd q (by omega))
      refine aw_iconst (v := nI 1) dX6_daysAlike_53 (by decide) ?_
      refine aw_iload_n dX6_daysAlike_54 rfl rfl ?_
      refine aw_mmaxN dX6_daysAlike_55 kX6_118 (by omega) (by omega) (Nat.le_of_ble_eq_true rfl) ?_
      refine aw_iret dX6_daysAlike_58 rfl (by first | rfl | exact (pk_charN (by omega)).1 | decide) ?_
      rw [Nat.max_eq_right h1]
      exact ⟨t, rfl, h1, h2, hall, rfl⟩
    | succ u ih =>
      intro k t hk h1 h2 hall
      have hk8 : k < sn S := by omega
      have e63 := (e6 k hk8).2.1
      have hb60 := (hok.2 k hk8).1
      have hah : ahd b dd k < 60 := Nat.mod_lt _ (by decide)
      refine aw_iload_n dX6_daysAlike_16 rfl rfl ?_
      refine aw_aload_n dX6_daysAlike_17 rfl rfl ?_
      refine aw_getR dX6_daysAlike_18 fX6_25 (by first | assumption | rfl) (by rfl) ?_
      refine aw_callVF dX6_daysAlike_21 kX6_47 (c_P_cousins) (by first | assumption | rfl) rfl rfl rfl (Nat.le_of_ble_eq_true rfl) (Nat.le_of_ble_eq_true rfl) ?_
      dsimp only [Option.toList, List.cons_append, List.nil_append, Nat.reduceAdd]
      rw [e1]
      refine aw_icmp_geN (tgt := 53) dX6_daysAlike_24 (by decide) (by omega) (by omega) (fun q => absurd q (by omega)) (fun _ => ?_)
      refine aw_aload_n dX6_daysAlike_27 rfl rfl ?_
      refine aw_getR dX6_daysAlike_28 fX6_12 (by first | assumption | rfl) (by rfl) ?_
      refine aw_iload_n dX6_daysAlike_31 rfl rfl ?_
      refine aw_callVF dX6_daysAlike_32 kX6_115 (c_S_daysTo ⟨rfl, rfl, rfl⟩ (by omega) (by show h 63 k < 60; omega) (by omega)) (by first | assumption | rfl) rfl rfl rfl (Nat.le_of_ble_eq_true rfl) (Nat.le_of_ble_eq_true rfl) ?_
      dsimp only [Option.toList, List.cons_append, List.nil_append, Nat.reduceAdd]
      rw [e63, e4, show (b k + 60 - dd % 60) % 60 = ahd b dd k from rfl]
      refine aw_istore_n dX6_daysAlike_35 rfl (Nat.le_of_ble_eq_true rfl) rfl ?_
      dsimp only [List.set]
      refine aw_iload_n dX6_daysAlike_36 rfl rfl ?_
      refine aw_if_leN (tgt := 47) dX6_daysAlike_37 (by decide) (by omega) (fun c37 => ?_) (fun c37 => ?_)
      · refine aw_iincN (v := 1) dX6_daysAlike_47 rfl rfl ?_
        dsimp only [List.set]
        refine aw_goto (tgt := 16) dX6_daysAlike_50 (by decide) ?_
        refine aw_forget 3 ?_
        dsimp only [List.set]
        refine ih (k + 1) t (by omega) h1 h2 (fun i hi => ?_)
        rcases Nat.lt_succ_iff_lt_or_eq.mp hi with q | q
        · exact hall i q
        · subst q; exact Or.inl (by omega)
      · refine aw_iload_n dX6_daysAlike_40 rfl rfl ?_
        refine aw_iload_n dX6_daysAlike_41 rfl rfl ?_
        refine aw_icmp_geN (tgt := 47) dX6_daysAlike_42 (by decide) (by omega) (by omega) (fun c42 => ?_) (fun c42 => ?_)
        · refine aw_iincN (v := 1) dX6_daysAlike_47 rfl rfl ?_
          dsimp only [List.set]
          refine aw_goto (tgt := 16) dX6_daysAlike_50 (by decide) ?_
          refine aw_forget 3 ?_
          dsimp only [List.set]
          refine ih (k + 1) t (by omega) h1 h2 (fun i hi => ?_)
          rcases Nat.lt_succ_iff_lt_or_eq.mp hi with q | q
          · exact hall i q
          · subst q; exact Or.inr (by omega)
        · refine aw_iload_n dX6_daysAlike_45 rfl rfl ?_
          refine aw_istore_n dX6_daysAlike_46 rfl (Nat.le_of_ble_eq_true rfl) rfl ?_
          dsimp only [List.set]
          refine aw_iincN (v := 1) dX6_daysAlike_47 rfl rfl ?_
          dsimp only [List.set]
          refine aw_goto (tgt := 16) dX6_daysAlike_50 (by decide) ?_
          refine aw_forget 3 ?_
          dsimp only [List.set]
          refine ih (k + 1) _ (by omega) (by omega) (by omega) (fun i hi => ?_)
          rcases Nat.lt_succ_iff_lt_or_eq.mp hi with q | q
          · rcases hall i q with z | z
            · exact Or.inl z
            · exact Or.inr (by omega)
          · subst q; exact Or.inr (Nat.le_refl _)
  change AW mX6_daysAlike _ 0 [some (.ref 60), none, none, none] [] h _
  refine aw_bipush (v := nI 30) dX6_daysAlike_0 (by decide) ?_
  refine aw_aload_n dX6_daysAlike_2 rfl rfl ?_
  refine aw_getR dX6_daysAlike_3 fX6_12 (by first | assumption | rfl) (by rfl) ?_
  refine aw_callVF dX6_daysAlike_6 kX6_93 (c_S_day (by first | assumption | exact ⟨rfl, rfl, rfl⟩)) (by first | assumption | rfl) rfl rfl rfl (Nat.le_of_ble_eq_true rfl) (Nat.le_of_ble_eq_true rfl) ?_
  dsimp only [Option.toList, List.cons_append, List.nil_append, Nat.reduceAdd]
  rw [e4]
  refine aw_bipush (v := nI 30) dX6_daysAlike_9 (by decide) ?_
  refine aw_iremN dX6_daysAlike_11 (by omega) (by omega) (by omega) ?_
  refine aw_isubN dX6_daysAlike_12 (by omega) ?_
  refine aw_istore_n dX6_daysAlike_13 rfl (Nat.le_of_ble_eq_true rfl) rfl ?_
  dsimp only [List.set]
  refine aw_iconst (v := nI 0) dX6_daysAlike_14 (by decide) ?_
  refine aw_istore_n dX6_daysAlike_15 rfl (Nat.le_of_ble_eq_true rfl) rfl ?_
  dsimp only [List.set]
  exact loop (sn S) 0 _ (by omega) (by omega) (by omega) (fun i hi => by omega)
theorem c_W_countDays {d m dd c : Nat} {h : Hp} {S : Hs} {b L f s : Nat → Nat} (hws : WS h S b L dd f s c) (hok : WO S b L) (hpm : PM (sn S) f) (hdd : dd < 2 ^ 30) :
    RT mX6_countDays (d + 2) [.ref 60, .int (nI m)] h (fun v h' => v = none ∧ WS h' S b L dd f (fun i => s i + sunR S dd (f i) * m) (c + m * coldN S dd f (sn S)) ∧ FW6 h h') := by
  have h38 := hok.1.2.1
  have loop : ∀ u k hh, k + u = sn S → WS hh S b L dd f (fun i => if i < k then s i + sunR S dd (f i) * m else s i) (c + m * coldN S dd f k) → FW6 h hh → AW mX6_countDays (d + 2) 2 [some (.ref 60), some (.int (nI m)), some (.int (nI k)), none] [] hh (fun v h' => v = none ∧ WS h' S b L dd f (fun i => s i + sunR S dd (f i) * m) (c + m * coldN S dd f (sn S)) ∧ FW6 h h') := by
    intro u
    induction u with
    | zero =>
      intro k hh hk hw1 hf1
      obtain ⟨hx1, ed, ec, ei⟩ := id hw1
      have ek : k = sn S := by omega
      subst ek
      refine aw_iload_n dX6_countDays_2 rfl rfl ?_
      refine aw_aload_n dX6_countDays_3 rfl rfl ?_
      refine aw_getR dX6_countDays_4 fX6_25 (by first | assumption | rfl) (by rfl) ?_
      refine aw_callVF dX6_countDays_7 kX6_47 (c_P_cousins) (by first | assumption | rfl) rfl rfl rfl (Nat.le_of_ble_eq_true rfl) (Nat.le_of_ble_eq_true rfl) ?_
      dsimp only [Option.toList, List.cons_append, List.nil_append, Nat.reduceAdd]
      rw [hx1.1]
      refine aw_icmp_geN (tgt := 67) dX6_countDays_10 (by decide) (by omega) (by omega) (fun _ => ?_) (fun q => absurd q (by omega))
      refine aw_vret dX6_countDays_67 rfl ?_
      refine ⟨rfl, ⟨hx1, ed, ec, fun i hi => ?_⟩, hf1⟩
      have hthis := ei i hi
      dsimp only at hthis ⊢
      rw [if_pos hi] at hthis
      exact hthis
    | succ u ih =>
      intro k hh hk hw1 hf1
      obtain ⟨hx1, ed, ec, ei⟩ := id hw1
      have hk8 : k < sn S := by omega
      have e65 := (ei k hk8).2.2.2
      dsimp only at e65
      rw [if_neg (Nat.lt_irrefl k)] at e65
      have hs1 := sunR_le hok.1 (day := dd) (hpm.1 _ hk8)
      have e7 := (hx1.2.2 k hk8).2.1
      have hW9 := (hok.1.2.2 k hk8).2.1
      refine aw_iload_n dX6_countDays_2 rfl rfl ?_
      refine aw_aload_n dX6_countDays_3 rfl rfl ?_
      refine aw_getR dX6_countDays_4 fX6_25 (by first | assumption | rfl) (by rfl) ?_
      refine aw_callVF dX6_countDays_7 kX6_47 (c_P_cousins) (by first | assumption | rfl) rfl rfl rfl (Nat.le_of_ble_eq_true rfl) (Nat.le_of_ble_eq_true rfl) ?_
      dsimp only [Option.toList, List.cons_append, List.nil_append, Nat.reduceAdd]
      rw [hx1.1]
      refine aw_icmp_geN (tgt := 67) dX6_countDays_10 (by decide) (by omega) (by omega) (fun q => absurd q (by omega)) (fun _ => ?_)
      refine aw_aload_n dX6_countDays_13 rfl rfl ?_
      refine aw_iload_n dX6_countDays_14 rfl rfl ?_
      refine aw_callVF dX6_countDays_15 kX6_57 (c_W_sunNow hw1 hok hpm hk8 hdd) (by first | assumption | rfl) rfl rfl rfl (Nat.le_of_ble_eq_true rfl) (Nat.le_of_ble_eq_true rfl) ?_
      dsimp only [Option.toList, List.cons_append, List.nil_append, Nat.reduceAdd]
      refine aw_istore_n dX6_countDays_18 rfl (Nat.le_of_ble_eq_true rfl) rfl ?_
      dsimp only [List.set]
      refine aw_aload_n dX6_countDays_19 rfl rfl ?_
      refine aw_getR dX6_countDays_20 fX6_22 (by first | assumption | rfl) (by rfl) ?_
      refine aw_iload_n dX6_countDays_23 rfl rfl ?_
      refine aw_aload_n dX6_countDays_24 rfl rfl ?_
      refine aw_getR dX6_countDays_25 fX6_22 (by first | assumption | rfl) (by rfl) ?_
      refine aw_iload_n dX6_countDays_28 rfl rfl ?_
      refine aw_callSF dX6_countDays_29 kX6_43 (c_at (by first | assumption | rfl) (by omega) (by decide)) rfl rfl rfl (Nat.le_of_ble_eq_true rfl) (Nat.le_of_ble_eq_true rfl) ?_
      dsimp only [Option.toList, List.cons_append, List.nil_append, Nat.reduceAdd]
      rw [e65]
      refine aw_iload_n dX6_countDays_32 rfl rfl ?_
      refine aw_iload_n dX6_countDays_33 rfl rfl ?_
      refine aw_imulN dX6_countDays_34 ?_
      refine aw_iaddN dX6_countDays_35 ?_
      refine aw_callSF dX6_countDays_36 kX6_89 (c_put (by first | assumption | rfl) (by omega) (by decide)) rfl rfl rfl (Nat.le_of_ble_eq_true rfl) (Nat.le_of_ble_eq_true rfl) ?_
      dsimp only [Option.toList, List.cons_append, List.nil_append, Nat.reduceAdd]
      refine aw_iload_n dX6_countDays_39 rfl rfl ?_
      refine aw_aload_n dX6_countDays_40 rfl rfl ?_
      refine aw_getR dX6_countDays_41 fX6_25 (by first | assumption | rfl) (by rfl) ?_
      refine aw_iload_n dX6_countDays_44 rfl rfl ?_
      refine aw_callVF dX6_countDays_45 kX6_61 (c_P_wantOf (by omega)) (by first | assumption | rfl) rfl rfl rfl (Nat.le_of_ble_eq_true rfl) (Nat.le_of_ble_eq_true rfl) ?_
      dsimp only [Option.toList, List.cons_append, List.nil_append, Nat.reduceAdd]
      have e7' : hw hh 65 k (s k + sunR S dd (f k) * m) 7 k = sW S k := by rw [hw_ne (by decide)]; exact e7
      rw [e7']
      have key : ∀ c2 h2, (∀ o, o ≠ 65 → o ≠ 60 → h2 o = hh o) → (∀ j, h2 65 j = if j = k then s k + sunR S dd (f k) * m else hh 65 j) → h2 60 4 = c2 → c2 = c + m * coldN S dd f (k + 1) → WS h2 S b L dd f (fun i => if i < k + 1 then s i + sunR S dd (f i) * m else s i) (c + m * coldN S dd f (k + 1)) ∧ FW6 h h2 := by
        intro c2 h2 g1 g2 g3 g4
        have hf2 : FW6 hh h2 := fun o ho => g1 o (by omega) (by omega)
        refine ⟨⟨hx1.fr hf2, ?_, by rw [g3]; exact g4, fun i hi => ?_⟩, hf1.trans hf2⟩
        · rw [g1 61 (by decide) (by decide)]; exact ed
        · have q := ei i hi
          dsimp only at q ⊢
          rw [g1 62 (by decide) (by decide), g1 63 (by decide) (by decide), g1 64 (by decide) (by decide), g2]
          refine ⟨q.1, q.2.1, q.2.2.1, ?_⟩
          by_cases hik : i = k
          · subst hik
            rw [if_pos rfl, if_pos (Nat.lt_succ_self i)]
          · rw [if_neg hik, q.2.2.2]
            by_cases hlt : i < k
            · rw [if_pos hlt, if_pos (by omega)]
            · rw [if_neg hlt, if_neg (by omega)]
      refine aw_icmp_geN (tgt := 61) dX6_countDays_48 (by decide) (by omega) (by omega) (fun c48 => ?_) (fun c48 => ?_)
      · have ez : coldN S dd f (k + 1) = coldN S dd f k := by
          show coldN S dd f k + (if _ then 1 else 0) = _
          rw [if_neg (by omega)]; rfl
        obtain ⟨w2, f2⟩ := key (c + m * coldN S dd f k) (hw hh 65 k (s k + sunR S dd (f k) * m)) (fun o h1 _ => hw_ne h1) (fun j => hw_at) (by rw [hw_ne (by decide)]; exact ec) (by rw [ez])
        refine aw_iincN (v := 1) dX6_countDays_61 rfl rfl ?_
        dsimp only [List.set]
        refine aw_goto (tgt := 2) dX6_countDays_64 (by decide) ?_
        refine aw_forget 3 ?_
        dsimp only [List.set]
        exact ih (k + 1) _ (by omega) w2 f2
      · have ez : coldN S dd f (k + 1) = coldN S dd f k + 1 := by
          show coldN S dd f k + (if _ then 1 else 0) = _
          rw [if_pos (by omega)]
        refine aw_aload_n dX6_countDays_51 rfl rfl ?_
        refine aw_dup dX6_countDays_52 rfl ?_
        refine aw_getI dX6_countDays_53 fX6_53 (by first | assumption | rfl) (by rfl) ?_
        refine aw_iload_n dX6_countDays_56 rfl rfl ?_
        refine aw_iaddN dX6_countDays_57 ?_
        refine aw_putfield dX6_countDays_58 gX6_53 (by first | assumption | rfl) (by rfl) ?_
        refine aw_iincN (v := 1) dX6_countDays_61 rfl rfl ?_
        dsimp only [List.set]
        refine aw_goto (tgt := 2) dX6_countDays_64 (by decide) ?_
        obtain ⟨w2, f2⟩ := key _ (hw (hw hh 65 k (s k + sunR S dd (f k) * m)) 60 4 (hw hh 65 k (s k + sunR S dd (f k) * m) 60 4 + m)) (fun o h1 h2 => by rw [hw_ne h2, hw_ne h1]) (fun j => by rw [hw_ne (by decide)]; exact hw_at) (by rw [hw_at, if_pos rfl]) (by rw [hw_ne (by decide), ec, ez, Nat.mul_add]; omega)
        refine aw_forget 3 ?_
        dsimp only [List.set]
        exact ih (k + 1) _ (by omega) w2 f2
  change AW mX6_countDays _ 0 [some (.ref 60), some (.int (nI m)), none, none] [] h _
  refine aw_iconst (v := nI 0) dX6_countDays_0 (by decide) ?_
  refine aw_istore_n dX6_countDays_1 rfl (Nat.le_of_ble_eq_true rfl) rfl ?_
  dsimp only [List.set]
  refine loop (sn S) 0 h (by omega) ?_ (fun o _ => rfl)
  have ez : (fun i => if i < 0 then s i + sunR S dd (f i) * m else s i) = s := by funext i; rw [if_neg (by omega)]
  rw [ez]
  exact hws
/-- days on which nothing changes -/
theorem chR_idle {S : Hs} {b L : Nat → Nat} {day : Nat} {f : Nat → Nat} : ∀ p, (∀ q, q < p → b (L q) ≠ day % 60) → chR S b L day f p = f := by
  intro p
  induction p with
  | zero => intro _; rfl
  | succ p ih =>
    intro hq
    show (if b (L p) = day % 60 then _ else _) = _
    rw [if_neg (hq p (Nat.lt_succ_self p)), ih (fun q h => hq q (by omega))]
theorem stretch {S : Hs} {b L : Nat → Nat} {day0 k t : Nat} {f : Nat → Nat} (hok : WO S b L) (ht : t + (day0 + k) % 30 ≤ 30) (hal : ∀ i, i < sn S → ahd b (day0 + k) i = 0 ∨ t ≤ ahd b (day0 + k) i) :
    ∀ m, 1 ≤ m → m ≤ t → rmF S b L day0 f (k + m) = chR S b L (day0 + k) (rmF S b L day0 f k) (sn S) ∧ (∀ i, sunF S b L day0 f i (k + m) = sunF S b L day0 f i k + sunR S (day0 + k) (chR S b L (day0 + k) (rmF S b L day0 f k) (sn S) i) * m) ∧ coldF S b L day0 f (k + m) = coldF S b L day0 f k + m * coldN S (day0 + k) (chR S b L (day0 + k) (rmF S b L day0 f k) (sn S)) (sn S) := by
  intro m
  induction m with
  | zero => intro h1 _; omega
  | succ m ih =>
    intro _ h2
    by_cases hm : m = 0
    · subst hm
      refine ⟨rfl, fun i => ?_, ?_⟩
      · show sunF S b L day0 f i k + _ = _
        rw [Nat.mul_one]
        rfl
      · show coldF S b L day0 f k + _ = _
        rw [Nat.one_mul]
        rfl
    · obtain ⟨i1, i2, i3⟩ := ih (by omega) (by omega)
      have idle : chR S b L (day0 + (k + m)) (rmF S b L day0 f (k + m)) (sn S) = rmF S b L day0 f (k + m) := by
        refine chR_idle _ (fun q hq => ?_)
        have hLq := hok.2 q hq
        have hb := (hok.2 _ hLq.2).1
        have := hal _ hLq.2
        unfold ahd at this
        omega
      have e1 : rmF S b L day0 f (k + (m + 1)) = chR S b L (day0 + k) (rmF S b L day0 f k) (sn S) := by
        show chR S b L (day0 + (k + m)) (rmF S b L day0 f (k + m)) (sn S) = _
        rw [idle, i1]
      have es : ∀ r, sunR S (day0 + (k + m)) r = sunR S (day0 + k) r := by
        intro r
        unfold sunR
        by_cases hz : (day0 + k) % 60 < 30
        · rw [if_pos hz, if_pos (by omega)]
        · rw [if_neg hz, if_neg (by omega)]
      have ecn : ∀ g j, coldN S (day0 + (k + m)) g j = coldN S (day0 + k) g j := by
        intro g j
        induction j with
        | zero => rfl
        | succ j ij =>
          show coldN S (day0 + (k + m)) g j + _ = coldN S (day0 + k) g j + _
          rw [ij, es]
      refine ⟨e1, fun i => ?_, ?_⟩
      · show sunF S b L day0 f i (k + m) + sunR S (day0 + (k + m)) (rmF S b L day0 f (k + (m + 1)) i) = _
        rw [i2, e1, es, Nat.mul_succ, Nat.add_assoc]
      · show coldF S b L day0 f (k + m) + coldN S (day0 + (k + m)) (rmF S b L day0 f (k + (m + 1))) (sn S) = _
        rw [i3, e1, ecn, Nat.succ_mul, Nat.add_assoc]
theorem c_W_go {d t dd c : Nat} {h : Hp} {S : Hs} {b L f s : Nat → Nat} (hws : WS h S b L dd f s c) (hok : WO S b L) (hpm : PM (sn S) f) (hdd : dd + t < 2 ^ 30) :
    RT mX6_go (d + 4) [.ref 60, .int (nI t)] h (fun v h' => v = none ∧ WS h' S b L (dd + t) (rmF S b L dd f t) (fun i => s i + sunF S b L dd f i t) (c + coldF S b L dd f t) ∧ FW6 h h') := by
  have hLs : ∀ q, q < sn S → L q < sn S := fun q hq => (hok.2 q hq).2
  have loop : ∀ u g q hh, g + u = t → q ≤ g → WS hh S b L (dd + g) (rmF S b L dd f g) (fun i => s i + sunF S b L dd f i g) (c + coldF S b L dd f g) → FW6 h hh → AW mX6_go (d + 4) 4 [some (.ref 60), some (.int (nI t)), some (.int (nI g)), some (.int (nI q)), none] [] hh (fun v h' => v = none ∧ WS h' S b L (dd + t) (rmF S b L dd f t) (fun i => s i + sunF S b L dd f i t) (c + coldF S b L dd f t) ∧ FW6 h h') := by
    intro u
    induction u using Nat.strongRecOn with
    | ind u ih =>
      intro g q hh hg hq hw1 hf1
      by_cases hu : u = 0
      · have eg : g = t := by omega
        subst eg
        refine aw_iload_n dX6_go_4 rfl rfl ?_
        refine aw_iload_n dX6_go_5 rfl rfl ?_
        refine aw_icmp_geN (tgt := 56) dX6_go_6 (by decide) (by omega) (by omega) (fun c6 => ?_) (fun c6 => ?_)
        · refine aw_vret dX6_go_56 rfl ?_
          exact ⟨rfl, hw1, hf1⟩
        · refine aw_iload_n dX6_go_9 rfl rfl ?_
          refine aw_iload_n dX6_go_10 rfl rfl ?_
          refine aw_icmp_geN (tgt := 56) dX6_go_11 (by decide) (by omega) (by omega) (fun _ => ?_) (fun q => absurd q (by omega))
          refine aw_vret dX6_go_56 rfl ?_
          exact ⟨rfl, hw1, hf1⟩
      · have hpg := PM_rmF (b := b) (day0 := dd) hok.1 hLs hpm g
        have hpc := PM_chR (b := b) (day := dd + g) hok.1 hLs hpg (sn S) (Nat.le_refl _)
        refine aw_iload_n dX6_go_4 rfl rfl ?_
        refine aw_iload_n dX6_go_5 rfl rfl ?_
        refine aw_icmp_geN (tgt := 56) dX6_go_6 (by decide) (by omega) (by omega) (fun q => absurd q (by omega)) (fun _ => ?_)
        refine aw_iload_n dX6_go_9 rfl rfl ?_
        refine aw_iload_n dX6_go_10 rfl rfl ?_
        refine aw_icmp_geN (tgt := 56) dX6_go_11 (by decide) (by omega) (by omega) (fun q => absurd q (by omega)) (fun _ => ?_)
        refine aw_aload_n dX6_go_14 rfl rfl ?_
        refine aw_callV dX6_go_15 kX6_64 (c_W_changeRooms hw1 hok hpg (by omega)) (by first | assumption | rfl) rfl rfl rfl (Nat.le_of_ble_eq_true rfl) (Nat.le_of_ble_eq_true rfl) ?_
        rintro _ h2 ⟨rfl, hw2, hf2⟩
        dsimp only [Option.toList, List.cons_append, List.nil_append, Nat.reduceAdd]
        refine aw_iload_n dX6_go_18 rfl rfl ?_
        refine aw_iload_n dX6_go_19 rfl rfl ?_
        refine aw_isubN dX6_go_20 (by omega) ?_
        refine aw_aload_n dX6_go_21 rfl rfl ?_
        refine aw_callV dX6_go_22 kX6_67 (c_W_daysAlike hw2 hok (by omega)) (by first | assumption | rfl) rfl rfl rfl (Nat.le_of_ble_eq_true rfl) (Nat.le_of_ble_eq_true rfl) ?_
        rintro _ h3 ⟨al, rfl, ha1, ha2, ha3, e3h⟩
        dsimp only [Option.toList, List.cons_append, List.nil_append, Nat.reduceAdd]
        rw [e3h]
        obtain ⟨m, hm⟩ : ∃ m, m = min (t - g) al := ⟨_, rfl⟩
        refine aw_mminN dX6_go_25 kX6_70 (by omega) (by omega) (Nat.le_of_ble_eq_true rfl) ?_
        rw [← hm]
        have hm1 : 1 ≤ m := by omega
        have hm2 : m ≤ al := by omega
        obtain ⟨s1, s2, s3⟩ := stretch (f := f) hok ha2 ha3 m hm1 hm2
        refine aw_istore dX6_go_28 (Nat.le_of_ble_eq_true rfl) rfl ?_
        dsimp only [List.set]
        refine aw_aload_n dX6_go_30 rfl rfl ?_
        refine aw_iload dX6_go_31 rfl ?_
        refine aw_callV dX6_go_33 kX6_76 (c_W_countDays hw2 hok hpc (by omega)) (by first | assumption | rfl) rfl rfl rfl (Nat.le_of_ble_eq_true rfl) (Nat.le_of_ble_eq_true rfl) ?_
        rintro _ h4 ⟨rfl, hw4, hf4⟩
        dsimp only [Option.toList, List.cons_append, List.nil_append, Nat.reduceAdd]
        refine aw_aload_n dX6_go_36 rfl rfl ?_
        refine aw_getR dX6_go_37 fX6_12 (by first | assumption | rfl) (by rfl) ?_
        refine aw_iload dX6_go_40 rfl ?_
        refine aw_callVF dX6_go_42 kX6_80 (c_S_addDays (by first | assumption | exact ⟨rfl, rfl, rfl⟩)) (by first | assumption | rfl) rfl rfl rfl (Nat.le_of_ble_eq_true rfl) (Nat.le_of_ble_eq_true rfl) ?_
        dsimp only [Option.toList, List.cons_append, List.nil_append, Nat.reduceAdd]
        refine aw_iload_n dX6_go_45 rfl rfl ?_
        refine aw_iload dX6_go_46 rfl ?_
        refine aw_iaddN dX6_go_48 ?_
        refine aw_istore_n dX6_go_49 rfl (Nat.le_of_ble_eq_true rfl) rfl ?_
        dsimp only [List.set]
        refine aw_iincN (v := 1) dX6_go_50 rfl rfl ?_
        dsimp only [List.set]
        refine aw_goto (tgt := 4) dX6_go_53 (by decide) ?_
        refine aw_forget 4 ?_
        dsimp only [List.set]
        have hw5 : WS (hw h4 61 2 (h4 61 2 + m)) S b L (dd + (g + m)) (rmF S b L dd f (g + m)) (fun i => s i + sunF S b L dd f i (g + m)) (c + coldF S b L dd f (g + m)) := by
          obtain ⟨x1, x2, x3, x4⟩ := hw4
          have hf5 : FW6 h4 (hw h4 61 2 (h4 61 2 + m)) := fun o ho => hw_ne (by omega)
          refine ⟨x1.fr hf5, by rw [hw_at, if_pos rfl, x2, Nat.add_assoc], by rw [hw_ne (by decide), x3, s3, Nat.add_assoc], fun i hi => ?_⟩
          have y := x4 i hi
          dsimp only at y ⊢
          rw [hw_ne (a := 62) (by decide), hw_ne (a := 63) (by decide), hw_ne (a := 64) (by decide), hw_ne (a := 65) (by decide), s1, s2]
          refine ⟨y.1, y.2.1, y.2.2.1, ?_⟩
          rw [y.2.2.2, Nat.add_assoc]
        exact ih (u - m) (by omega) (g + m) (q + 1) _ (by omega) (by omega) hw5 (((hf1.trans hf2).trans hf4).trans (fun o ho => hw_ne (by omega)))
  change AW mX6_go _ 0 [some (.ref 60), some (.int (nI t)), none, none, none] [] h _
  refine aw_iconst (v := nI 0) dX6_go_0 (by decide) ?_
  refine aw_istore_n dX6_go_1 rfl (Nat.le_of_ble_eq_true rfl) rfl ?_
  dsimp only [List.set]
  refine aw_iconst (v := nI 0) dX6_go_2 (by decide) ?_
  refine aw_istore_n dX6_go_3 rfl (Nat.le_of_ble_eq_true rfl) rfl ?_
  dsimp only [List.set]
  refine loop t 0 0 h (by omega) (Nat.le_refl _) ?_ (fun o _ => rfl)
  exact hws
end
section
/-! THE LIST: places by birthday; makeList sorts by insertion -/
def bef (b : Nat → Nat) (j k : Nat) : Prop := b j < b k ∨ (b j = b k ∧ j < k)
def rkc (b : Nat → Nat) (j : Nat) : Nat → Nat
  | 0 => 0
  | m + 1 => rkc b j m + if b m < b j ∨ (b m = b j ∧ m < j) then 1 else 0
theorem rkc_s (b : Nat → Nat) (j m : Nat) : rkc b j (m + 1) = rkc b j m + if b m < b j ∨ (b m = b j ∧ m < j) then 1 else 0 := rfl
theorem rk_mono {b : Nat → Nat} {j k : Nat} (hjk : bef b j k) : ∀ m, rkc b j m + (if j < m then 1 else 0) ≤ rkc b k m := by
  intro m
  unfold bef at hjk
  induction m with
  | zero => simp [rkc]
  | succ m ih =>
    rw [rkc_s, rkc_s]
    by_cases h1 : b m < b j ∨ (b m = b j ∧ m < j)
    · rw [if_pos h1, if_pos (show b m < b k ∨ (b m = b k ∧ m < k) by omega)]
      have hmj : ¬ m = j := by
        intro e9
        rw [e9] at h1
        omega
      by_cases h2 : j < m
      · rw [if_pos h2] at ih; rw [if_pos (by omega)]; omega
      · rw [if_neg h2] at ih; rw [if_neg (by omega)]; omega
    · rw [if_neg h1]
      by_cases h3 : m = j
      · subst h3
        rw [if_neg (by omega)] at ih
        rw [if_pos (by omega), if_pos hjk]
        omega
      · by_cases h2 : j < m
        · rw [if_pos h2] at ih
          rw [if_pos (by omega)]
          split <;> omega
        · rw [if_neg h2] at ih
          rw [if_neg (by omega)]
          split <;> omega
theorem rk_lt {b : Nat → Nat} {j k n : Nat} (hjk : bef b j k) (hj : j < n) : rkc b j n < rkc b k n := by
  have := rk_mono hjk n
  rw [if_pos hj] at this
  omega
theorem rk_inj {b : Nat → Nat} {j k n : Nat} (hj : j < n) (hk : k < n) (he : rkc b j n = rkc b k n) : j = k := by
  by_cases h1 : bef b j k
  · have := rk_lt h1 hj; omega
  · by_cases h2 : bef b k j
    · have := rk_lt h2 hk; omega
    · unfold bef at h1 h2; omega
theorem rk_le (b : Nat → Nat) (j : Nat) : ∀ m, rkc b j m ≤ m := by
  intro m
  induction m with
  | zero => exact Nat.le_refl _
  | succ m ih =>
    rw [rkc_s]
    split <;> omega
/-- a list of the first n by birthday -/
def SR (n : Nat) (b l : Nat → Nat) : Prop := ∀ p, p < n → l p < n ∧ rkc b (l p) n = p
theorem SR_ins {i p : Nat} {b l l2 : Nat → Nat} (hl : SR i b l) (hp : p ≤ i) (h0 : p = 0 ∨ b (l (p - 1)) ≤ b i) (h1 : ∀ x, p ≤ x → x < i → b i < b (l x)) (g1 : ∀ x, x < p → l2 x = l x) (g2 : l2 p = i) (g3 : ∀ x, p < x → x ≤ i → l2 x = l (x - 1)) : SR (i + 1) b l2 := by
  intro x hx
  by_cases c1 : x < p
  · obtain ⟨q1, q2⟩ := hl x (by omega)
    rw [g1 x c1]
    refine ⟨by omega, ?_⟩
    have hneg : ¬ (b i < b (l x) ∨ (b i = b (l x) ∧ i < l x)) := by
      rintro (z | ⟨z, _⟩)
      · obtain ⟨r1, r2⟩ := hl (p - 1) (by omega)
        have hb : bef b (l (p - 1)) (l x) := Or.inl (by omega)
        have := rk_lt hb r1
        omega
      · omega
    rw [rkc_s, q2, if_neg hneg, Nat.add_zero]
  · by_cases c2 : x = p
    · subst c2
      rw [g2]
      refine ⟨by omega, ?_⟩
      rw [rkc_s, if_neg (by omega)]
      have lo : x ≤ rkc b i i := by
        rcases Nat.eq_zero_or_pos x with z | z
        · omega
        · obtain ⟨r1, r2⟩ := hl (x - 1) (by omega)
          have hb : bef b (l (x - 1)) i := by
            unfold bef
            omega
          have := rk_lt hb r1
          omega
      have hi : rkc b i i ≤ x := by
        by_cases z : x = i
        · rw [z]; exact rk_le b i i
        · obtain ⟨r1, r2⟩ := hl x (by omega)
          have := rk_mono (show bef b i (l x) from Or.inl (h1 x (by omega) (by omega))) i
          rw [if_neg (by omega)] at this
          omega
      omega
    · obtain ⟨q1, q2⟩ := hl (x - 1) (by omega)
      rw [g3 x (by omega) (by omega)]
      refine ⟨by omega, ?_⟩
      rw [rkc_s, q2, if_pos (Or.inl (h1 (x - 1) (by omega) (by omega)))]
      omega
theorem SR_ex (b : Nat → Nat) : ∀ n, ∃ l, SR n b l := by
  intro n
  induction n with
  | zero => exact ⟨fun _ => 0, fun p hp => by omega⟩
  | succ i ih =>
    obtain ⟨l, hl⟩ := ih
    have hex : ∃ p, p ≤ i ∧ (p = 0 ∨ b (l (p - 1)) ≤ b i) ∧ ∀ x, p ≤ x → x < i → b i < b (l x) := by
      have : ∀ t, t ≤ i → (∀ x, t ≤ x → x < i → b i < b (l x)) → ∃ p, p ≤ i ∧ (p = 0 ∨ b (l (p - 1)) ≤ b i) ∧ ∀ x, p ≤ x → x < i → b i < b (l x) := by
        intro t
        induction t with
        | zero => intro h1 h2; exact ⟨0, by omega, Or.inl rfl, h2⟩
        | succ t iht =>
          intro h1 h2
          by_cases hc : b (l t) ≤ b i
          · exact ⟨t + 1, h1, Or.inr hc, h2⟩
          · refine iht (by omega) (fun x h3 h4 => ?_)
            by_cases z : x = t
            · subst z; omega
            · exact h2 x (by omega) h4
      exact this i (Nat.le_refl _) (fun x h1 h2 => by omega)
    obtain ⟨p, h1, h2, h3⟩ := hex
    refine ⟨fun x => if x < p then l x else if x = p then i else l (x - 1), SR_ins hl h1 h2 h3 (fun x hx => by rw [if_pos hx]) (by rw [if_neg (by omega), if_pos rfl]) (fun x hx _ => by rw [if_neg (by omega), if_neg (by omega)])⟩
/-- THE LIST -/
def lsB (n : Nat) (b : Nat → Nat) (p : Nat) : Nat := own (fun j => rkc b j n) p n 0
theorem own_spec {f : Nat → Nat} {r : Nat} : ∀ t k j, k ≤ j → j < k + t → f j = r → (∀ i, k ≤ i → i < k + t → f i = r → i = j) → own f r t k = j := by
  intro t
  induction t with
  | zero => intro k j h1 h2; omega
  | succ t ih =>
    intro k j h1 h2 h3 h4
    unfold own
    by_cases hk : f k = r
    · rw [if_pos hk]; exact h4 k (Nat.le_refl _) (by omega) hk
    · rw [if_neg hk]
      refine ih (k + 1) j ?_ (by omega) h3 (fun i g1 g2 g3 => h4 i (by omega) (by omega) g3)
      by_cases z : j = k
      · subst z; exact absurd h3 hk
      · omega
theorem lsB_of {n p j : Nat} {b : Nat → Nat} (hj : j < n) (he : rkc b j n = p) : lsB n b p = j :=
  own_spec n 0 j (Nat.zero_le _) (by omega) he (fun i _ h2 h3 => rk_inj (by omega) hj (h3.trans he.symm))
theorem lsB_SR {n : Nat} {b l : Nat → Nat} (hl : SR n b l) {p : Nat} (hp : p < n) : l p = lsB n b p := (lsB_of (hl p hp).1 (hl p hp).2).symm
theorem lsB_ok {n : Nat} {b : Nat → Nat} : SR n b (lsB n b) := by
  obtain ⟨l, hl⟩ := SR_ex b n
  intro p hp
  rw [← lsB_SR hl hp]
  exact hl p hp
theorem c_W_makeList {d dd : Nat} {h : Hp} {S : Hs} {b : Nat → Nat} (hx : HX h S) (hS : HsOk S) (hb : ∀ i, i < sn S → h 63 i = b i ∧ b i < 60) :
    RT mX6_makeList (d + 2) [.ref 60] h (fun v h' => v = none ∧ (∀ p, p < sn S → h' 64 p = lsB (sn S) b p) ∧ ∀ o, o ≠ 64 → h' o = h o) := by
  have h38 := hS.2.1
  have inner : ∀ p i l hh, i < sn S → p ≤ i → SR i b l → (∀ o, o ≠ 64 → hh o = h o) → (∀ x, x < p → hh 64 x = l x) → (∀ x, p < x → x ≤ i → hh 64 x = l (x - 1)) → (∀ x, p ≤ x → x < i → b i < b (l x)) →
      (∀ h2, (∀ o, o ≠ 64 → h2 o = h o) → SR (i + 1) b (h2 64) → AW mX6_makeList (d + 2) 2 [some (.ref 60), some (.int (nI (i + 1))), none] [] h2 (fun v h' => v = none ∧ (∀ p, p < sn S → h' 64 p = lsB (sn S) b p) ∧ ∀ o, o ≠ 64 → h' o = h o)) →
      AW mX6_makeList (d + 2) 15 [some (.ref 60), some (.int (nI i)), some (.int (nI p))] [] hh (fun v h' => v = none ∧ (∀ p, p < sn S → h' 64 p = lsB (sn S) b p) ∧ ∀ o, o ≠ 64 → h' o = h o) := by
    intro p
    induction p with
    | zero =>
      intro i l hh hi hpi hl hfr g1 g3 g4 kk
      refine aw_iload_n dX6_makeList_15 rfl rfl ?_
      refine aw_if_leN (tgt := 71) dX6_makeList_16 (by decide) (by omega) (fun _ => ?_) (fun q => absurd q (by omega))
      refine aw_aload_n dX6_makeList_71 rfl rfl ?_
      refine aw_getR dX6_makeList_72 fX6_18 (by first | assumption | rfl) (by rfl) ?_
      refine aw_iload_n dX6_makeList_75 rfl rfl ?_
      refine aw_iload_n dX6_makeList_76 rfl rfl ?_
      refine aw_callSF dX6_makeList_77 kX6_89 (c_put (by first | assumption | rfl) (by omega) (by decide)) rfl rfl rfl (Nat.le_of_ble_eq_true rfl) (Nat.le_of_ble_eq_true rfl) ?_
      dsimp only [Option.toList, List.cons_append, List.nil_append, Nat.reduceAdd]
      refine aw_iincN (v := 1) dX6_makeList_80 rfl rfl ?_
      dsimp only [List.set]
      refine aw_goto (tgt := 2) dX6_makeList_83 (by decide) ?_
      refine aw_forget 2 ?_
      dsimp only [List.set]
      refine kk _ (fun o ho => by rw [hw_ne ho]; exact hfr o ho) ?_
      refine SR_ins hl hpi (Or.inl rfl) g4 (fun x hx => by omega) (by rw [hw_at, if_pos rfl]) (fun x hx1 hx2 => by rw [hw_at, if_neg (by omega)]; exact g3 x hx1 hx2)
    | succ p ih =>
      intro i l hh hi hpi hl hfr g1 g3 g4 kk
      have el : hh 64 p = l p := g1 p (by omega)
      have hlp := hl p (by omega)
      have e1 := hb (l p) (by omega)
      have e2 := hb i hi
      have e3 : hh 63 = h 63 := hfr 63 (by decide)
      refine aw_iload_n dX6_makeList_15 rfl rfl ?_
      refine aw_if_leN (tgt := 71) dX6_makeList_16 (by decide) (by omega) (fun q => absurd q (by omega)) (fun _ => ?_)
      refine aw_aload_n dX6_makeList_19 rfl rfl ?_
      refine aw_getR dX6_makeList_20 fX6_12 (by first | assumption | rfl) (by rfl) ?_
      refine aw_aload_n dX6_makeList_23 rfl rfl ?_
      refine aw_getR dX6_makeList_24 fX6_18 (by first | assumption | rfl) (by rfl) ?_
      refine aw_iload_n dX6_makeList_27 rfl rfl ?_
      refine aw_iconst (v := nI 1) dX6_makeList_28 (by decide) ?_
      refine aw_isubN dX6_makeList_29 (by omega) ?_
      rw [Nat.add_sub_cancel]
      refine aw_callSF dX6_makeList_30 kX6_43 (c_at (by first | assumption | rfl) (by omega) (by decide)) rfl rfl rfl (Nat.le_of_ble_eq_true rfl) (Nat.le_of_ble_eq_true rfl) ?_
      dsimp only [Option.toList, List.cons_append, List.nil_append, Nat.reduceAdd]
      rw [el]
      refine aw_callVF dX6_makeList_33 kX6_86 (c_S_birthdayOf (by first | assumption | exact ⟨rfl, rfl, rfl⟩) (by omega)) (by first | assumption | rfl) rfl rfl rfl (Nat.le_of_ble_eq_true rfl) (Nat.le_of_ble_eq_true rfl) ?_
      dsimp only [Option.toList, List.cons_append, List.nil_append, Nat.reduceAdd]
      refine aw_aload_n dX6_makeList_36 rfl rfl ?_
      refine aw_getR dX6_makeList_37 fX6_12 (by first | assumption | rfl) (by rfl) ?_
      refine aw_iload_n dX6_makeList_40 rfl rfl ?_
      refine aw_callVF dX6_makeList_41 kX6_86 (c_S_birthdayOf (by first | assumption | exact ⟨rfl, rfl, rfl⟩) (by omega)) (by first | assumption | rfl) rfl rfl rfl (Nat.le_of_ble_eq_true rfl) (Nat.le_of_ble_eq_true rfl) ?_
      dsimp only [Option.toList, List.cons_append, List.nil_append, Nat.reduceAdd]
      rw [e3, e1.1, e2.1]
      refine aw_icmp_leN (tgt := 71) dX6_makeList_44 (by decide) (by omega) (by omega) (fun c44 => ?_) (fun c44 => ?_)
      · refine aw_aload_n dX6_makeList_71 rfl rfl ?_
        refine aw_getR dX6_makeList_72 fX6_18 (by first | assumption | rfl) (by rfl) ?_
        refine aw_iload_n dX6_makeList_75 rfl rfl ?_
        refine aw_iload_n dX6_makeList_76 rfl rfl ?_
        refine aw_callSF dX6_makeList_77 kX6_89 (c_put (by first | assumption | rfl) (by omega) (by decide)) rfl rfl rfl (Nat.le_of_ble_eq_true rfl) (Nat.le_of_ble_eq_true rfl) ?_
        dsimp only [Option.toList, List.cons_append, List.nil_append, Nat.reduceAdd]
        refine aw_iincN (v := 1) dX6_makeList_80 rfl rfl ?_
        dsimp only [List.set]
        refine aw_goto (tgt := 2) dX6_makeList_83 (by decide) ?_
        refine aw_forget 2 ?_
        dsimp only [List.set]
        refine kk _ (fun o ho => by rw [hw_ne ho]; exact hfr o ho) ?_
        refine SR_ins hl hpi (Or.inr (by rw [Nat.add_sub_cancel]; omega)) g4 (fun x hx => by rw [hw_at, if_neg (by omega)]; exact g1 x hx) (by rw [hw_at, if_pos rfl]) (fun x hx1 hx2 => by rw [hw_at, if_neg (by omega)]; exact g3 x hx1 hx2)
      · refine aw_aload_n dX6_makeList_47 rfl rfl ?_
        refine aw_getR dX6_makeList_48 fX6_18 (by first | assumption | rfl) (by rfl) ?_
        refine aw_iload_n dX6_makeList_51 rfl rfl ?_
        refine aw_aload_n dX6_makeList_52 rfl rfl ?_
        refine aw_getR dX6_makeList_53 fX6_18 (by first | assumption | rfl) (by rfl) ?_
        refine aw_iload_n dX6_makeList_56 rfl rfl ?_
        refine aw_iconst (v := nI 1) dX6_makeList_57 (by decide) ?_
        refine aw_isubN dX6_makeList_58 (by omega) ?_
        rw [Nat.add_sub_cancel]
        refine aw_callSF dX6_makeList_59 kX6_43 (c_at (by first | assumption | rfl) (by omega) (by decide)) rfl rfl rfl (Nat.le_of_ble_eq_true rfl) (Nat.le_of_ble_eq_true rfl) ?_
        dsimp only [Option.toList, List.cons_append, List.nil_append, Nat.reduceAdd]
        rw [el]
        refine aw_callSF dX6_makeList_62 kX6_89 (c_put (by first | assumption | rfl) (by omega) (by decide)) rfl rfl rfl (Nat.le_of_ble_eq_true rfl) (Nat.le_of_ble_eq_true rfl) ?_
        dsimp only [Option.toList, List.cons_append, List.nil_append, Nat.reduceAdd]
        refine aw_iincM dX6_makeList_65 rfl (by omega) rfl ?_
        dsimp only [List.set]
        refine aw_goto (tgt := 15) dX6_makeList_68 (by decide) ?_
        rw [Nat.add_sub_cancel]
        refine ih i l _ hi (by omega) hl (fun o ho => by rw [hw_ne ho]; exact hfr o ho) (fun x hx => by rw [hw_at, if_neg (by omega)]; exact g1 x (by omega)) (fun x hx1 hx2 => ?_) (fun x hx1 hx2 => ?_) kk
        · rw [hw_at]
          by_cases z : x = p + 1
          · subst z; rw [if_pos rfl, Nat.add_sub_cancel]
          · rw [if_neg z]; exact g3 x (by omega) hx2
        · by_cases z : x = p
          · subst z; omega
          · exact g4 x (by omega) hx2
  have outer : ∀ u i hh, i + u = sn S → (∀ o, o ≠ 64 → hh o = h o) → SR i b (hh 64) → AW mX6_makeList (d + 2) 2 [some (.ref 60), some (.int (nI i)), none] [] hh (fun v h' => v = none ∧ (∀ p, p < sn S → h' 64 p = lsB (sn S) b p) ∧ ∀ o, o ≠ 64 → h' o = h o) := by
    intro u
    induction u with
    | zero =>
      intro i hh hi hfr hl
      have ei : i = sn S := by omega
      subst ei
      have e4 : hh 4 5 = sn S := by rw [hfr 4 (by decide)]; exact hx.1
      refine aw_iload_n dX6_makeList_2 rfl rfl ?_
      refine aw_aload_n dX6_makeList_3 rfl rfl ?_
      refine aw_getR dX6_makeList_4 fX6_25 (by first | assumption | rfl) (by rfl) ?_
      refine aw_callVF dX6_makeList_7 kX6_47 (c_P_cousins) (by first | assumption | rfl) rfl rfl rfl (Nat.le_of_ble_eq_true rfl) (Nat.le_of_ble_eq_true rfl) ?_
      dsimp only [Option.toList, List.cons_append, List.nil_append, Nat.reduceAdd]
      rw [e4]
      refine aw_icmp_geN (tgt := 86) dX6_makeList_10 (by decide) (by omega) (by omega) (fun _ => ?_) (fun q => absurd q (by omega))
      refine aw_vret dX6_makeList_86 rfl ?_
      exact ⟨rfl, fun p hp => lsB_SR hl hp, hfr⟩
    | succ u ih =>
      intro i hh hi hfr hl
      have e4 : hh 4 5 = sn S := by rw [hfr 4 (by decide)]; exact hx.1
      refine aw_iload_n dX6_makeList_2 rfl rfl ?_
      refine aw_aload_n dX6_makeList_3 rfl rfl ?_
      refine aw_getR dX6_makeList_4 fX6_25 (by first | assumption | rfl) (by rfl) ?_
      refine aw_callVF dX6_makeList_7 kX6_47 (c_P_cousins) (by first | assumption | rfl) rfl rfl rfl (Nat.le_of_ble_eq_true rfl) (Nat.le_of_ble_eq_true rfl) ?_
      dsimp only [Option.toList, List.cons_append, List.nil_append, Nat.reduceAdd]
      rw [e4]
      refine aw_icmp_geN (tgt := 86) dX6_makeList_10 (by decide) (by omega) (by omega) (fun q => absurd q (by omega)) (fun _ => ?_)
      refine aw_iload_n dX6_makeList_13 rfl rfl ?_
      refine aw_istore_n dX6_makeList_14 rfl (Nat.le_of_ble_eq_true rfl) rfl ?_
      dsimp only [List.set]
      exact inner i i (hh 64) hh (by omega) (Nat.le_refl _) hl hfr (fun x _ => rfl) (fun x h1 h2 => by omega) (fun x h1 h2 => by omega) (fun h2 q1 q2 => ih (i + 1) h2 (by omega) q1 q2)
  change AW mX6_makeList _ 0 [some (.ref 60), none, none] [] h _
  refine aw_iconst (v := nI 0) dX6_makeList_0 (by decide) ?_
  refine aw_istore_n dX6_makeList_1 rfl (Nat.le_of_ble_eq_true rfl) rfl ?_
  dsimp only [List.set]
  exact outer (sn S) 0 h (by omega) (fun o _ => rfl) (fun p hp => by omega)
theorem c_W_clearCounts {d : Nat} {h : Hp} : RT mX6_clearCounts d [.ref 60] h (fun v h' => v = none ∧ h' 60 4 = 0 ∧ (∀ i, i < 8 → h' 65 i = 0) ∧ ∀ o, o ≠ 60 → o ≠ 65 → h' o = h o) := by
  have loop : ∀ u k hh, k + u = 8 → hh 60 4 = 0 → (∀ i, i < k → hh 65 i = 0) → (∀ o, o ≠ 60 → o ≠ 65 → hh o = h o) → AW mX6_clearCounts d 7 [some (.ref 60), some (.int (nI k))] [] hh (fun v h' => v = none ∧ h' 60 4 = 0 ∧ (∀ i, i < 8 → h' 65 i = 0) ∧ ∀ o, o ≠ 60 → o ≠ 65 → h' o = h o) := by
    intro u
    induction u with
    | zero =>
      intro k hh hk g1 g2 g3
      have ek : k = 8 := by omega
      subst ek
      refine aw_iload_n dX6_clearCounts_7 rfl rfl ?_
      refine aw_aload_n dX6_clearCounts_8 rfl rfl ?_
      refine aw_getR dX6_clearCounts_9 fX6_22 (by first | assumption | rfl) (by rfl) ?_
      refine aw_alen dX6_clearCounts_12 (by first | assumption | rfl) ?_
      refine aw_icmp_geN (tgt := 29) dX6_clearCounts_13 (by decide) (by omega) (by omega) (fun _ => ?_) (fun q => absurd q (by omega))
      refine aw_vret dX6_clearCounts_29 rfl ?_
      exact ⟨rfl, g1, g2, g3⟩
    | succ u ih =>
      intro k hh hk g1 g2 g3
      refine aw_iload_n dX6_clearCounts_7 rfl rfl ?_
      refine aw_aload_n dX6_clearCounts_8 rfl rfl ?_
      refine aw_getR dX6_clearCounts_9 fX6_22 (by first | assumption | rfl) (by rfl) ?_
      refine aw_alen dX6_clearCounts_12 (by first | assumption | rfl) ?_
      refine aw_icmp_geN (tgt := 29) dX6_clearCounts_13 (by decide) (by omega) (by omega) (fun q => absurd q (by omega)) (fun _ => ?_)
      refine aw_aload_n dX6_clearCounts_16 rfl rfl ?_
      refine aw_getR dX6_clearCounts_17 fX6_22 (by first | assumption | rfl) (by rfl) ?_
      refine aw_iload_n dX6_clearCounts_20 rfl rfl ?_
      refine aw_iconst (v := nI 0) dX6_clearCounts_21 (by decide) ?_
      refine aw_iastore dX6_clearCounts_22 (by first | assumption | rfl) (by omega) (by omega) ?_
      refine aw_iincN (v := 1) dX6_clearCounts_23 rfl rfl ?_
      dsimp only [List.set]
      refine aw_goto (tgt := 7) dX6_clearCounts_26 (by decide) ?_
      refine ih (k + 1) _ (by omega) (by rw [hw_ne (by decide)]; exact g1) (fun i hi => ?_) (fun o q1 q2 => by rw [hw_ne q2]; exact g3 o q1 q2)
      rw [hw_at]
      split
      · rfl
      · exact g2 i (by omega)
  change AW mX6_clearCounts _ 0 [some (.ref 60), none] [] h _
  refine aw_aload_n dX6_clearCounts_0 rfl rfl ?_
  refine aw_iconst (v := nI 0) dX6_clearCounts_1 (by decide) ?_
  refine aw_putfield dX6_clearCounts_2 gX6_53 (by first | assumption | rfl) (by rfl) ?_
  refine aw_iconst (v := nI 0) dX6_clearCounts_5 (by decide) ?_
  refine aw_istore_n dX6_clearCounts_6 rfl (Nat.le_of_ble_eq_true rfl) rfl ?_
  dsimp only [List.set]
  exact loop 8 0 _ (by omega) (by rw [hw_at, if_pos rfl]) (fun i hi => by omega) (fun o q1 _ => hw_ne q1)
end
section
/-! Walk: begin, beginWith, readings -/
theorem hcp_ne {h : Hp} {a b n o : Nat} (hne : o ≠ b) : hcp h a b n o = h o := by
  funext j
  simp [hcp, hne]
theorem hcp_at {h : Hp} {a b n j : Nat} (hj : j < n) : hcp h a b n b j = h a j := by
  simp [hcp, hj]
theorem hcs_0 {h : Hp} {p o : Nat} : hcs h p o o 2 = h p 2 := by
  unfold hcs
  rw [hcp_ne (by omega), hcp_ne (by omega), hw_at, if_pos rfl]
theorem hcs_1 {h : Hp} {p o j : Nat} (hne : p + 2 < o ∨ o + 2 < p) (hj : j < 8) : hcs h p o (o + 1) j = h (p + 1) j := by
  unfold hcs
  rw [hcp_ne (by omega), hcp_at hj, hw_ne (by omega)]
theorem hcs_2 {h : Hp} {p o j : Nat} (hne : p + 2 < o ∨ o + 2 < p) (hj : j < 8) : hcs h p o (o + 2) j = h (p + 2) j := by
  unfold hcs
  rw [hcp_at hj, hcp_ne (by omega), hw_ne (by omega)]
theorem hcs_ne {h : Hp} {p o a : Nat} (h0 : a ≠ o) (h1 : a ≠ o + 1) (h2 : a ≠ o + 2) : hcs h p o a = h a := by
  unfold hcs
  rw [hcp_ne h2, hcp_ne h1, hw_ne h0]
/-- standing o holds day dd, birthdays b, rooms f -/
def SV (h : Hp) (n o dd : Nat) (b f : Nat → Nat) : Prop := h o 2 = dd ∧ ∀ i, i < n → h (o + 1) i = f i ∧ h (o + 2) i = b i
theorem c_W_begin {d o dd : Nat} {h : Hp} {S : Hs} {b f : Nat → Nat} (hx : HX h S) (hS : HsOk S) (hv : SV h (sn S) o dd b f) (hb : ∀ i, i < sn S → b i < 60) (ho : SD o) (ho2 : o + 2 < 60) :
    RT mX6_begin (d + 3) [.ref 60, .ref o] h (fun v h' => v = none ∧ WS h' S b (lsB (sn S) b) dd f (fun _ => 0) 0 ∧ FW6 h h') := by
  have h38 := hS.2.1
  change AW mX6_begin _ 0 [some (.ref 60), some (.ref o)] [] h _
  refine aw_aload_n dX6_begin_0 rfl rfl ?_
  refine aw_getR dX6_begin_1 fX6_12 (by first | assumption | rfl) (by rfl) ?_
  refine aw_aload_n dX6_begin_4 rfl rfl ?_
  refine aw_callVF dX6_begin_5 kX6_29 (c_S_copyFrom (by first | assumption | exact ⟨rfl, rfl, rfl⟩) (by first | assumption | exact ⟨rfl, rfl, rfl⟩) (by omega)) (by first | assumption | rfl) rfl rfl rfl (Nat.le_of_ble_eq_true rfl) (Nat.le_of_ble_eq_true rfl) ?_
  dsimp only [Option.toList, List.cons_append, List.nil_append, Nat.reduceAdd]
  refine aw_aload_n dX6_begin_8 rfl rfl ?_
  have f1 : FW6 h (hcs h o 61) := fun q hq => hcs_ne (by omega) (by omega) (by omega)
  have hx1 : HX (hcs h o 61) S := hx.fr f1
  have hb1 : ∀ i, i < sn S → hcs h o 61 63 i = b i ∧ b i < 60 := fun i hi => ⟨by rw [hcs_2 (by omega) (by omega)]; exact (hv.2 i hi).2, hb i hi⟩
  refine aw_callV dX6_begin_9 kX6_33 (c_W_makeList (dd := dd) hx1 hS hb1) (by first | assumption | rfl) rfl rfl rfl (Nat.le_of_ble_eq_true rfl) (Nat.le_of_ble_eq_true rfl) ?_
  rintro _ h2 ⟨rfl, hl2, hf2⟩
  dsimp only [Option.toList, List.cons_append, List.nil_append, Nat.reduceAdd]
  refine aw_aload_n dX6_begin_12 rfl rfl ?_
  refine aw_callV dX6_begin_13 kX6_36 (c_W_clearCounts) (by first | assumption | rfl) rfl rfl rfl (Nat.le_of_ble_eq_true rfl) (Nat.le_of_ble_eq_true rfl) ?_
  rintro _ h3 ⟨rfl, hc3, hs3, hf3⟩
  dsimp only [Option.toList, List.cons_append, List.nil_append, Nat.reduceAdd]
  refine aw_vret dX6_begin_16 rfl ?_
  have f3 : FW6 (hcs h o 61) h3 := fun q hq => by rw [hf3 q (by omega) (by omega), hf2 q (by omega)]
  refine ⟨rfl, ⟨hx1.fr f3, ?_, hc3, fun i hi => ⟨?_, ?_, ?_, hs3 i (by omega)⟩⟩, f1.trans f3⟩
  · rw [hf3 61 (by decide) (by decide), hf2 61 (by decide), hcs_0]; exact hv.1
  · rw [hf3 62 (by decide) (by decide), hf2 62 (by decide), hcs_1 (by omega) (by omega)]; exact (hv.2 i hi).1
  · rw [hf3 63 (by decide) (by decide), hf2 63 (by decide)]; exact (hb1 i hi).1
  · rw [hf3 64 (by decide) (by decide)]; exact hl2 i hi
theorem c_W_beginWith {d o dd i0 x : Nat} {h : Hp} {S : Hs} {b f : Nat → Nat} (hx : HX h S) (hS : HsOk S) (hv : SV h (sn S) o dd b f) (hb : ∀ i, i < sn S → b i < 60) (hi0 : i0 < sn S) (hx0 : x < 60) (ho : SD o) (ho2 : o + 2 < 60) :
    RT mX6_beginWith (d + 3) [.ref 60, .ref o, .int (nI i0), .int (nI x)] h (fun v h' => v = none ∧ WS h' S (fun i => if i = i0 then x else b i) (lsB (sn S) (fun i => if i = i0 then x else b i)) dd f (fun _ => 0) 0 ∧ FW6 h h') := by
  have h38 := hS.2.1
  change AW mX6_beginWith _ 0 [some (.ref 60), some (.ref o), some (.int (nI i0)), some (.int (nI x))] [] h _
  refine aw_aload_n dX6_beginWith_0 rfl rfl ?_
  refine aw_getR dX6_beginWith_1 fX6_12 (by first | assumption | rfl) (by rfl) ?_
  refine aw_aload_n dX6_beginWith_4 rfl rfl ?_
  refine aw_callVF dX6_beginWith_5 kX6_29 (c_S_copyFrom (by first | assumption | exact ⟨rfl, rfl, rfl⟩) (by first | assumption | exact ⟨rfl, rfl, rfl⟩) (by omega)) (by first | assumption | rfl) rfl rfl rfl (Nat.le_of_ble_eq_true rfl) (Nat.le_of_ble_eq_true rfl) ?_
  dsimp only [Option.toList, List.cons_append, List.nil_append, Nat.reduceAdd]
  refine aw_aload_n dX6_beginWith_8 rfl rfl ?_
  refine aw_getR dX6_beginWith_9 fX6_12 (by first | assumption | rfl) (by rfl) ?_
  refine aw_iload_n dX6_beginWith_12 rfl rfl ?_
  refine aw_iload_n dX6_beginWith_13 rfl rfl ?_
  refine aw_callVF dX6_beginWith_14 kX6_39 (c_S_setBirthday (by first | assumption | exact ⟨rfl, rfl, rfl⟩) (by omega)) (by first | assumption | rfl) rfl rfl rfl (Nat.le_of_ble_eq_true rfl) (Nat.le_of_ble_eq_true rfl) ?_
  dsimp only [Option.toList, List.cons_append, List.nil_append, Nat.reduceAdd]
  refine aw_aload_n dX6_beginWith_17 rfl rfl ?_
  have f1 : FW6 h (hw (hcs h o 61) 63 i0 x) := fun q hq => by rw [hw_ne (by omega)]; exact hcs_ne (by omega) (by omega) (by omega)
  have hx1 : HX (hw (hcs h o 61) 63 i0 x) S := hx.fr f1
  have hb1 : ∀ i, i < sn S → hw (hcs h o 61) 63 i0 x 63 i = (if i = i0 then x else b i) ∧ (if i = i0 then x else b i) < 60 := fun i hi => by
    rw [hw_at]
    by_cases z : i = i0
    · rw [if_pos z, if_pos z]; exact ⟨rfl, hx0⟩
    · rw [if_neg z, if_neg z, hcs_2 (by omega) (by omega)]; exact ⟨(hv.2 i hi).2, hb i hi⟩
  refine aw_callV dX6_beginWith_18 kX6_33 (c_W_makeList (dd := dd) hx1 hS hb1) (by first | assumption | rfl) rfl rfl rfl (Nat.le_of_ble_eq_true rfl) (Nat.le_of_ble_eq_true rfl) ?_
  rintro _ h2 ⟨rfl, hl2, hf2⟩
  dsimp only [Option.toList, List.cons_append, List.nil_append, Nat.reduceAdd]
  refine aw_aload_n dX6_beginWith_21 rfl rfl ?_
  refine aw_callV dX6_beginWith_22 kX6_36 (c_W_clearCounts) (by first | assumption | rfl) rfl rfl rfl (Nat.le_of_ble_eq_true rfl) (Nat.le_of_ble_eq_true rfl) ?_
  rintro _ h3 ⟨rfl, hc3, hs3, hf3⟩
  dsimp only [Option.toList, List.cons_append, List.nil_append, Nat.reduceAdd]
  refine aw_vret dX6_beginWith_25 rfl ?_
  have f3 : FW6 (hw (hcs h o 61) 63 i0 x) h3 := fun q hq => by rw [hf3 q (by omega) (by omega), hf2 q (by omega)]
  refine ⟨rfl, ⟨hx1.fr f3, ?_, hc3, fun i hi => ⟨?_, ?_, ?_, hs3 i (by omega)⟩⟩, f1.trans f3⟩
  · rw [hf3 61 (by decide) (by decide), hf2 61 (by decide), hw_ne (by decide), hcs_0]; exact hv.1
  · rw [hf3 62 (by decide) (by decide), hf2 62 (by decide), hw_ne (by decide), hcs_1 (by omega) (by omega)]; exact (hv.2 i hi).1
  · rw [hf3 63 (by decide) (by decide), hf2 63 (by decide)]; exact (hb1 i hi).1
  · rw [hf3 64 (by decide) (by decide)]; exact hl2 i hi
theorem WO_ls {S : Hs} {b : Nat → Nat} (hS : HsOk S) (hb : ∀ i, i < sn S → b i < 60) : WO S b (lsB (sn S) b) := ⟨hS, fun i hi => ⟨hb i hi, (lsB_ok i hi).1⟩⟩
theorem c_W_standing {d : Nat} {h : Hp} : RT mX6_standing d [.ref 60] h (fun v h' => v = some (.ref 61) ∧ h' = h) := by
  change AW mX6_standing _ 0 [some (.ref 60)] [] h _
  refine aw_aload_n dX6_standing_0 rfl rfl ?_
  refine aw_getR dX6_standing_1 fX6_12 (by first | assumption | rfl) (by rfl) ?_
  refine aw_aret dX6_standing_4 rfl (by first | exact Or.inl ⟨_, rfl⟩ | exact Or.inr ⟨_, rfl⟩) (by first | exact Or.inr ⟨_, rfl⟩ | exact Or.inl rfl) ?_
  exact ⟨rfl, rfl⟩
theorem c_W_listed {d p : Nat} {h : Hp} (hp : p < 8) : RT mX6_listed (d + 1) [.ref 60, .int (nI p)] h (fun v h' => v = some (.int (nI (h 64 p))) ∧ h' = h) := by
  change AW mX6_listed _ 0 [some (.ref 60), some (.int (nI p))] [] h _
  refine aw_aload_n dX6_listed_0 rfl rfl ?_
  refine aw_getR dX6_listed_1 fX6_18 (by first | assumption | rfl) (by rfl) ?_
  refine aw_iload_n dX6_listed_4 rfl rfl ?_
  refine aw_callSF dX6_listed_5 kX6_43 (c_at (by first | assumption | rfl) (by omega) (by decide)) rfl rfl rfl (Nat.le_of_ble_eq_true rfl) (Nat.le_of_ble_eq_true rfl) ?_
  dsimp only [Option.toList, List.cons_append, List.nil_append, Nat.reduceAdd]
  refine aw_iret dX6_listed_8 rfl (by first | rfl | exact (pk_charN (by omega)).1 | decide) ?_
  exact ⟨rfl, rfl⟩
theorem c_W_sunTogether {d i : Nat} {h : Hp} (hi : i < 8) : RT mX6_sunTogether (d + 1) [.ref 60, .int (nI i)] h (fun v h' => v = some (.int (nI (h 65 i))) ∧ h' = h) := by
  change AW mX6_sunTogether _ 0 [some (.ref 60), some (.int (nI i))] [] h _
  refine aw_aload_n dX6_sunTogether_0 rfl rfl ?_
  refine aw_getR dX6_sunTogether_1 fX6_22 (by first | assumption | rfl) (by rfl) ?_
  refine aw_iload_n dX6_sunTogether_4 rfl rfl ?_
  refine aw_callSF dX6_sunTogether_5 kX6_43 (c_at (by first | assumption | rfl) (by omega) (by decide)) rfl rfl rfl (Nat.le_of_ble_eq_true rfl) (Nat.le_of_ble_eq_true rfl) ?_
  dsimp only [Option.toList, List.cons_append, List.nil_append, Nat.reduceAdd]
  refine aw_iret dX6_sunTogether_8 rfl (by first | rfl | exact (pk_charN (by omega)).1 | decide) ?_
  exact ⟨rfl, rfl⟩
theorem c_W_coldTogether {d : Nat} {h : Hp} : RT mX6_coldTogether d [.ref 60] h (fun v h' => v = some (.int (nI (h 60 4))) ∧ h' = h) := by
  change AW mX6_coldTogether _ 0 [some (.ref 60)] [] h _
  refine aw_aload_n dX6_coldTogether_0 rfl rfl ?_
  refine aw_getI dX6_coldTogether_1 fX6_53 (by first | assumption | rfl) (by rfl) ?_
  refine aw_iret dX6_coldTogether_4 rfl (by first | rfl | exact (pk_charN (by omega)).1 | decide) ?_
  exact ⟨rfl, rfl⟩
theorem c_W_placeOf {d i dd c : Nat} {h : Hp} {S : Hs} {b f s : Nat → Nat} (hws : WS h S b (lsB (sn S) b) dd f s c) (hok : WO S b (lsB (sn S) b)) (hi : i < sn S) :
    RT mX6_placeOf (d + 1) [.ref 60, .int (nI i)] h (fun v h' => v = some (.int (nI (rkc b i (sn S)))) ∧ h' = h) := by
  obtain ⟨⟨e1, e2, e3⟩, e4, e5, e6⟩ := id hws
  have h38 := hok.1.2.1
  have hrk : rkc b i (sn S) < sn S ∧ lsB (sn S) b (rkc b i (sn S)) = i := by
    refine ⟨?_, lsB_of hi rfl⟩
    have : ∀ m, i < m → rkc b i m < m := by
      intro m
      induction m with
      | zero => intro q; omega
      | succ m im =>
        intro q
        rw [rkc_s]
        by_cases z : i = m
        · subst z
          rw [if_neg (by omega)]
          have := rk_le b i i
          omega
        · have := im (by omega)
          split <;> omega
    exact this _ hi
  have loop : ∀ u p, p + u = rkc b i (sn S) → AW mX6_placeOf (d + 1) 2 [some (.ref 60), some (.int (nI i)), some (.int (nI p))] [] h (fun v h' => v = some (.int (nI (rkc b i (sn S)))) ∧ h' = h) := by
    intro u
    induction u with
    | zero =>
      intro p hp
      have ep : p = rkc b i (sn S) := by omega
      have e64 := (e6 p (by omega)).2.2.1
      rw [ep, hrk.2, ← ep] at e64
      refine aw_iload_n dX6_placeOf_2 rfl rfl ?_
      refine aw_aload_n dX6_placeOf_3 rfl rfl ?_
      refine aw_getR dX6_placeOf_4 fX6_25 (by first | assumption | rfl) (by rfl) ?_
      refine aw_callVF dX6_placeOf_7 kX6_47 (c_P_cousins) (by first | assumption | rfl) rfl rfl rfl (Nat.le_of_ble_eq_true rfl) (Nat.le_of_ble_eq_true rfl) ?_
      dsimp only [Option.toList, List.cons_append, List.nil_append, Nat.reduceAdd]
      rw [e1]
      refine aw_icmp_geN (tgt := 33) dX6_placeOf_10 (by decide) (by omega) (by omega) (fun q => absurd q (by omega)) (fun _ => ?_)
      refine aw_aload_n dX6_placeOf_13 rfl rfl ?_
      refine aw_getR dX6_placeOf_14 fX6_18 (by first | assumption | rfl) (by rfl) ?_
      refine aw_iload_n dX6_placeOf_17 rfl rfl ?_
      refine aw_callSF dX6_placeOf_18 kX6_43 (c_at (by first | assumption | rfl) (by omega) (by decide)) rfl rfl rfl (Nat.le_of_ble_eq_true rfl) (Nat.le_of_ble_eq_true rfl) ?_
      dsimp only [Option.toList, List.cons_append, List.nil_append, Nat.reduceAdd]
      rw [e64]
      refine aw_iload_n dX6_placeOf_21 rfl rfl ?_
      refine aw_icmp_neN (tgt := 27) dX6_placeOf_22 (by decide) (by omega) (by omega) (fun q => absurd q (by omega)) (fun _ => ?_)
      refine aw_iload_n dX6_placeOf_25 rfl rfl ?_
      refine aw_iret dX6_placeOf_26 rfl (by first | rfl | exact (pk_charN (by omega)).1 | decide) ?_
      rw [ep]
      exact ⟨rfl, rfl⟩
    | succ u ih =>
      intro p hp
      have e64 := (e6 p (by omega)).2.2.1
      have hl := lsB_ok (b := b) p (show p < sn S by omega)
      have hne : lsB (sn S) b p ≠ i := fun z => by
        rw [z] at hl
        omega
      refine aw_iload_n dX6_placeOf_2 rfl rfl ?_
      refine aw_aload_n dX6_placeOf_3 rfl rfl ?_
      refine aw_getR dX6_placeOf_4 fX6_25 (by first | assumption | rfl) (by rfl) ?_
      refine aw_callVF dX6_placeOf_7 kX6_47 (c_P_cousins) (by first | assumption | rfl) rfl rfl rfl (Nat.le_of_ble_eq_true rfl) (Nat.le_of_ble_eq_true rfl) ?_
      dsimp only [Option.toList, List.cons_append, List.nil_append, Nat.reduceAdd]
      rw [e1]
      refine aw_icmp_geN (tgt := 33) dX6_placeOf_10 (by decide) (by omega) (by omega) (fun q => absurd q (by omega)) (fun _ => ?_)
      refine aw_aload_n dX6_placeOf_13 rfl rfl ?_
      refine aw_getR dX6_placeOf_14 fX6_18 (by first | assumption | rfl) (by rfl) ?_
      refine aw_iload_n dX6_placeOf_17 rfl rfl ?_
      refine aw_callSF dX6_placeOf_18 kX6_43 (c_at (by first | assumption | rfl) (by omega) (by decide)) rfl rfl rfl (Nat.le_of_ble_eq_true rfl) (Nat.le_of_ble_eq_true rfl) ?_
      dsimp only [Option.toList, List.cons_append, List.nil_append, Nat.reduceAdd]
      rw [e64]
      refine aw_iload_n dX6_placeOf_21 rfl rfl ?_
      refine aw_icmp_neN (tgt := 27) dX6_placeOf_22 (by decide) (by omega) (by omega) (fun _ => ?_) (fun q => absurd q (by omega))
      refine aw_iincN (v := 1) dX6_placeOf_27 rfl rfl ?_
      dsimp only [List.set]
      refine aw_goto (tgt := 2) dX6_placeOf_30 (by decide) ?_
      exact ih (p + 1) (by omega)
  change AW mX6_placeOf _ 0 [some (.ref 60), some (.int (nI i)), none] [] h _
  refine aw_iconst (v := nI 0) dX6_placeOf_0 (by decide) ?_
  refine aw_istore_n dX6_placeOf_1 rfl (Nat.le_of_ble_eq_true rfl) rfl ?_
  dsimp only [List.set]
  exact loop (rkc b i (sn S)) 0 (by omega)
/-- who is cold, as bits -/
def cbN (S : Hs) (day : Nat) (f : Nat → Nat) : Nat → Nat
  | 0 => 0
  | m + 1 => cbN S day f m + if sunR S day (f m) < sW S m then 2 ^ m else 0
theorem cbN_lt {S : Hs} {day : Nat} {f : Nat → Nat} : ∀ m, cbN S day f m < 2 ^ m := by
  intro m
  induction m with
  | zero => simp [cbN]
  | succ m ih =>
    show cbN S day f m + _ < _
    rw [Nat.pow_succ]
    split <;> omega
theorem or_bit : ∀ k, k < 8 → ∀ c, c < 256 → c < 2 ^ k → nI c ||| (nI 1 <<< (nI k &&& 31)) = nI (c + 2 ^ k) := by decide +kernel
theorem c_W_coldBits {d dd c : Nat} {h : Hp} {S : Hs} {b L f s : Nat → Nat} (hws : WS h S b L dd f s c) (hok : WO S b L) (hpm : PM (sn S) f) (hdd : dd < 2 ^ 30) :
    RT mX6_coldBits (d + 2) [.ref 60] h (fun v h' => v = some (.int (nI (cbN S dd f (sn S)))) ∧ h' = h) := by
  obtain ⟨⟨e1, e2, e3⟩, e4, e5, e6⟩ := id hws
  have h38 := hok.1.2.1
  have loop : ∀ u k, k + u = sn S → AW mX6_coldBits (d + 2) 4 [some (.ref 60), some (.int (nI (cbN S dd f k))), some (.int (nI k))] [] h (fun v h' => v = some (.int (nI (cbN S dd f (sn S)))) ∧ h' = h) := by
    intro u
    induction u with
    | zero =>
      intro k hk
      have ek : k = sn S := by omega
      subst ek
      refine aw_iload_n dX6_coldBits_4 rfl rfl ?_
      refine aw_aload_n dX6_coldBits_5 rfl rfl ?_
      refine aw_getR dX6_coldBits_6 fX6_25 (by first | assumption | rfl) (by rfl) ?_
      refine aw_callVF dX6_coldBits_9 kX6_47 (c_P_cousins) (by first | assumption | rfl) rfl rfl rfl (Nat.le_of_ble_eq_true rfl) (Nat.le_of_ble_eq_true rfl) ?_
      dsimp only [Option.toList, List.cons_append, List.nil_append, Nat.reduceAdd]
      rw [e1]
      refine aw_icmp_geN (tgt := 43) dX6_coldBits_12 (by decide) (by omega) (by omega) (fun _ => ?_) (fun q => absurd q (by omega))
      refine aw_iload_n dX6_coldBits_43 rfl rfl ?_
      refine aw_iret dX6_coldBits_44 rfl (by first | rfl | exact (pk_charN (by omega)).1 | decide) ?_
      exact ⟨rfl, rfl⟩
    | succ u ih =>
      intro k hk
      have hk8 : k < sn S := by omega
      have hs1 := sunR_le hok.1 (day := dd) (hpm.1 _ hk8)
      have e7 := (e3 k hk8).2.1
      have hW9 := (hok.1.2.2 k hk8).2.1
      have hlt := cbN_lt (S := S) (day := dd) (f := f) k
      have hp8 : 2 ^ k ≤ 2 ^ 8 := Nat.pow_le_pow_right (by decide) (by omega)
      refine aw_iload_n dX6_coldBits_4 rfl rfl ?_
      refine aw_aload_n dX6_coldBits_5 rfl rfl ?_
      refine aw_getR dX6_coldBits_6 fX6_25 (by first | assumption | rfl) (by rfl) ?_
      refine aw_callVF dX6_coldBits_9 kX6_47 (c_P_cousins) (by first | assumption | rfl) rfl rfl rfl (Nat.le_of_ble_eq_true rfl) (Nat.le_of_ble_eq_true rfl) ?_
      dsimp only [Option.toList, List.cons_append, List.nil_append, Nat.reduceAdd]
      rw [e1]
      refine aw_icmp_geN (tgt := 43) dX6_coldBits_12 (by decide) (by omega) (by omega) (fun q => absurd q (by omega)) (fun _ => ?_)
      refine aw_aload_n dX6_coldBits_15 rfl rfl ?_
      refine aw_iload_n dX6_coldBits_16 rfl rfl ?_
      refine aw_callVF dX6_coldBits_17 kX6_57 (c_W_sunNow hws hok hpm hk8 hdd) (by first | assumption | rfl) rfl rfl rfl (Nat.le_of_ble_eq_true rfl) (Nat.le_of_ble_eq_true rfl) ?_
      dsimp only [Option.toList, List.cons_append, List.nil_append, Nat.reduceAdd]
      refine aw_aload_n dX6_coldBits_20 rfl rfl ?_
      refine aw_getR dX6_coldBits_21 fX6_25 (by first | assumption | rfl) (by rfl) ?_
      refine aw_iload_n dX6_coldBits_24 rfl rfl ?_
      refine aw_callVF dX6_coldBits_25 kX6_61 (c_P_wantOf (by omega)) (by first | assumption | rfl) rfl rfl rfl (Nat.le_of_ble_eq_true rfl) (Nat.le_of_ble_eq_true rfl) ?_
      dsimp only [Option.toList, List.cons_append, List.nil_append, Nat.reduceAdd]
      rw [e7]
      refine aw_icmp_geN (tgt := 37) dX6_coldBits_28 (by decide) (by omega) (by omega) (fun c28 => ?_) (fun c28 => ?_)
      · refine aw_iincN (v := 1) dX6_coldBits_37 rfl rfl ?_
        dsimp only [List.set]
        refine aw_goto (tgt := 4) dX6_coldBits_40 (by decide) ?_
        have ez : cbN S dd f (k + 1) = cbN S dd f k := by
          show cbN S dd f k + (if _ then _ else 0) = _
          rw [if_neg (by omega)]; rfl
        rw [← ez]
        exact ih (k + 1) (by omega)
      · refine aw_iload_n dX6_coldBits_31 rfl rfl ?_
        refine aw_iconst (v := nI 1) dX6_coldBits_32 (by decide) ?_
        refine aw_iload_n dX6_coldBits_33 rfl rfl ?_
        refine aw_ishl dX6_coldBits_34 ?_
        refine aw_ior dX6_coldBits_35 ?_
        rw [or_bit k (by omega) _ (by omega) hlt]
        refine aw_istore_n dX6_coldBits_36 rfl (Nat.le_of_ble_eq_true rfl) rfl ?_
        dsimp only [List.set]
        refine aw_iincN (v := 1) dX6_coldBits_37 rfl rfl ?_
        dsimp only [List.set]
        refine aw_goto (tgt := 4) dX6_coldBits_40 (by decide) ?_
        have ez : cbN S dd f (k + 1) = cbN S dd f k + 2 ^ k := by
          show cbN S dd f k + (if _ then _ else 0) = _
          rw [if_pos (by omega)]
        rw [← ez]
        exact ih (k + 1) (by omega)
  change AW mX6_coldBits _ 0 [some (.ref 60), none, none] [] h _
  refine aw_iconst (v := nI 0) dX6_coldBits_0 (by decide) ?_
  refine aw_istore_n dX6_coldBits_1 rfl (Nat.le_of_ble_eq_true rfl) rfl ?_
  dsimp only [List.set]
  refine aw_iconst (v := nI 0) dX6_coldBits_2 (by decide) ?_
  refine aw_istore_n dX6_coldBits_3 rfl (Nat.le_of_ble_eq_true rfl) rfl ?_
  dsimp only [List.set]
  exact loop (sn S) 0 (by omega)
theorem c_W_goBehind {d t dd c : Nat} {h : Hp} {S : Hs} {b L f s : Nat → Nat} (hws : WS h S b L dd f s c) (hok : WO S b L) (hpm : PM (sn S) f) (hdd : dd + t < 2 ^ 30) :
    RT mX6_goBehind (d + 5) [.ref 60, .int (nI t)] h (fun v h' => v = none ∧ WS h' S b L (dd + t) (rmF S b L dd f (t + 1)) (fun i => s i + sunF S b L dd f i t) (c + coldF S b L dd f t) ∧ FW6 h h') := by
  have hLs : ∀ q, q < sn S → L q < sn S := fun q hq => (hok.2 q hq).2
  have hpg := PM_rmF (b := b) (day0 := dd) hok.1 hLs hpm t
  change AW mX6_goBehind _ 0 [some (.ref 60), some (.int (nI t))] [] h _
  refine aw_aload_n dX6_goBehind_0 rfl rfl ?_
  refine aw_iload_n dX6_goBehind_1 rfl rfl ?_
  refine aw_callV dX6_goBehind_2 kX6_83 (c_W_go hws hok hpm hdd) (by first | assumption | rfl) rfl rfl rfl (Nat.le_of_ble_eq_true rfl) (Nat.le_of_ble_eq_true rfl) ?_
  rintro _ h2 ⟨rfl, hw2, hf2⟩
  dsimp only [Option.toList, List.cons_append, List.nil_append, Nat.reduceAdd]
  refine aw_aload_n dX6_goBehind_5 rfl rfl ?_
  refine aw_callV dX6_goBehind_6 kX6_64 (c_W_changeRooms hw2 hok hpg (by omega)) (by first | assumption | rfl) rfl rfl rfl (Nat.le_of_ble_eq_true rfl) (Nat.le_of_ble_eq_true rfl) ?_
  rintro _ h3 ⟨rfl, hw3, hf3⟩
  dsimp only [Option.toList, List.cons_append, List.nil_append, Nat.reduceAdd]
  refine aw_vret dX6_goBehind_9 rfl ?_
  exact ⟨rfl, hw3, hf2.trans hf3⟩
end
section
/-! Text: object 1 (letters 2, numbers 3, length at 2, place at 3), and how it is read -/
theorem hw_hw {h : Hp} {o k x y : Nat} : hw (hw h o k x) o k y = hw h o k y := by
  funext a j
  unfold hw
  by_cases q : a = o ∧ j = k <;> simp [q]
theorem c_withinN {d x a b : Nat} {h : Hp} (hx : x < 2 ^ 31) (ha : a < 2 ^ 31) (hb : b < 2 ^ 31) : RT mX7_within d [.int (nI x), .int (nI a), .int (nI b)] h (fun v h' => v = some (.int (nI (if a ≤ x ∧ x ≤ b then 1 else 0))) ∧ h' = h) := by
  refine c_within.imp (fun v h' e => ?_)
  by_cases q : a ≤ x ∧ x ≤ b
  · rw [if_pos q]
    rw [if_pos ⟨(nI_leI ha hx).mpr q.1, (nI_leI hx hb).mpr q.2⟩] at e
    exact e
  · rw [if_neg q]
    rw [if_neg (fun z => q ⟨(nI_leI ha hx).mp z.1, (nI_leI hx hb).mp z.2⟩)] at e
    exact e
def ltr (T : Nat → Nat) (n k : Nat) : Nat := if k < n then T k else 0
def isd (x : Nat) : Prop := 48 ≤ x ∧ x ≤ 57
theorem isd_d (x : Nat) : isd x ∨ ¬ isd x := by unfold isd; omega
noncomputable def nu1 (l : Nat → Nat) (a : Nat) : Option (Nat × Nat) :=
  if 48 ≤ l a ∧ l a ≤ 57 then (if 48 ≤ l (a + 1) ∧ l (a + 1) ≤ 57 then some (10 * (l a - 48) + (l (a + 1) - 48), a + 2) else some (l a - 48, a + 1)) else none
/-- a number, then the sign sep -/
noncomputable def nsp (l : Nat → Nat) (sep a : Nat) : Option (Nat × Nat) := match nu1 l a with
  | none => none
  | some q => if l q.2 = sep then some (q.1, q.2 + 1) else none
/-- r numbers parted by , and a ; behind the last one -/
noncomputable def nmL (l : Nat → Nat) : Nat → Nat → Option (List Nat × Nat)
  | 0, a => some ([], a)
  | r + 1, a => match nsp l (if r = 0 then 59 else 44) a with
    | none => none
    | some q => match nmL l r q.2 with
      | none => none
      | some w => some (q.1 :: w.1, w.2)
/-- the text: n letters T, read up to a -/
def TXS (h : Hp) (T : Nat → Nat) (n a : Nat) : Prop := h 1 2 = n ∧ h 1 3 = a ∧ ∀ k, k < n → h 2 k = T k
def TOk (T : Nat → Nat) (n : Nat) : Prop := n ≤ 200 ∧ ∀ k, k < n → 32 ≤ T k ∧ T k ≤ 126
theorem ltr_lt {T : Nat → Nat} {n : Nat} (ht : TOk T n) (k : Nat) : ltr T n k ≤ 126 := by
  unfold ltr
  split
  · exact (ht.2 k (by assumption)).2
  · omega
theorem c_T_letterHere {d n a : Nat} {h : Hp} {T : Nat → Nat} (ht : TXS h T n a) (hk : TOk T n) (ha : a < 2 ^ 30) : RT mX5_letterHere d [.ref 1] h (fun v h' => v = some (.int (nI (ltr T n a))) ∧ h' = h) := by
  obtain ⟨e1, e2, e3⟩ := ht
  have hn := hk.1
  have hl := ltr_lt hk a
  change AW mX5_letterHere _ 0 [some (.ref 1)] [] h _
  refine aw_aload_n dX5_letterHere_0 rfl rfl ?_
  refine aw_getI dX5_letterHere_1 fX5_28 (by first | assumption | rfl) (by rfl) ?_
  refine aw_if_ltN (tgt := 42) dX5_letterHere_4 (by decide) (by omega) (fun q => absurd q (by omega)) (fun _ => ?_)
  refine aw_aload_n dX5_letterHere_7 rfl rfl ?_
  refine aw_getI dX5_letterHere_8 fX5_28 (by first | assumption | rfl) (by rfl) ?_
  refine aw_aload_n dX5_letterHere_11 rfl rfl ?_
  refine aw_getI dX5_letterHere_12 fX5_19 (by first | assumption | rfl) (by rfl) ?_
  refine aw_icmp_geN (tgt := 42) dX5_letterHere_15 (by decide) (by omega) (by omega) (fun c15 => ?_) (fun c15 => ?_)
  · have ez : ltr T n a = 0 := by unfold ltr; rw [if_neg (by omega)]
    rw [ez]
    refine aw_iconst (v := nI 0) dX5_letterHere_42 (by decide) ?_
    refine aw_iret dX5_letterHere_43 rfl (by first | rfl | exact (pk_charN (by omega)).1 | decide) ?_
    exact ⟨rfl, rfl⟩
  · have e4 := e3 a (by omega)
    have ez : ltr T n a = T a := by unfold ltr; rw [if_pos (by omega)]
    have h5 := hk.2 a (by omega)
    refine aw_aload_n dX5_letterHere_18 rfl rfl ?_
    refine aw_getI dX5_letterHere_19 fX5_28 (by first | assumption | rfl) (by rfl) ?_
    refine aw_aload_n dX5_letterHere_22 rfl rfl ?_
    refine aw_getR dX5_letterHere_23 fX5_9 (by first | assumption | rfl) (by rfl) ?_
    refine aw_alenC dX5_letterHere_26 (by first | assumption | rfl) ?_
    refine aw_icmp_geN (tgt := 42) dX5_letterHere_27 (by decide) (by omega) (by omega) (fun q => absurd q (by omega)) (fun _ => ?_)
    refine aw_aload_n dX5_letterHere_30 rfl rfl ?_
    refine aw_getR dX5_letterHere_31 fX5_9 (by first | assumption | rfl) (by rfl) ?_
    refine aw_aload_n dX5_letterHere_34 rfl rfl ?_
    refine aw_getI dX5_letterHere_35 fX5_28 (by first | assumption | rfl) (by rfl) ?_
    refine aw_caload dX5_letterHere_38 (by first | assumption | rfl) (by omega) (by omega) ?_
    rw [e2, e4, ez]
    refine aw_goto (tgt := 43) dX5_letterHere_39 (by decide) ?_
    refine aw_iret dX5_letterHere_43 rfl (by first | rfl | exact (pk_charN (by omega)).1 | decide) ?_
    exact ⟨rfl, rfl⟩
theorem c_T_isFigure {d x : Nat} {h : Hp} (hx : x < 2 ^ 30) : RT mX5_isFigure d [.int (nI x)] h (fun v h' => v = some (.int (nI (if 48 ≤ x ∧ x ≤ 57 then 1 else 0))) ∧ h' = h) := by
  change AW mX5_isFigure _ 0 [some (.int (nI x))] [] h _
  refine aw_iload_n dX5_isFigure_0 rfl rfl ?_
  refine aw_bipush (v := nI 48) dX5_isFigure_1 (by decide) ?_
  refine aw_icmp_ltN (tgt := 16) dX5_isFigure_3 (by decide) (by omega) (by omega) (fun c3 => ?_) (fun c3 => ?_)
  · rw [if_neg (by omega)]
    refine aw_iconst (v := nI 0) dX5_isFigure_16 (by decide) ?_
    refine aw_iret dX5_isFigure_17 rfl (by first | rfl | exact (pk_charN (by omega)).1 | decide) ?_
    exact ⟨rfl, rfl⟩
  · refine aw_iload_n dX5_isFigure_6 rfl rfl ?_
    refine aw_bipush (v := nI 57) dX5_isFigure_7 (by decide) ?_
    refine aw_icmp_gtN (tgt := 16) dX5_isFigure_9 (by decide) (by omega) (by omega) (fun c9 => ?_) (fun c9 => ?_)
    · rw [if_neg (by omega)]
      refine aw_iconst (v := nI 0) dX5_isFigure_16 (by decide) ?_
      refine aw_iret dX5_isFigure_17 rfl (by first | rfl | exact (pk_charN (by omega)).1 | decide) ?_
      exact ⟨rfl, rfl⟩
    · rw [if_pos (by omega)]
      refine aw_iconst (v := nI 1) dX5_isFigure_12 (by decide) ?_
      refine aw_goto (tgt := 17) dX5_isFigure_13 (by decide) ?_
      refine aw_iret dX5_isFigure_17 rfl (by first | rfl | exact (pk_charN (by omega)).1 | decide) ?_
      exact ⟨rfl, rfl⟩
theorem TXS.go {h : Hp} {T : Nat → Nat} {n a a2 : Nat} (ht : TXS h T n a) : TXS (hw h 1 3 a2) T n a2 := by
  obtain ⟨e1, e2, e3⟩ := ht
  refine ⟨?_, ?_, fun k hk => ?_⟩
  · rw [hw_at, if_neg (by decide)]; exact e1
  · rw [hw_at, if_pos rfl]
  · rw [hw_ne (by decide)]; exact e3 k hk
theorem mx0 : (if nI 0 < nI 4294967295 then nI 4294967295 else nI 0) = nI 0 := by decide
theorem c_T_readNumberN {d n a : Nat} {h : Hp} {T : Nat → Nat} (ht : TXS h T n a) (hk : TOk T n) (ha : a < 2 ^ 29) (hz : nu1 (ltr T n) a = none) : RT mX5_readNumber (d + 1) [.ref 1] h (fun v h' => v = some (.int (nI 4294967295)) ∧ h' = h) := by
  have hl := ltr_lt hk a
  have hc : ¬ (48 ≤ ltr T n a ∧ ltr T n a ≤ 57) := fun q => by
    unfold nu1 at hz
    rw [if_pos q] at hz
    split at hz <;> cases hz
  change AW mX5_readNumber _ 0 [some (.ref 1), none, none] [] h _
  refine aw_iconst (v := nI 4294967295) dX5_readNumber_0 (by decide) ?_
  refine aw_istore_n dX5_readNumber_1 rfl (Nat.le_of_ble_eq_true rfl) rfl ?_
  dsimp only [List.set]
  refine aw_iconst (v := nI 0) dX5_readNumber_2 (by decide) ?_
  refine aw_istore_n dX5_readNumber_3 rfl (Nat.le_of_ble_eq_true rfl) rfl ?_
  dsimp only [List.set]
  refine aw_iload_n dX5_readNumber_4 rfl rfl ?_
  refine aw_iconst (v := nI 2) dX5_readNumber_5 (by decide) ?_
  refine aw_icmp_geN (tgt := 52) dX5_readNumber_6 (by decide) (by omega) (by omega) (fun q => absurd q (by omega)) (fun _ => ?_)
  refine aw_aload_n dX5_readNumber_9 rfl rfl ?_
  refine aw_callVF dX5_readNumber_10 kX5_35 (c_T_letterHere ht hk (by omega)) (by first | assumption | rfl) rfl rfl rfl (Nat.le_of_ble_eq_true rfl) (Nat.le_of_ble_eq_true rfl) ?_
  dsimp only [Option.toList, List.cons_append, List.nil_append, Nat.reduceAdd]
  refine aw_callSF dX5_readNumber_13 kX5_63 (c_T_isFigure (by omega)) rfl rfl rfl (Nat.le_of_ble_eq_true rfl) (Nat.le_of_ble_eq_true rfl) ?_
  dsimp only [Option.toList, List.cons_append, List.nil_append, Nat.reduceAdd]
  rw [if_neg hc]
  refine aw_if_eqN (tgt := 52) dX5_readNumber_16 (by decide) (by omega) (fun _ => ?_) (fun q => absurd q (by omega))
  refine aw_iload_n dX5_readNumber_52 rfl rfl ?_
  refine aw_iret dX5_readNumber_53 rfl (by first | rfl | exact (pk_charN (by omega)).1 | decide) ?_
  exact ⟨rfl, rfl⟩
theorem c_T_readNumberS {d n a x a2 : Nat} {h : Hp} {T : Nat → Nat} (ht : TXS h T n a) (hk : TOk T n) (ha : a < 2 ^ 29) (hz : nu1 (ltr T n) a = some (x, a2)) : RT mX5_readNumber (d + 1) [.ref 1] h (fun v h' => v = some (.int (nI x)) ∧ h' = hw h 1 3 a2) := by
  have hl := ltr_lt hk a
  have hl2 := ltr_lt hk (a + 1)
  have hc : (48 ≤ ltr T n a ∧ ltr T n a ≤ 57) := by
    unfold nu1 at hz
    by_cases q : 48 ≤ ltr T n a ∧ ltr T n a ≤ 57
    · exact q
    · rw [if_neg q] at hz; cases hz
  have e13 := ht.2.1
  have t2 : TXS (hw h 1 3 (a + 1)) T n (a + 1) := ht.go
  change AW mX5_readNumber _ 0 [some (.ref 1), none, none] [] h _
  refine aw_iconst (v := nI 4294967295) dX5_readNumber_0 (by decide) ?_
  refine aw_istore_n dX5_readNumber_1 rfl (Nat.le_of_ble_eq_true rfl) rfl ?_
  dsimp only [List.set]
  refine aw_iconst (v := nI 0) dX5_readNumber_2 (by decide) ?_
  refine aw_istore_n dX5_readNumber_3 rfl (Nat.le_of_ble_eq_true rfl) rfl ?_
  dsimp only [List.set]
  refine aw_iload_n dX5_readNumber_4 rfl rfl ?_
  refine aw_iconst (v := nI 2) dX5_readNumber_5 (by decide) ?_
  refine aw_icmp_geN (tgt := 52) dX5_readNumber_6 (by decide) (by omega) (by omega) (fun q => absurd q (by omega)) (fun _ => ?_)
  refine aw_aload_n dX5_readNumber_9 rfl rfl ?_
  refine aw_callVF dX5_readNumber_10 kX5_35 (c_T_letterHere ht hk (by omega)) (by first | assumption | rfl) rfl rfl rfl (Nat.le_of_ble_eq_true rfl) (Nat.le_of_ble_eq_true rfl) ?_
  dsimp only [Option.toList, List.cons_append, List.nil_append, Nat.reduceAdd]
  refine aw_callSF dX5_readNumber_13 kX5_63 (c_T_isFigure (by omega)) rfl rfl rfl (Nat.le_of_ble_eq_true rfl) (Nat.le_of_ble_eq_true rfl) ?_
  dsimp only [Option.toList, List.cons_append, List.nil_append, Nat.reduceAdd]
  rw [if_pos hc]
  refine aw_if_eqN (tgt := 52) dX5_readNumber_16 (by decide) (by omega) (fun q => absurd q (by omega)) (fun _ => ?_)
  refine aw_bipush (v := nI 10) dX5_readNumber_19 (by decide) ?_
  refine aw_iconst (v := nI 0) dX5_readNumber_21 (by decide) ?_
  refine aw_iload_n dX5_readNumber_22 rfl rfl ?_
  refine aw_mmax dX5_readNumber_23 kX5_67 (Nat.le_of_ble_eq_true rfl) ?_
  rw [mx0]
  refine aw_imulN dX5_readNumber_26 ?_
  refine aw_aload_n dX5_readNumber_27 rfl rfl ?_
  refine aw_callVF dX5_readNumber_28 kX5_35 (c_T_letterHere ht hk (by omega)) (by first | assumption | rfl) rfl rfl rfl (Nat.le_of_ble_eq_true rfl) (Nat.le_of_ble_eq_true rfl) ?_
  dsimp only [Option.toList, List.cons_append, List.nil_append, Nat.reduceAdd]
  refine aw_bipush (v := nI 48) dX5_readNumber_31 (by decide) ?_
  refine aw_isubN dX5_readNumber_33 (by omega) ?_
  refine aw_iaddN dX5_readNumber_34 ?_
  refine aw_istore_n dX5_readNumber_35 rfl (Nat.le_of_ble_eq_true rfl) rfl ?_
  dsimp only [List.set]
  refine aw_aload_n dX5_readNumber_36 rfl rfl ?_
  refine aw_dup dX5_readNumber_37 rfl ?_
  refine aw_getI dX5_readNumber_38 fX5_28 (by first | assumption | rfl) (by rfl) ?_
  refine aw_iconst (v := nI 1) dX5_readNumber_41 (by decide) ?_
  refine aw_iaddN dX5_readNumber_42 ?_
  rw [e13]
  refine aw_putfield dX5_readNumber_43 gX5_28 (by first | assumption | rfl) (by rfl) ?_
  refine aw_iincN (v := 1) dX5_readNumber_46 rfl rfl ?_
  dsimp only [List.set]
  refine aw_goto (tgt := 4) dX5_readNumber_49 (by decide) ?_
  refine aw_iload_n dX5_readNumber_4 rfl rfl ?_
  refine aw_iconst (v := nI 2) dX5_readNumber_5 (by decide) ?_
  refine aw_icmp_geN (tgt := 52) dX5_readNumber_6 (by decide) (by omega) (by omega) (fun q => absurd q (by omega)) (fun _ => ?_)
  refine aw_aload_n dX5_readNumber_9 rfl rfl ?_
  refine aw_callVF dX5_readNumber_10 kX5_35 (c_T_letterHere t2 hk (by omega)) (by first | assumption | rfl) rfl rfl rfl (Nat.le_of_ble_eq_true rfl) (Nat.le_of_ble_eq_true rfl) ?_
  dsimp only [Option.toList, List.cons_append, List.nil_append, Nat.reduceAdd]
  refine aw_callSF dX5_readNumber_13 kX5_63 (c_T_isFigure (by omega)) rfl rfl rfl (Nat.le_of_ble_eq_true rfl) (Nat.le_of_ble_eq_true rfl) ?_
  dsimp only [Option.toList, List.cons_append, List.nil_append, Nat.reduceAdd]
  unfold nu1 at hz
  rw [if_pos hc] at hz
  by_cases hc2 : 48 ≤ ltr T n (a + 1) ∧ ltr T n (a + 1) ≤ 57
  · rw [if_pos hc2] at hz ⊢
    have hz1 := Option.some.inj hz
    have hx : x = 10 * (ltr T n a - 48) + (ltr T n (a + 1) - 48) := (congrArg Prod.fst hz1).symm
    have hy : a2 = a + 2 := (congrArg Prod.snd hz1).symm
    refine aw_if_eqN (tgt := 52) dX5_readNumber_16 (by decide) (by omega) (fun q => absurd q (by omega)) (fun _ => ?_)
    refine aw_bipush (v := nI 10) dX5_readNumber_19 (by decide) ?_
    refine aw_iconst (v := nI 0) dX5_readNumber_21 (by decide) ?_
    refine aw_iload_n dX5_readNumber_22 rfl rfl ?_
    refine aw_mmaxN dX5_readNumber_23 kX5_67 (by omega) (by omega) (Nat.le_of_ble_eq_true rfl) ?_
    refine aw_imulN dX5_readNumber_26 ?_
    refine aw_aload_n dX5_readNumber_27 rfl rfl ?_
    refine aw_callVF dX5_readNumber_28 kX5_35 (c_T_letterHere t2 hk (by omega)) (by first | assumption | rfl) rfl rfl rfl (Nat.le_of_ble_eq_true rfl) (Nat.le_of_ble_eq_true rfl) ?_
    dsimp only [Option.toList, List.cons_append, List.nil_append, Nat.reduceAdd]
    refine aw_bipush (v := nI 48) dX5_readNumber_31 (by decide) ?_
    refine aw_isubN dX5_readNumber_33 (by omega) ?_
    refine aw_iaddN dX5_readNumber_34 ?_
    refine aw_istore_n dX5_readNumber_35 rfl (Nat.le_of_ble_eq_true rfl) rfl ?_
    dsimp only [List.set]
    refine aw_aload_n dX5_readNumber_36 rfl rfl ?_
    refine aw_dup dX5_readNumber_37 rfl ?_
    refine aw_getI dX5_readNumber_38 fX5_28 (by first | assumption | rfl) (by rfl) ?_
    refine aw_iconst (v := nI 1) dX5_readNumber_41 (by decide) ?_
    refine aw_iaddN dX5_readNumber_42 ?_
    rw [hw_at, if_pos rfl]
    refine aw_putfield dX5_readNumber_43 gX5_28 (by first | assumption | rfl) (by rfl) ?_
    refine aw_iincN (v := 1) dX5_readNumber_46 rfl rfl ?_
    dsimp only [List.set]
    refine aw_goto (tgt := 4) dX5_readNumber_49 (by decide) ?_
    refine aw_iload_n dX5_readNumber_4 rfl rfl ?_
    refine aw_iconst (v := nI 2) dX5_readNumber_5 (by decide) ?_
    refine aw_icmp_geN (tgt := 52) dX5_readNumber_6 (by decide) (by omega) (by omega) (fun _ => ?_) (fun q => absurd q (by omega))
    refine aw_iload_n dX5_readNumber_52 rfl rfl ?_
    refine aw_iret dX5_readNumber_53 rfl (by first | rfl | exact (pk_charN (by omega)).1 | decide) ?_
    refine ⟨?_, ?_⟩
    · rw [hx]
      congr 3
      omega
    · rw [hw_hw, hy]
  · rw [if_neg hc2] at hz ⊢
    have hz1 := Option.some.inj hz
    have hx : x = ltr T n a - 48 := (congrArg Prod.fst hz1).symm
    have hy : a2 = a + 1 := (congrArg Prod.snd hz1).symm
    refine aw_if_eqN (tgt := 52) dX5_readNumber_16 (by decide) (by omega) (fun _ => ?_) (fun q => absurd q (by omega))
    refine aw_iload_n dX5_readNumber_52 rfl rfl ?_
    refine aw_iret dX5_readNumber_53 rfl (by first | rfl | exact (pk_charN (by omega)).1 | decide) ?_
    refine ⟨?_, ?_⟩
    · rw [hx]
      congr 3
      omega
    · rw [hy]
theorem nu1_lt {l : Nat → Nat} {a x a2 : Nat} (hl : ∀ k, l k ≤ 126) (hz : nu1 l a = some (x, a2)) : x ≤ 99 ∧ a < a2 ∧ a2 ≤ a + 2 := by
  unfold nu1 at hz
  split at hz
  · split at hz
    · have hz1 := Option.some.inj hz
      have := congrArg Prod.fst hz1
      have := congrArg Prod.snd hz1
      dsimp only at *
      omega
    · have hz1 := Option.some.inj hz
      have := congrArg Prod.fst hz1
      have := congrArg Prod.snd hz1
      dsimp only at *
      omega
  · cases hz
/-- what reading numbers leaves alone -/
def FT3 (h h' : Hp) : Prop := h' 1 2 = h 1 2 ∧ ∀ o, o ≠ 1 → o ≠ 3 → h' o = h o
theorem FT3.rf {h : Hp} : FT3 h h := ⟨rfl, fun _ _ _ => rfl⟩
theorem FT3.trans {h h1 h2 : Hp} (a : FT3 h h1) (b : FT3 h1 h2) : FT3 h h2 := ⟨b.1.trans a.1, fun o p q => (b.2 o p q).trans (a.2 o p q)⟩
theorem FT3.place {h : Hp} {x : Nat} : FT3 h (hw h 1 3 x) := ⟨by rw [hw_at, if_neg (by decide)], fun o p _ => hw_ne p⟩
theorem FT3.num {h : Hp} {k x : Nat} : FT3 h (hw h 3 k x) := ⟨by rw [hw_ne (by decide)], fun o _ p => hw_ne p⟩
/-- readNumbers' end -/
def rnQ (l : Nat → Nat) (h : Hp) (k r a : Nat) : Option Value → Hp → Prop := fun v h' => FT3 h h' ∧ match nmL l r a with
  | none => v = some (.int (nI 0))
  | some w => v = some (.int (nI 1)) ∧ h' 1 3 = w.2 ∧ (∀ j, j < r → h' 3 (k + j) = w.1.getD j 0) ∧ ∀ j, j < k → h' 3 j = h 3 j
theorem c_T_readNumbers {d n a many : Nat} {h : Hp} {T : Nat → Nat} (ht : TXS h T n a) (hk : TOk T n) (ha : a ≤ 200) (hm : many ≤ 3) : RT mX5_readNumbers (d + 2) [.ref 1, .int (nI many)] h (rnQ (ltr T n) h 0 many a) := by
  have hl := ltr_lt hk
  have loop : ∀ r k aa hh, k + r = many → TXS hh T n aa → aa + 3 * r ≤ 2 ^ 28 → AW mX5_readNumbers (d + 2) 2 [some (.ref 1), some (.int (nI many)), some (.int (nI k)), none, none] [] hh (rnQ (ltr T n) hh k r aa) := by
    intro r
    induction r with
    | zero =>
      intro k aa hh hkr htx hbd
      refine aw_iload_n dX5_readNumbers_2 rfl rfl ?_
      refine aw_iload_n dX5_readNumbers_3 rfl rfl ?_
      refine aw_icmp_geN (tgt := 68) dX5_readNumbers_4 (by decide) (by omega) (by omega) (fun _ => ?_) (fun q => absurd q (by omega))
      refine aw_iconst (v := nI 1) dX5_readNumbers_68 (by decide) ?_
      refine aw_iret dX5_readNumbers_69 rfl (by first | rfl | exact (pk_charN (by omega)).1 | decide) ?_
      exact ⟨FT3.rf, rfl, htx.2.1, fun j hj => by omega, fun j _ => rfl⟩
    | succ r ih =>
      intro k aa hh hkr htx hbd
      have hla := ltr_lt hk
      cases hz : nu1 (ltr T n) aa with
      | none =>
        have hnm : nmL (ltr T n) (r + 1) aa = none := by
          unfold nmL nsp
          rw [hz]
        have fin : rnQ (ltr T n) hh k (r + 1) aa (some (.int (nI 0))) hh := ⟨FT3.rf, by rw [hnm]⟩
        refine aw_iload_n dX5_readNumbers_2 rfl rfl ?_
        refine aw_iload_n dX5_readNumbers_3 rfl rfl ?_
        refine aw_icmp_geN (tgt := 68) dX5_readNumbers_4 (by decide) (by omega) (by omega) (fun q => absurd q (by omega)) (fun _ => ?_)
        refine aw_aload_n dX5_readNumbers_7 rfl rfl ?_
        refine aw_callVF dX5_readNumbers_8 kX5_55 (c_T_readNumberN htx hk (by omega) hz) (by first | assumption | rfl) rfl rfl rfl (Nat.le_of_ble_eq_true rfl) (Nat.le_of_ble_eq_true rfl) ?_
        dsimp only [Option.toList, List.cons_append, List.nil_append, Nat.reduceAdd]
        refine aw_istore_n dX5_readNumbers_11 rfl (Nat.le_of_ble_eq_true rfl) rfl ?_
        dsimp only [List.set]
        refine aw_iload_n dX5_readNumbers_12 rfl rfl ?_
        refine aw_iload_n dX5_readNumbers_13 rfl rfl ?_
        refine aw_iconst (v := nI 1) dX5_readNumbers_14 (by decide) ?_
        refine aw_isubN dX5_readNumbers_15 (by omega) ?_
        refine aw_icmp_neN (tgt := 24) dX5_readNumbers_16 (by decide) (by omega) (by omega) (fun c16 => ?_) (fun c16 => ?_)
        · refine aw_bipush (v := nI 44) dX5_readNumbers_24 (by decide) ?_
          refine aw_istore dX5_readNumbers_26 (Nat.le_of_ble_eq_true rfl) rfl ?_
          dsimp only [List.set]
          refine aw_iload_n dX5_readNumbers_28 rfl rfl ?_
          refine aw_if_lt (tgt := 41) dX5_readNumbers_29 (by decide) (fun q => ?_) (fun q => absurd (by decide) q)
          refine aw_iconst (v := nI 0) dX5_readNumbers_41 (by decide) ?_
          refine aw_iret dX5_readNumbers_42 rfl (by first | rfl | exact (pk_charN (by omega)).1 | decide) ?_
          exact fin
        · refine aw_bipush (v := nI 59) dX5_readNumbers_19 (by decide) ?_
          refine aw_goto (tgt := 26) dX5_readNumbers_21 (by decide) ?_
          refine aw_istore dX5_readNumbers_26 (Nat.le_of_ble_eq_true rfl) rfl ?_
          dsimp only [List.set]
          refine aw_iload_n dX5_readNumbers_28 rfl rfl ?_
          refine aw_if_lt (tgt := 41) dX5_readNumbers_29 (by decide) (fun q => ?_) (fun q => absurd (by decide) q)
          refine aw_iconst (v := nI 0) dX5_readNumbers_41 (by decide) ?_
          refine aw_iret dX5_readNumbers_42 rfl (by first | rfl | exact (pk_charN (by omega)).1 | decide) ?_
          exact fin
      | some q0 =>
        obtain ⟨x, a2⟩ := q0
        obtain ⟨hx99, ha2, ha3⟩ := nu1_lt (ltr_lt hk) hz
        have t2 : TXS (hw hh 1 3 a2) T n a2 := htx.go
        have hla2 := ltr_lt hk a2
        have tail : ∀ sep, sep = (if r = 0 then 59 else 44) → AW mX5_readNumbers (d + 2) 28 [some (.ref 1), some (.int (nI many)), some (.int (nI k)), some (.int (nI x)), some (.int (nI sep))] [] (hw hh 1 3 a2) (rnQ (ltr T n) hh k (r + 1) aa) := by
          intro sep hsep
          have hs59 : sep ≤ 59 := by rw [hsep]; split <;> omega
          refine aw_iload_n dX5_readNumbers_28 rfl rfl ?_
          refine aw_if_ltN (tgt := 41) dX5_readNumbers_29 (by decide) (by omega) (fun q => absurd q (by omega)) (fun _ => ?_)
          refine aw_aload_n dX5_readNumbers_32 rfl rfl ?_
          refine aw_callVF dX5_readNumbers_33 kX5_35 (c_T_letterHere t2 hk (by omega)) (by first | assumption | rfl) rfl rfl rfl (Nat.le_of_ble_eq_true rfl) (Nat.le_of_ble_eq_true rfl) ?_
          dsimp only [Option.toList, List.cons_append, List.nil_append, Nat.reduceAdd]
          refine aw_iload dX5_readNumbers_36 rfl ?_
          refine aw_icmp_eqN (tgt := 43) dX5_readNumbers_38 (by decide) (by omega) (by omega) (fun c38 => ?_) (fun c38 => ?_)
          · have hns : nsp (ltr T n) (if r = 0 then 59 else 44) aa = some (x, a2 + 1) := by
              unfold nsp
              rw [hz]
              dsimp only
              rw [← hsep, if_pos c38]
            have e13 : hw (hw hh 1 3 a2) 3 k x 1 3 = a2 := by rw [hw_ne (by decide), hw_at, if_pos rfl]
            refine aw_aload_n dX5_readNumbers_43 rfl rfl ?_
            refine aw_getR dX5_readNumbers_44 fX5_15 (by first | assumption | rfl) (by rfl) ?_
            refine aw_iload_n dX5_readNumbers_47 rfl rfl ?_
            refine aw_iload_n dX5_readNumbers_48 rfl rfl ?_
            refine aw_callSF dX5_readNumbers_49 kX5_59 (c_put (by first | assumption | rfl) (by omega) (by decide)) rfl rfl rfl (Nat.le_of_ble_eq_true rfl) (Nat.le_of_ble_eq_true rfl) ?_
            dsimp only [Option.toList, List.cons_append, List.nil_append, Nat.reduceAdd]
            refine aw_aload_n dX5_readNumbers_52 rfl rfl ?_
            refine aw_dup dX5_readNumbers_53 rfl ?_
            refine aw_getI dX5_readNumbers_54 fX5_28 (by first | assumption | rfl) (by rfl) ?_
            refine aw_iconst (v := nI 1) dX5_readNumbers_57 (by decide) ?_
            refine aw_iaddN dX5_readNumbers_58 ?_
            rw [e13]
            have t3 : TXS (hw (hw (hw hh 1 3 a2) 3 k x) 1 3 (a2 + 1)) T n (a2 + 1) := by
              obtain ⟨y1, y2, y3⟩ := t2
              refine ⟨?_, by rw [hw_at, if_pos rfl], fun j hj => ?_⟩
              · rw [hw_at, if_neg (by decide), hw_ne (by decide)]; exact y1
              · rw [hw_ne (by decide), hw_ne (by decide)]; exact y3 j hj
            refine aw_putfield dX5_readNumbers_59 gX5_28 (by first | assumption | rfl) (by rfl) ?_
            refine aw_iincN (v := 1) dX5_readNumbers_62 rfl rfl ?_
            dsimp only [List.set]
            refine aw_goto (tgt := 2) dX5_readNumbers_65 (by decide) ?_
            refine aw_forget 3 ?_
            refine aw_forget 4 ?_
            dsimp only [List.set]
            refine aw_imp ?_ (ih (k + 1) (a2 + 1) _ (by omega) t3 (by omega))
            intro v h2 hq
            obtain ⟨g1, g2⟩ := hq
            refine ⟨((FT3.place.trans FT3.num).trans FT3.place).trans g1, ?_⟩
            have hnm : nmL (ltr T n) (r + 1) aa = (match nmL (ltr T n) r (a2 + 1) with
              | none => none
              | some w => some (x :: w.1, w.2)) := by
              conv => lhs; unfold nmL
              rw [hns]
            rw [hnm]
            cases hz2 : nmL (ltr T n) r (a2 + 1) with
            | none =>
              rw [hz2] at g2
              exact g2
            | some w =>
              rw [hz2] at g2
              obtain ⟨y1, y2, y3, y4⟩ := g2
              refine ⟨y1, y2, fun j hj => ?_, fun j hj => ?_⟩
              · cases j with
                | zero =>
                  rw [Nat.add_zero, y4 k (by omega), hw_ne (by decide), hw_at, if_pos rfl]
                  rfl
                | succ j =>
                  have := y3 j (by omega)
                  rw [show k + (j + 1) = k + 1 + j by omega, this]
                  rfl
              · rw [y4 j (by omega), hw_ne (by decide), hw_at, if_neg (by omega), hw_ne (by decide)]
          · have hns : nmL (ltr T n) (r + 1) aa = none := by
              unfold nmL nsp
              rw [hz]
              dsimp only
              rw [← hsep, if_neg c38]
            refine aw_iconst (v := nI 0) dX5_readNumbers_41 (by decide) ?_
            refine aw_iret dX5_readNumbers_42 rfl (by first | rfl | exact (pk_charN (by omega)).1 | decide) ?_
            exact ⟨FT3.place, by rw [hns]⟩
        refine aw_iload_n dX5_readNumbers_2 rfl rfl ?_
        refine aw_iload_n dX5_readNumbers_3 rfl rfl ?_
        refine aw_icmp_geN (tgt := 68) dX5_readNumbers_4 (by decide) (by omega) (by omega) (fun q => absurd q (by omega)) (fun _ => ?_)
        refine aw_aload_n dX5_readNumbers_7 rfl rfl ?_
        refine aw_callVF dX5_readNumbers_8 kX5_55 (c_T_readNumberS htx hk (by omega) hz) (by first | assumption | rfl) rfl rfl rfl (Nat.le_of_ble_eq_true rfl) (Nat.le_of_ble_eq_true rfl) ?_
        dsimp only [Option.toList, List.cons_append, List.nil_append, Nat.reduceAdd]
        refine aw_istore_n dX5_readNumbers_11 rfl (Nat.le_of_ble_eq_true rfl) rfl ?_
        dsimp only [List.set]
        refine aw_iload_n dX5_readNumbers_12 rfl rfl ?_
        refine aw_iload_n dX5_readNumbers_13 rfl rfl ?_
        refine aw_iconst (v := nI 1) dX5_readNumbers_14 (by decide) ?_
        refine aw_isubN dX5_readNumbers_15 (by omega) ?_
        refine aw_icmp_neN (tgt := 24) dX5_readNumbers_16 (by decide) (by omega) (by omega) (fun c16 => ?_) (fun c16 => ?_)
        · refine aw_bipush (v := nI 44) dX5_readNumbers_24 (by decide) ?_
          refine aw_istore dX5_readNumbers_26 (Nat.le_of_ble_eq_true rfl) rfl ?_
          dsimp only [List.set]
          exact tail _ (by rw [if_neg (by omega)])
        · refine aw_bipush (v := nI 59) dX5_readNumbers_19 (by decide) ?_
          refine aw_goto (tgt := 26) dX5_readNumbers_21 (by decide) ?_
          refine aw_istore dX5_readNumbers_26 (Nat.le_of_ble_eq_true rfl) rfl ?_
          dsimp only [List.set]
          exact tail _ (by rw [if_pos (by omega)])
  change AW mX5_readNumbers _ 0 [some (.ref 1), some (.int (nI many)), none, none, none] [] h _
  refine aw_iconst (v := nI 0) dX5_readNumbers_0 (by decide) ?_
  refine aw_istore_n dX5_readNumbers_1 rfl (Nat.le_of_ble_eq_true rfl) rfl ?_
  dsimp only [List.set]
  exact loop many 0 a h (by omega) ht (by omega)
end
section
/-! what a text tells: cousins (how many, kinds, birthdays, wants), rooms (how many, suns) -/
abbrev PS : Type := Nat × (Nat → Nat) × (Nat → Nat) × (Nat → Nat) × Nat × (Nat → Nat) × (Nat → Nat)
def pn (P : PS) : Nat := P.1
def pK (P : PS) : Nat → Nat := P.2.1
def pb (P : PS) : Nat → Nat := P.2.2.1
def pW (P : PS) : Nat → Nat := P.2.2.2.1
def pm (P : PS) : Nat := P.2.2.2.2.1
def pA (P : PS) : Nat → Nat := P.2.2.2.2.2.1
def pB (P : PS) : Nat → Nat := P.2.2.2.2.2.2
def fu (f : Nat → Nat) (k v : Nat) : Nat → Nat := fun j => if j = k then v else f j
def addC (P : PS) (x y z : Nat) : PS := (pn P + 1, fu (pK P) (pn P) x, fu (pb P) (pn P) y, fu (pW P) (pn P) z, pm P, pA P, pB P)
def addR (P : PS) (x y : Nat) : PS := (pn P, pK P, pb P, pW P, pm P + 1, fu (pA P) (pm P) x, fu (pB P) (pm P) y)
abbrev okC (P : PS) (x y z : Nat) : Prop := pn P < 8 ∧ x ≤ 3 ∧ y ≤ 59 ∧ z ≤ 9
abbrev okR (P : PS) (x y : Nat) : Prop := pm P < 8 ∧ x ≤ 9 ∧ y ≤ 9
noncomputable def itS (l : Nat → Nat) (a : Nat) (P : PS) : Option (PS × Nat) :=
  if l a = 99 then (match nmL l 3 (a + 1) with
    | none => none
    | some w => if okC P (w.1.getD 0 0) (w.1.getD 1 0) (w.1.getD 2 0) then some (addC P (w.1.getD 0 0) (w.1.getD 1 0) (w.1.getD 2 0), w.2) else none)
  else if l a = 114 then (match nmL l 2 (a + 1) with
    | none => none
    | some w => if okR P (w.1.getD 0 0) (w.1.getD 1 0) then some (addR P (w.1.getD 0 0) (w.1.getD 1 0), w.2) else none)
  else none
noncomputable def psr (l : Nat → Nat) (n : Nat) : Nat → Nat → PS → Nat ⊕ PS
  | 0, _, P => .inr P
  | t + 1, a, P => if a < n then (match itS l a P with
    | none => .inl a
    | some q => psr l n t q.2 q.1) else .inr P
def PSOk (P : PS) : Prop := pn P ≤ 8 ∧ pm P ≤ 8 ∧ (∀ i, i < pn P → pK P i ≤ 3 ∧ pb P i ≤ 59 ∧ pW P i ≤ 9) ∧ ∀ r, r < pm P → pA P r ≤ 9 ∧ pB P r ≤ 9
theorem PSOk.addC {P : PS} {x y z : Nat} (hP : PSOk P) (hc : okC P x y z) : PSOk (addC P x y z) := by
  obtain ⟨a1, a2, a3, a4⟩ := hP
  obtain ⟨c1, c2, c3, c4⟩ := hc
  refine ⟨c1, a2, fun i hi => ?_, a4⟩
  show fu (pK P) (pn P) x i ≤ 3 ∧ fu (pb P) (pn P) y i ≤ 59 ∧ fu (pW P) (pn P) z i ≤ 9
  have hi : i < pn P + 1 := hi
  unfold fu
  by_cases q : i = pn P
  · rw [if_pos q, if_pos q, if_pos q]; exact ⟨c2, c3, c4⟩
  · rw [if_neg q, if_neg q, if_neg q]; exact a3 i (by omega)
theorem PSOk.addR {P : PS} {x y : Nat} (hP : PSOk P) (hc : okR P x y) : PSOk (addR P x y) := by
  obtain ⟨a1, a2, a3, a4⟩ := hP
  obtain ⟨c1, c2, c3⟩ := hc
  refine ⟨a1, c1, a3, fun i hi => ?_⟩
  show fu (pA P) (pm P) x i ≤ 9 ∧ fu (pB P) (pm P) y i ≤ 9
  have hi : i < pm P + 1 := hi
  unfold fu
  by_cases q : i = pm P
  · rw [if_pos q, if_pos q]; exact ⟨c2, c3⟩
  · rw [if_neg q, if_neg q]; exact a4 i (by omega)
theorem nsp_lt {l : Nat → Nat} (hl : ∀ k, l k ≤ 126) {sep a : Nat} {q : Nat × Nat} (h2 : nsp l sep a = some q) : q.1 ≤ 99 ∧ a < q.2 ∧ q.2 ≤ a + 3 := by
  unfold nsp at h2
  cases h6 : nu1 l a with
  | none => rw [h6] at h2; cases h2
  | some q1 =>
    rw [h6] at h2
    dsimp only at h2
    split at h2
    · have h7 := Option.some.inj h2
      obtain ⟨y1, y2, y3⟩ := nu1_lt (x := q1.1) (a2 := q1.2) hl h6
      rw [← h7]
      dsimp only
      omega
    · cases h2
theorem nmL_lt {l : Nat → Nat} (hl : ∀ k, l k ≤ 126) : ∀ r a w, nmL l r a = some w → a ≤ w.2 ∧ w.2 ≤ a + 3 * r ∧ ∀ j, w.1.getD j 0 ≤ 99 := by
  intro r
  induction r with
  | zero =>
    intro a w h1
    have h2 := Option.some.inj (show some ([], a) = some w from h1)
    subst h2
    exact ⟨Nat.le_refl _, Nat.le_refl _, fun j => by simp⟩
  | succ r ih =>
    intro a w h1
    unfold nmL at h1
    cases h2 : nsp l (if r = 0 then 59 else 44) a with
    | none => rw [h2] at h1; cases h1
    | some q =>
      rw [h2] at h1
      dsimp only at h1
      cases h3 : nmL l r q.2 with
      | none => rw [h3] at h1; cases h1
      | some w2 =>
        rw [h3] at h1
        have h4 := Option.some.inj h1
        obtain ⟨i1, i2, i3⟩ := ih q.2 w2 h3
        have h5 := nsp_lt hl h2
        rw [← h4]
        refine ⟨by dsimp only; omega, by dsimp only; omega, fun j => ?_⟩
        cases j with
        | zero => exact h5.1
        | succ j => exact i3 j
theorem itS_lt {l : Nat → Nat} (hl : ∀ k, l k ≤ 126) {a : Nat} {P : PS} {q : PS × Nat} (hP : PSOk P) (h1 : itS l a P = some q) : a < q.2 ∧ q.2 ≤ a + 10 ∧ PSOk q.1 := by
  unfold itS at h1
  split at h1
  · cases h2 : nmL l 3 (a + 1) with
    | none => rw [h2] at h1; cases h1
    | some w =>
      rw [h2] at h1
      dsimp only at h1
      have h3 := nmL_lt hl 3 (a + 1) w h2
      split at h1
      · have h4 := Option.some.inj h1
        rw [← h4]
        exact ⟨by dsimp only; omega, by dsimp only; omega, hP.addC (by assumption)⟩
      · cases h1
  · split at h1
    · cases h2 : nmL l 2 (a + 1) with
      | none => rw [h2] at h1; cases h1
      | some w =>
        rw [h2] at h1
        dsimp only at h1
        have h3 := nmL_lt hl 2 (a + 1) w h2
        split at h1
        · have h4 := Option.some.inj h1
          rw [← h4]
          exact ⟨by dsimp only; omega, by dsimp only; omega, hP.addR (by assumption)⟩
        · cases h1
    · cases h1
theorem psr_ok {l : Nat → Nat} {n : Nat} (hl : ∀ k, l k ≤ 126) : ∀ t a P P2, PSOk P → psr l n t a P = .inr P2 → PSOk P2 := by
  intro t
  induction t with
  | zero => intro a P P2 hP h1; cases h1; exact hP
  | succ t ih =>
    intro a P P2 hP h1
    unfold psr at h1
    split at h1
    · cases h2 : itS l a P with
      | none => rw [h2] at h1; cases h1
      | some q =>
        rw [h2] at h1
        exact ih _ _ _ (itS_lt hl hP h2).2.2 h1
    · cases h1; exact hP
/-- the draft: object 10 with rows 11 .. 15 -/
def DR (h : Hp) (P : PS) : Prop := h 10 5 = pn P ∧ h 10 6 = pm P ∧ (∀ i, i < pn P → h 11 i = pK P i ∧ h 12 i = pb P i ∧ h 13 i = pW P i) ∧ ∀ r, r < pm P → h 14 r = pA P r ∧ h 15 r = pB P r
def FD (h h' : Hp) : Prop := ∀ o, o < 10 ∨ 15 < o → h' o = h o
theorem c_P_clear {d : Nat} {h : Hp} : RT mX1_clear d [.ref 10] h (fun v h' => v = none ∧ h' = hw (hw h 10 5 0) 10 6 0) := by
  change AW mX1_clear _ 0 [some (.ref 10)] [] h _
  refine aw_aload_n dX1_clear_0 rfl rfl ?_
  refine aw_iconst (v := nI 0) dX1_clear_1 (by decide) ?_
  refine aw_putfield dX1_clear_2 gX1_27 (by first | assumption | rfl) (by rfl) ?_
  refine aw_aload_n dX1_clear_5 rfl rfl ?_
  refine aw_iconst (v := nI 0) dX1_clear_6 (by decide) ?_
  refine aw_putfield dX1_clear_7 gX1_31 (by first | assumption | rfl) (by rfl) ?_
  refine aw_vret dX1_clear_10 rfl ?_
  exact ⟨rfl, rfl⟩
theorem c_P_canBeLaid {d : Nat} {h : Hp} {P : PS} (hd0 : DR h P) (hP : PSOk P) : RT mX1_canBeLaid d [.ref 10] h (fun v h' => v = some (.int (nI (if 1 ≤ pn P ∧ pm P = pn P then 1 else 0))) ∧ h' = h) := by
  obtain ⟨e1, e2, _, _⟩ := hd0
  obtain ⟨a1, a2, _, _⟩ := hP
  change AW mX1_canBeLaid _ 0 [some (.ref 10)] [] h _
  refine aw_aload_n dX1_canBeLaid_0 rfl rfl ?_
  refine aw_getI dX1_canBeLaid_1 fX1_27 (by first | assumption | rfl) (by rfl) ?_
  refine aw_iconst (v := nI 1) dX1_canBeLaid_4 (by decide) ?_
  refine aw_icmp_ltN (tgt := 23) dX1_canBeLaid_5 (by decide) (by omega) (by omega) (fun c5 => ?_) (fun c5 => ?_)
  · rw [if_neg (by omega)]
    refine aw_iconst (v := nI 0) dX1_canBeLaid_23 (by decide) ?_
    refine aw_iret dX1_canBeLaid_24 rfl (by first | rfl | exact (pk_charN (by omega)).1 | decide) ?_
    exact ⟨rfl, rfl⟩
  · refine aw_aload_n dX1_canBeLaid_8 rfl rfl ?_
    refine aw_getI dX1_canBeLaid_9 fX1_31 (by first | assumption | rfl) (by rfl) ?_
    refine aw_aload_n dX1_canBeLaid_12 rfl rfl ?_
    refine aw_getI dX1_canBeLaid_13 fX1_27 (by first | assumption | rfl) (by rfl) ?_
    refine aw_icmp_neN (tgt := 23) dX1_canBeLaid_16 (by decide) (by omega) (by omega) (fun c16 => ?_) (fun c16 => ?_)
    · rw [if_neg (by omega)]
      refine aw_iconst (v := nI 0) dX1_canBeLaid_23 (by decide) ?_
      refine aw_iret dX1_canBeLaid_24 rfl (by first | rfl | exact (pk_charN (by omega)).1 | decide) ?_
      exact ⟨rfl, rfl⟩
    · rw [if_pos (by omega)]
      refine aw_iconst (v := nI 1) dX1_canBeLaid_19 (by decide) ?_
      refine aw_goto (tgt := 24) dX1_canBeLaid_20 (by decide) ?_
      refine aw_iret dX1_canBeLaid_24 rfl (by first | rfl | exact (pk_charN (by omega)).1 | decide) ?_
      exact ⟨rfl, rfl⟩
theorem c_P_addCousin {d x y z : Nat} {h : Hp} {P : PS} (hd0 : DR h P) (hP : PSOk P) (hx : x ≤ 99) (hy : y ≤ 99) (hz : z ≤ 99) : RT mX1_addCousin (d + 1) [.ref 10, .int (nI x), .int (nI y), .int (nI z)] h (fun v h' => (okC P x y z ∧ v = some (.int (nI 1)) ∧ DR h' (addC P x y z) ∧ FD h h') ∨ (¬ okC P x y z ∧ v = some (.int (nI 0)) ∧ h' = h)) := by
  obtain ⟨e1, e2, e3, e4⟩ := id hd0
  obtain ⟨a1, a2, _, _⟩ := hP
  have bad : ¬ okC P x y z → AW mX1_addCousin (d + 1) 38 [some (.ref 10), some (.int (nI x)), some (.int (nI y)), some (.int (nI z))] [] h (fun v h' => (okC P x y z ∧ v = some (.int (nI 1)) ∧ DR h' (addC P x y z) ∧ FD h h') ∨ (¬ okC P x y z ∧ v = some (.int (nI 0)) ∧ h' = h)) := by
    intro hb
    refine aw_iconst (v := nI 0) dX1_addCousin_38 (by decide) ?_
    refine aw_iret dX1_addCousin_39 rfl (by first | rfl | exact (pk_charN (by omega)).1 | decide) ?_
    exact Or.inr ⟨hb, rfl, rfl⟩
  change AW mX1_addCousin _ 0 [some (.ref 10), some (.int (nI x)), some (.int (nI y)), some (.int (nI z))] [] h _
  refine aw_aload_n dX1_addCousin_0 rfl rfl ?_
  refine aw_getI dX1_addCousin_1 fX1_27 (by first | assumption | rfl) (by rfl) ?_
  refine aw_bipush (v := nI 8) dX1_addCousin_4 (by decide) ?_
  refine aw_icmp_geN (tgt := 38) dX1_addCousin_6 (by decide) (by omega) (by omega) (fun c6 => ?_) (fun c6 => ?_)
  · exact bad (fun q => by have := q.1; omega)
  · refine aw_iload_n dX1_addCousin_9 rfl rfl ?_
    refine aw_iconst (v := nI 0) dX1_addCousin_10 (by decide) ?_
    refine aw_iconst (v := nI 3) dX1_addCousin_11 (by decide) ?_
    refine aw_callSF dX1_addCousin_12 kX1_34 (c_withinN (by omega) (by omega) (by omega)) rfl rfl rfl (Nat.le_of_ble_eq_true rfl) (Nat.le_of_ble_eq_true rfl) ?_
    dsimp only [Option.toList, List.cons_append, List.nil_append, Nat.reduceAdd]
    by_cases q1 : x ≤ 3
    · rw [if_pos ⟨Nat.zero_le _, q1⟩]
      refine aw_if_eqN (tgt := 38) dX1_addCousin_15 (by decide) (by omega) (fun q => absurd q (by omega)) (fun _ => ?_)
      refine aw_iload_n dX1_addCousin_18 rfl rfl ?_
      refine aw_iconst (v := nI 0) dX1_addCousin_19 (by decide) ?_
      refine aw_bipush (v := nI 59) dX1_addCousin_20 (by decide) ?_
      refine aw_callSF dX1_addCousin_22 kX1_34 (c_withinN (by omega) (by omega) (by omega)) rfl rfl rfl (Nat.le_of_ble_eq_true rfl) (Nat.le_of_ble_eq_true rfl) ?_
      dsimp only [Option.toList, List.cons_append, List.nil_append, Nat.reduceAdd]
      by_cases q2 : y ≤ 59
      · rw [if_pos ⟨Nat.zero_le _, q2⟩]
        refine aw_if_eqN (tgt := 38) dX1_addCousin_25 (by decide) (by omega) (fun q => absurd q (by omega)) (fun _ => ?_)
        refine aw_iload_n dX1_addCousin_28 rfl rfl ?_
        refine aw_iconst (v := nI 0) dX1_addCousin_29 (by decide) ?_
        refine aw_bipush (v := nI 9) dX1_addCousin_30 (by decide) ?_
        refine aw_callSF dX1_addCousin_32 kX1_34 (c_withinN (by omega) (by omega) (by omega)) rfl rfl rfl (Nat.le_of_ble_eq_true rfl) (Nat.le_of_ble_eq_true rfl) ?_
        dsimp only [Option.toList, List.cons_append, List.nil_append, Nat.reduceAdd]
        by_cases q3 : z ≤ 9
        · rw [if_pos ⟨Nat.zero_le _, q3⟩]
          refine aw_if_neN (tgt := 40) dX1_addCousin_35 (by decide) (by omega) (fun _ => ?_) (fun q => absurd q (by omega))
          refine aw_aload_n dX1_addCousin_40 rfl rfl ?_
          refine aw_getR dX1_addCousin_41 fX1_9 (by first | assumption | rfl) (by rfl) ?_
          refine aw_aload_n dX1_addCousin_44 rfl rfl ?_
          refine aw_getI dX1_addCousin_45 fX1_27 (by first | assumption | rfl) (by rfl) ?_
          refine aw_iload_n dX1_addCousin_48 rfl rfl ?_
          rw [e1]
          refine aw_callSF dX1_addCousin_49 kX1_38 (c_put (by first | assumption | rfl) (by omega) (by decide)) rfl rfl rfl (Nat.le_of_ble_eq_true rfl) (Nat.le_of_ble_eq_true rfl) ?_
          dsimp only [Option.toList, List.cons_append, List.nil_append, Nat.reduceAdd]
          refine aw_aload_n dX1_addCousin_52 rfl rfl ?_
          refine aw_getR dX1_addCousin_53 fX1_15 (by first | assumption | rfl) (by rfl) ?_
          refine aw_aload_n dX1_addCousin_56 rfl rfl ?_
          refine aw_getI dX1_addCousin_57 fX1_27 (by first | assumption | rfl) (by rfl) ?_
          refine aw_iload_n dX1_addCousin_60 rfl rfl ?_
          rw [hw_ne (by decide), e1]
          refine aw_callSF dX1_addCousin_61 kX1_38 (c_put (by first | assumption | rfl) (by omega) (by decide)) rfl rfl rfl (Nat.le_of_ble_eq_true rfl) (Nat.le_of_ble_eq_true rfl) ?_
          dsimp only [Option.toList, List.cons_append, List.nil_append, Nat.reduceAdd]
          refine aw_aload_n dX1_addCousin_64 rfl rfl ?_
          refine aw_getR dX1_addCousin_65 fX1_18 (by first | assumption | rfl) (by rfl) ?_
          refine aw_aload_n dX1_addCousin_68 rfl rfl ?_
          refine aw_getI dX1_addCousin_69 fX1_27 (by first | assumption | rfl) (by rfl) ?_
          refine aw_iload_n dX1_addCousin_72 rfl rfl ?_
          rw [hw_ne (by decide), hw_ne (by decide), e1]
          refine aw_callSF dX1_addCousin_73 kX1_38 (c_put (by first | assumption | rfl) (by omega) (by decide)) rfl rfl rfl (Nat.le_of_ble_eq_true rfl) (Nat.le_of_ble_eq_true rfl) ?_
          dsimp only [Option.toList, List.cons_append, List.nil_append, Nat.reduceAdd]
          refine aw_aload_n dX1_addCousin_76 rfl rfl ?_
          refine aw_dup dX1_addCousin_77 rfl ?_
          refine aw_getI dX1_addCousin_78 fX1_27 (by first | assumption | rfl) (by rfl) ?_
          refine aw_iconst (v := nI 1) dX1_addCousin_81 (by decide) ?_
          refine aw_iaddN dX1_addCousin_82 ?_
          rw [hw_ne (by decide), hw_ne (by decide), hw_ne (by decide), e1]
          refine aw_putfield dX1_addCousin_83 gX1_27 (by first | assumption | rfl) (by rfl) ?_
          refine aw_iconst (v := nI 1) dX1_addCousin_86 (by decide) ?_
          refine aw_iret dX1_addCousin_87 rfl (by first | rfl | exact (pk_charN (by omega)).1 | decide) ?_
          refine Or.inl ⟨⟨by omega, q1, q2, q3⟩, rfl, ⟨?_, ?_, fun i hi => ?_, fun r hr => ?_⟩, fun o ho => ?_⟩
          · rw [hw_at, if_pos rfl]; rfl
          · rw [hw_at, if_neg (by decide), hw_ne (by decide), hw_ne (by decide), hw_ne (by decide)]; exact e2
          · have hi : i < pn P + 1 := hi
            show _ = fu (pK P) (pn P) x i ∧ _ = fu (pb P) (pn P) y i ∧ _ = fu (pW P) (pn P) z i
            unfold fu
            by_cases qi : i = pn P
            · subst qi
              rw [if_pos rfl, if_pos rfl, if_pos rfl]
              refine ⟨?_, ?_, ?_⟩
              · rw [hw_ne (by decide), hw_ne (by decide), hw_ne (by decide), hw_at, if_pos rfl]
              · rw [hw_ne (by decide), hw_ne (by decide), hw_at, if_pos rfl]
              · rw [hw_ne (by decide), hw_at, if_pos rfl]
            · rw [if_neg qi, if_neg qi, if_neg qi]
              have := e3 i (by omega)
              refine ⟨?_, ?_, ?_⟩
              · rw [hw_ne (by decide), hw_ne (by decide), hw_ne (by decide), hw_at, if_neg qi]; exact this.1
              · rw [hw_ne (by decide), hw_ne (by decide), hw_at, if_neg qi, hw_ne (by decide)]; exact this.2.1
              · rw [hw_ne (by decide), hw_at, if_neg qi, hw_ne (by decide), hw_ne (by decide)]; exact this.2.2
          · have := e4 r hr
            show _ = pA P r ∧ _ = pB P r
            rw [hw_ne (a := 14) (by decide), hw_ne (a := 14) (by decide), hw_ne (a := 14) (by decide), hw_ne (a := 14) (by decide), hw_ne (a := 15) (by decide), hw_ne (a := 15) (by decide), hw_ne (a := 15) (by decide), hw_ne (a := 15) (by decide)]
            exact this
          · rw [hw_ne (by omega), hw_ne (by omega), hw_ne (by omega), hw_ne (by omega)]
        · rw [if_neg (by omega)]
          refine aw_if_neN (tgt := 40) dX1_addCousin_35 (by decide) (by omega) (fun q => absurd q (by omega)) (fun _ => ?_)
          exact bad (fun q => by have := q.2.2.2; omega)
      · rw [if_neg (by omega)]
        refine aw_if_eqN (tgt := 38) dX1_addCousin_25 (by decide) (by omega) (fun _ => ?_) (fun q => absurd q (by omega))
        exact bad (fun q => by have := q.2.2.1; omega)
    · rw [if_neg (by omega)]
      refine aw_if_eqN (tgt := 38) dX1_addCousin_15 (by decide) (by omega) (fun _ => ?_) (fun q => absurd q (by omega))
      exact bad (fun q => by have := q.2.1; omega)
theorem c_P_addRoom {d x y : Nat} {h : Hp} {P : PS} (hd0 : DR h P) (hP : PSOk P) (hx : x ≤ 99) (hy : y ≤ 99) : RT mX1_addRoom (d + 1) [.ref 10, .int (nI x), .int (nI y)] h (fun v h' => (okR P x y ∧ v = some (.int (nI 1)) ∧ DR h' (addR P x y) ∧ FD h h') ∨ (¬ okR P x y ∧ v = some (.int (nI 0)) ∧ h' = h)) := by
  obtain ⟨e1, e2, e3, e4⟩ := id hd0
  obtain ⟨a1, a2, _, _⟩ := hP
  have bad : ¬ okR P x y → AW mX1_addRoom (d + 1) 29 [some (.ref 10), some (.int (nI x)), some (.int (nI y))] [] h (fun v h' => (okR P x y ∧ v = some (.int (nI 1)) ∧ DR h' (addR P x y) ∧ FD h h') ∨ (¬ okR P x y ∧ v = some (.int (nI 0)) ∧ h' = h)) := by
    intro hb
    refine aw_iconst (v := nI 0) dX1_addRoom_29 (by decide) ?_
    refine aw_iret dX1_addRoom_30 rfl (by first | rfl | exact (pk_charN (by omega)).1 | decide) ?_
    exact Or.inr ⟨hb, rfl, rfl⟩
  change AW mX1_addRoom _ 0 [some (.ref 10), some (.int (nI x)), some (.int (nI y))] [] h _
  refine aw_aload_n dX1_addRoom_0 rfl rfl ?_
  refine aw_getI dX1_addRoom_1 fX1_31 (by first | assumption | rfl) (by rfl) ?_
  refine aw_bipush (v := nI 8) dX1_addRoom_4 (by decide) ?_
  refine aw_icmp_geN (tgt := 29) dX1_addRoom_6 (by decide) (by omega) (by omega) (fun c6 => ?_) (fun c6 => ?_)
  · exact bad (fun q => by have := q.1; omega)
  · refine aw_iload_n dX1_addRoom_9 rfl rfl ?_
    refine aw_iconst (v := nI 0) dX1_addRoom_10 (by decide) ?_
    refine aw_bipush (v := nI 9) dX1_addRoom_11 (by decide) ?_
    refine aw_callSF dX1_addRoom_13 kX1_34 (c_withinN (by omega) (by omega) (by omega)) rfl rfl rfl (Nat.le_of_ble_eq_true rfl) (Nat.le_of_ble_eq_true rfl) ?_
    dsimp only [Option.toList, List.cons_append, List.nil_append, Nat.reduceAdd]
    by_cases q1 : x ≤ 9
    · rw [if_pos ⟨Nat.zero_le _, q1⟩]
      refine aw_if_eqN (tgt := 29) dX1_addRoom_16 (by decide) (by omega) (fun q => absurd q (by omega)) (fun _ => ?_)
      refine aw_iload_n dX1_addRoom_19 rfl rfl ?_
      refine aw_iconst (v := nI 0) dX1_addRoom_20 (by decide) ?_
      refine aw_bipush (v := nI 9) dX1_addRoom_21 (by decide) ?_
      refine aw_callSF dX1_addRoom_23 kX1_34 (c_withinN (by omega) (by omega) (by omega)) rfl rfl rfl (Nat.le_of_ble_eq_true rfl) (Nat.le_of_ble_eq_true rfl) ?_
      dsimp only [Option.toList, List.cons_append, List.nil_append, Nat.reduceAdd]
      by_cases q2 : y ≤ 9
      · rw [if_pos ⟨Nat.zero_le _, q2⟩]
        refine aw_if_neN (tgt := 31) dX1_addRoom_26 (by decide) (by omega) (fun _ => ?_) (fun q => absurd q (by omega))
        refine aw_aload_n dX1_addRoom_31 rfl rfl ?_
        refine aw_getR dX1_addRoom_32 fX1_21 (by first | assumption | rfl) (by rfl) ?_
        refine aw_aload_n dX1_addRoom_35 rfl rfl ?_
        refine aw_getI dX1_addRoom_36 fX1_31 (by first | assumption | rfl) (by rfl) ?_
        refine aw_iload_n dX1_addRoom_39 rfl rfl ?_
        rw [e2]
        refine aw_callSF dX1_addRoom_40 kX1_38 (c_put (by first | assumption | rfl) (by omega) (by decide)) rfl rfl rfl (Nat.le_of_ble_eq_true rfl) (Nat.le_of_ble_eq_true rfl) ?_
        dsimp only [Option.toList, List.cons_append, List.nil_append, Nat.reduceAdd]
        refine aw_aload_n dX1_addRoom_43 rfl rfl ?_
        refine aw_getR dX1_addRoom_44 fX1_24 (by first | assumption | rfl) (by rfl) ?_
        refine aw_aload_n dX1_addRoom_47 rfl rfl ?_
        refine aw_getI dX1_addRoom_48 fX1_31 (by first | assumption | rfl) (by rfl) ?_
        refine aw_iload_n dX1_addRoom_51 rfl rfl ?_
        rw [hw_ne (by decide), e2]
        refine aw_callSF dX1_addRoom_52 kX1_38 (c_put (by first | assumption | rfl) (by omega) (by decide)) rfl rfl rfl (Nat.le_of_ble_eq_true rfl) (Nat.le_of_ble_eq_true rfl) ?_
        dsimp only [Option.toList, List.cons_append, List.nil_append, Nat.reduceAdd]
        refine aw_aload_n dX1_addRoom_55 rfl rfl ?_
        refine aw_dup dX1_addRoom_56 rfl ?_
        refine aw_getI dX1_addRoom_57 fX1_31 (by first | assumption | rfl) (by rfl) ?_
        refine aw_iconst (v := nI 1) dX1_addRoom_60 (by decide) ?_
        refine aw_iaddN dX1_addRoom_61 ?_
        rw [hw_ne (by decide), hw_ne (by decide), e2]
        refine aw_putfield dX1_addRoom_62 gX1_31 (by first | assumption | rfl) (by rfl) ?_
        refine aw_iconst (v := nI 1) dX1_addRoom_65 (by decide) ?_
        refine aw_iret dX1_addRoom_66 rfl (by first | rfl | exact (pk_charN (by omega)).1 | decide) ?_
        refine Or.inl ⟨⟨by omega, q1, q2⟩, rfl, ⟨?_, ?_, fun i hi => ?_, fun r hr => ?_⟩, fun o ho => ?_⟩
        · rw [hw_at, if_neg (by decide), hw_ne (by decide), hw_ne (by decide)]; exact e1
        · rw [hw_at, if_pos rfl]; rfl
        · have := e3 i hi
          show _ = pK P i ∧ _ = pb P i ∧ _ = pW P i
          rw [hw_ne (a := 11) (by decide), hw_ne (a := 11) (by decide), hw_ne (a := 11) (by decide), hw_ne (a := 12) (by decide), hw_ne (a := 12) (by decide), hw_ne (a := 12) (by decide), hw_ne (a := 13) (by decide), hw_ne (a := 13) (by decide), hw_ne (a := 13) (by decide)]
          exact this
        · have hr : r < pm P + 1 := hr
          show _ = fu (pA P) (pm P) x r ∧ _ = fu (pB P) (pm P) y r
          unfold fu
          by_cases qi : r = pm P
          · subst qi
            rw [if_pos rfl, if_pos rfl]
            refine ⟨?_, ?_⟩
            · rw [hw_ne (by decide), hw_ne (by decide), hw_at, if_pos rfl]
            · rw [hw_ne (by decide), hw_at, if_pos rfl]
          · rw [if_neg qi, if_neg qi]
            have := e4 r (by omega)
            refine ⟨?_, ?_⟩
            · rw [hw_ne (by decide), hw_ne (by decide), hw_at, if_neg qi]; exact this.1
            · rw [hw_ne (by decide), hw_at, if_neg qi, hw_ne (by decide)]; exact this.2
        · rw [hw_ne (by omega), hw_ne (by omega), hw_ne (by omega)]
      · rw [if_neg (by omega)]
        refine aw_if_neN (tgt := 31) dX1_addRoom_26 (by decide) (by omega) (fun q => absurd q (by omega)) (fun _ => ?_)
        exact bad (fun q => by have := q.2.2; omega)
    · rw [if_neg (by omega)]
      refine aw_if_eqN (tgt := 29) dX1_addRoom_16 (by decide) (by omega) (fun _ => ?_) (fun q => absurd q (by omega))
      exact bad (fun q => by have := q.2.1; omega)
def FTD (h h' : Hp) : Prop := h' 1 2 = h 1 2 ∧ ∀ o, o ≠ 1 → o ≠ 3 → (o < 10 ∨ 15 < o) → h' o = h o
theorem FTD.of3 {h h' : Hp} (a : FT3 h h') : FTD h h' := ⟨a.1, fun o p q _ => a.2 o p q⟩
theorem FTD.ofD {h h' : Hp} (a : FD h h') : FTD h h' := ⟨by rw [a 1 (by decide)], fun o _ _ p => a o p⟩
theorem FTD.trans {h h1 h2 : Hp} (a : FTD h h1) (b : FTD h1 h2) : FTD h h2 := ⟨b.1.trans a.1, fun o p q r => (b.2 o p q r).trans (a.2 o p q r)⟩
theorem DR.fr3 {h h' : Hp} {P : PS} (hd0 : DR h P) (hf : FT3 h h') : DR h' P := by
  unfold DR
  rw [hf.2 10 (by decide) (by decide), hf.2 11 (by decide) (by decide), hf.2 12 (by decide) (by decide), hf.2 13 (by decide) (by decide), hf.2 14 (by decide) (by decide), hf.2 15 (by decide) (by decide)]
  exact hd0
theorem TXS.fr {h h' : Hp} {T : Nat → Nat} {n a a2 : Nat} (ht : TXS h T n a) (hf : FTD h h') (ha : h' 1 3 = a2) : TXS h' T n a2 := by
  refine ⟨hf.1.trans ht.1, ha, fun k hk => ?_⟩
  rw [hf.2 2 (by decide) (by decide) (by decide)]
  exact ht.2.2 k hk
def riQ (l : Nat → Nat) (h : Hp) (a : Nat) (P : PS) : Option Value → Hp → Prop := fun v h' => FTD h h' ∧ match itS l a P with
  | none => v = some (.int (nI 0))
  | some q => v = some (.int (nI 1)) ∧ DR h' q.1 ∧ h' 1 3 = q.2
theorem c_T_readItem {d n a : Nat} {h : Hp} {T : Nat → Nat} {P : PS} (ht : TXS h T n a) (hk : TOk T n) (ha : a < n) (hd0 : DR h P) (hP : PSOk P) : RT mX5_readItem (d + 3) [.ref 1, .ref 10] h (riQ (ltr T n) h a P) := by
  have hn := hk.1
  have hl := ltr_lt hk
  have hla := hl a
  have e13 := ht.2.1
  have t2 : TXS (hw h 1 3 (a + 1)) T n (a + 1) := ht.go
  have f2 : FT3 h (hw h 1 3 (a + 1)) := FT3.place
  have d2 : DR (hw h 1 3 (a + 1)) P := hd0.fr3 f2
  change AW mX5_readItem _ 0 [some (.ref 1), some (.ref 10), none] [] h _
  refine aw_aload_n dX5_readItem_0 rfl rfl ?_
  refine aw_callVF dX5_readItem_1 kX5_35 (c_T_letterHere ht hk (by omega)) (by first | assumption | rfl) rfl rfl rfl (Nat.le_of_ble_eq_true rfl) (Nat.le_of_ble_eq_true rfl) ?_
  dsimp only [Option.toList, List.cons_append, List.nil_append, Nat.reduceAdd]
  refine aw_istore_n dX5_readItem_4 rfl (Nat.le_of_ble_eq_true rfl) rfl ?_
  dsimp only [List.set]
  refine aw_aload_n dX5_readItem_5 rfl rfl ?_
  refine aw_dup dX5_readItem_6 rfl ?_
  refine aw_getI dX5_readItem_7 fX5_28 (by first | assumption | rfl) (by rfl) ?_
  refine aw_iconst (v := nI 1) dX5_readItem_10 (by decide) ?_
  refine aw_iaddN dX5_readItem_11 ?_
  rw [e13]
  refine aw_putfield dX5_readItem_12 gX5_28 (by first | assumption | rfl) (by rfl) ?_
  refine aw_iload_n dX5_readItem_15 rfl rfl ?_
  refine aw_bipush (v := nI 99) dX5_readItem_16 (by decide) ?_
  refine aw_icmp_neN (tgt := 66) dX5_readItem_18 (by decide) (by omega) (by omega) (fun c18 => ?_) (fun c18 => ?_)
  · -- no cousin
    refine aw_iload_n dX5_readItem_66 rfl rfl ?_
    refine aw_bipush (v := nI 114) dX5_readItem_67 (by decide) ?_
    refine aw_icmp_neN (tgt := 109) dX5_readItem_69 (by decide) (by omega) (by omega) (fun c69 => ?_) (fun c69 => ?_)
    · -- nothing known
      have ez : itS (ltr T n) a P = none := by unfold itS; rw [if_neg c18, if_neg c69]
      refine aw_iconst (v := nI 0) dX5_readItem_109 (by decide) ?_
      refine aw_iret dX5_readItem_110 rfl (by first | rfl | exact (pk_charN (by omega)).1 | decide) ?_
      exact ⟨FTD.of3 f2, by rw [ez]⟩
    · have hc : ltr T n a = 114 := by omega
      refine aw_aload_n dX5_readItem_72 rfl rfl ?_
      refine aw_iconst (v := nI 2) dX5_readItem_73 (by decide) ?_
      refine aw_callV dX5_readItem_74 kX5_39 (c_T_readNumbers t2 hk (by omega) (by omega)) (by first | assumption | rfl) rfl rfl rfl (Nat.le_of_ble_eq_true rfl) (Nat.le_of_ble_eq_true rfl) ?_
      rintro v h3 ⟨f3, hq⟩
      dsimp only [Option.toList, List.cons_append, List.nil_append, Nat.reduceAdd]
      cases hz : nmL (ltr T n) 2 (a + 1) with
      | none =>
        rw [hz] at hq
        dsimp only at hq
        subst hq
        have ez : itS (ltr T n) a P = none := by unfold itS; rw [if_neg c18, if_pos hc, hz]
        refine aw_if_eqN (tgt := 107) dX5_readItem_77 (by decide) (by omega) (fun _ => ?_) (fun q => absurd q (by omega))
        refine aw_iconst (v := nI 0) dX5_readItem_107 (by decide) ?_
        refine aw_iret dX5_readItem_108 rfl (by first | rfl | exact (pk_charN (by omega)).1 | decide) ?_
        exact ⟨FTD.of3 (f2.trans f3), by rw [ez]⟩
      | some w =>
        rw [hz] at hq
        obtain ⟨rfl, q2, q3, q4⟩ := hq
        have q30 : h3 3 0 = w.1.getD 0 0 := q3 0 (by decide)
        have q31 : h3 3 1 = w.1.getD 1 0 := q3 1 (by decide)
        have hb := (nmL_lt hl 2 _ w hz).2.2
        have d3 : DR h3 P := d2.fr3 f3
        refine aw_if_eqN (tgt := 107) dX5_readItem_77 (by decide) (by omega) (fun q => absurd q (by omega)) (fun _ => ?_)
        refine aw_aload_n dX5_readItem_80 rfl rfl ?_
        refine aw_aload_n dX5_readItem_81 rfl rfl ?_
        refine aw_getR dX5_readItem_82 fX5_15 (by first | assumption | rfl) (by rfl) ?_
        refine aw_iconst (v := nI 0) dX5_readItem_85 (by decide) ?_
        refine aw_callSF dX5_readItem_86 kX5_43 (c_at (by first | assumption | rfl) (by omega) (by decide)) rfl rfl rfl (Nat.le_of_ble_eq_true rfl) (Nat.le_of_ble_eq_true rfl) ?_
        dsimp only [Option.toList, List.cons_append, List.nil_append, Nat.reduceAdd]
        refine aw_aload_n dX5_readItem_89 rfl rfl ?_
        refine aw_getR dX5_readItem_90 fX5_15 (by first | assumption | rfl) (by rfl) ?_
        refine aw_iconst (v := nI 1) dX5_readItem_93 (by decide) ?_
        refine aw_callSF dX5_readItem_94 kX5_43 (c_at (by first | assumption | rfl) (by omega) (by decide)) rfl rfl rfl (Nat.le_of_ble_eq_true rfl) (Nat.le_of_ble_eq_true rfl) ?_
        dsimp only [Option.toList, List.cons_append, List.nil_append, Nat.reduceAdd]
        rw [q30, q31]
        refine aw_callV dX5_readItem_97 kX5_51 (c_P_addRoom d3 hP (hb 0) (hb 1)) (by first | assumption | rfl) rfl rfl rfl (Nat.le_of_ble_eq_true rfl) (Nat.le_of_ble_eq_true rfl) ?_
        rintro v h4 hq4
        dsimp only [Option.toList, List.cons_append, List.nil_append, Nat.reduceAdd]
        rcases hq4 with ⟨o1, rfl, o3, o4⟩ | ⟨o1, rfl, rfl⟩
        · have ez : itS (ltr T n) a P = some (addR P (w.1.getD 0 0) (w.1.getD 1 0), w.2) := by
            unfold itS
            rw [if_neg c18, if_pos hc, hz]
            dsimp only
            rw [if_pos o1]
          refine aw_if_eqN (tgt := 107) dX5_readItem_100 (by decide) (by omega) (fun q => absurd q (by omega)) (fun _ => ?_)
          refine aw_iconst (v := nI 1) dX5_readItem_103 (by decide) ?_
          refine aw_goto (tgt := 108) dX5_readItem_104 (by decide) ?_
          refine aw_iret dX5_readItem_108 rfl (by first | rfl | exact (pk_charN (by omega)).1 | decide) ?_
          refine ⟨(FTD.of3 (f2.trans f3)).trans (FTD.ofD o4), ?_⟩
          rw [ez]
          exact ⟨rfl, o3, by rw [o4 1 (by decide)]; exact q2⟩
        · have ez : itS (ltr T n) a P = none := by
            unfold itS
            rw [if_neg c18, if_pos hc, hz]
            dsimp only
            rw [if_neg o1]
          refine aw_if_eqN (tgt := 107) dX5_readItem_100 (by decide) (by omega) (fun _ => ?_) (fun q => absurd q (by omega))
          refine aw_iconst (v := nI 0) dX5_readItem_107 (by decide) ?_
          refine aw_iret dX5_readItem_108 rfl (by first | rfl | exact (pk_charN (by omega)).1 | decide) ?_
          exact ⟨FTD.of3 (f2.trans f3), by rw [ez]⟩
  · have hc : ltr T n a = 99 := by omega
    refine aw_aload_n dX5_readItem_21 rfl rfl ?_
    refine aw_iconst (v := nI 3) dX5_readItem_22 (by decide) ?_
    refine aw_callV dX5_readItem_23 kX5_39 (c_T_readNumbers t2 hk (by omega) (by omega)) (by first | assumption | rfl) rfl rfl rfl (Nat.le_of_ble_eq_true rfl) (Nat.le_of_ble_eq_true rfl) ?_
    rintro v h3 ⟨f3, hq⟩
    dsimp only [Option.toList, List.cons_append, List.nil_append, Nat.reduceAdd]
    cases hz : nmL (ltr T n) 3 (a + 1) with
    | none =>
      rw [hz] at hq
      dsimp only at hq
      subst hq
      have ez : itS (ltr T n) a P = none := by unfold itS; rw [if_pos hc, hz]
      refine aw_if_eqN (tgt := 64) dX5_readItem_26 (by decide) (by omega) (fun _ => ?_) (fun q => absurd q (by omega))
      refine aw_iconst (v := nI 0) dX5_readItem_64 (by decide) ?_
      refine aw_iret dX5_readItem_65 rfl (by first | rfl | exact (pk_charN (by omega)).1 | decide) ?_
      exact ⟨FTD.of3 (f2.trans f3), by rw [ez]⟩
    | some w =>
      rw [hz] at hq
      obtain ⟨rfl, q2, q3, q4⟩ := hq
      have q30 : h3 3 0 = w.1.getD 0 0 := q3 0 (by decide)
      have q31 : h3 3 1 = w.1.getD 1 0 := q3 1 (by decide)
      have q32 : h3 3 2 = w.1.getD 2 0 := q3 2 (by decide)
      have hb := (nmL_lt hl 3 _ w hz).2.2
      have d3 : DR h3 P := d2.fr3 f3
      refine aw_if_eqN (tgt := 64) dX5_readItem_26 (by decide) (by omega) (fun q => absurd q (by omega)) (fun _ => ?_)
      refine aw_aload_n dX5_readItem_29 rfl rfl ?_
      refine aw_aload_n dX5_readItem_30 rfl rfl ?_
      refine aw_getR dX5_readItem_31 fX5_15 (by first | assumption | rfl) (by rfl) ?_
      refine aw_iconst (v := nI 0) dX5_readItem_34 (by decide) ?_
      refine aw_callSF dX5_readItem_35 kX5_43 (c_at (by first | assumption | rfl) (by omega) (by decide)) rfl rfl rfl (Nat.le_of_ble_eq_true rfl) (Nat.le_of_ble_eq_true rfl) ?_
      dsimp only [Option.toList, List.cons_append, List.nil_append, Nat.reduceAdd]
      refine aw_aload_n dX5_readItem_38 rfl rfl ?_
      refine aw_getR dX5_readItem_39 fX5_15 (by first | assumption | rfl) (by rfl) ?_
      refine aw_iconst (v := nI 1) dX5_readItem_42 (by decide) ?_
      refine aw_callSF dX5_readItem_43 kX5_43 (c_at (by first | assumption | rfl) (by omega) (by decide)) rfl rfl rfl (Nat.le_of_ble_eq_true rfl) (Nat.le_of_ble_eq_true rfl) ?_
      dsimp only [Option.toList, List.cons_append, List.nil_append, Nat.reduceAdd]
      refine aw_aload_n dX5_readItem_46 rfl rfl ?_
      refine aw_getR dX5_readItem_47 fX5_15 (by first | assumption | rfl) (by rfl) ?_
      refine aw_iconst (v := nI 2) dX5_readItem_50 (by decide) ?_
      refine aw_callSF dX5_readItem_51 kX5_43 (c_at (by first | assumption | rfl) (by omega) (by decide)) rfl rfl rfl (Nat.le_of_ble_eq_true rfl) (Nat.le_of_ble_eq_true rfl) ?_
      dsimp only [Option.toList, List.cons_append, List.nil_append, Nat.reduceAdd]
      rw [q30, q31, q32]
      refine aw_callV dX5_readItem_54 kX5_47 (c_P_addCousin d3 hP (hb 0) (hb 1) (hb 2)) (by first | assumption | rfl) rfl rfl rfl (Nat.le_of_ble_eq_true rfl) (Nat.le_of_ble_eq_true rfl) ?_
      rintro v h4 hq4
      dsimp only [Option.toList, List.cons_append, List.nil_append, Nat.reduceAdd]
      rcases hq4 with ⟨o1, rfl, o3, o4⟩ | ⟨o1, rfl, rfl⟩
      · have ez : itS (ltr T n) a P = some (addC P (w.1.getD 0 0) (w.1.getD 1 0) (w.1.getD 2 0), w.2) := by
          unfold itS
          rw [if_pos hc, hz]
          dsimp only
          rw [if_pos o1]
        refine aw_if_eqN (tgt := 64) dX5_readItem_57 (by decide) (by omega) (fun q => absurd q (by omega)) (fun _ => ?_)
        refine aw_iconst (v := nI 1) dX5_readItem_60 (by decide) ?_
        refine aw_goto (tgt := 65) dX5_readItem_61 (by decide) ?_
        refine aw_iret dX5_readItem_65 rfl (by first | rfl | exact (pk_charN (by omega)).1 | decide) ?_
        refine ⟨(FTD.of3 (f2.trans f3)).trans (FTD.ofD o4), ?_⟩
        rw [ez]
        exact ⟨rfl, o3, by rw [o4 1 (by decide)]; exact q2⟩
      · have ez : itS (ltr T n) a P = none := by
          unfold itS
          rw [if_pos hc, hz]
          dsimp only
          rw [if_neg o1]
        refine aw_if_eqN (tgt := 64) dX5_readItem_57 (by decide) (by omega) (fun _ => ?_) (fun q => absurd q (by omega))
        refine aw_iconst (v := nI 0) dX5_readItem_64 (by decide) ?_
        refine aw_iret dX5_readItem_65 rfl (by first | rfl | exact (pk_charN (by omega)).1 | decide) ?_
        exact ⟨FTD.of3 (f2.trans f3), by rw [ez]⟩
def P00 : PS := (0, fun _ => 0, fun _ => 0, fun _ => 0, 0, fun _ => 0, fun _ => 0)
theorem P00_ok : PSOk P00 := ⟨Nat.zero_le _, Nat.zero_le _, fun i hi => by have hi : i < 0 := hi; omega, fun i hi => by have hi : i < 0 := hi; omega⟩
def rdQ (z : Nat ⊕ PS) (h : Hp) : Option Value → Hp → Prop := fun v h' => FTD h h' ∧ match z with
  | .inl a => v = some (.int (nI a))
  | .inr P => v = some (.int (nI 4294967292)) ∧ DR h' P
theorem c_T_readInto {d n a0 : Nat} {h : Hp} {T : Nat → Nat} (ht : TXS h T n a0) (hk : TOk T n) : RT mX5_readInto (d + 4) [.ref 1, .ref 10] h (rdQ (psr (ltr T n) n 200 0 P00) h) := by
  have hn := hk.1
  have hl := ltr_lt hk
  have loop : ∀ u k a P hh, k + u = 200 → a ≤ 2 ^ 20 → TXS hh T n a → DR hh P → PSOk P → FTD h hh → AW mX5_readInto (d + 4) 11 [some (.ref 1), some (.ref 10), some (.int (nI k)), none] [] hh (rdQ (psr (ltr T n) n u a P) h) := by
    intro u
    induction u with
    | zero =>
      intro k a P hh hku ha htx hdr hP hf
      refine aw_iload_n dX5_readInto_11 rfl rfl ?_
      refine aw_sipush (v := nI 200) dX5_readInto_12 (by decide) ?_
      refine aw_icmp_geN (tgt := 50) dX5_readInto_15 (by decide) (by omega) (by omega) (fun _ => ?_) (fun q => absurd q (by omega))
      refine aw_bipush (v := nI 4294967292) dX5_readInto_50 (by decide) ?_
      refine aw_iret dX5_readInto_52 rfl (by first | rfl | exact (pk_charN (by omega)).1 | decide) ?_
      exact ⟨hf, rfl, hdr⟩
    | succ u ih =>
      intro k a P hh hku ha htx hdr hP hf
      obtain ⟨e1, e2, e3⟩ := id htx
      refine aw_iload_n dX5_readInto_11 rfl rfl ?_
      refine aw_sipush (v := nI 200) dX5_readInto_12 (by decide) ?_
      refine aw_icmp_geN (tgt := 50) dX5_readInto_15 (by decide) (by omega) (by omega) (fun q => absurd q (by omega)) (fun _ => ?_)
      refine aw_aload_n dX5_readInto_18 rfl rfl ?_
      refine aw_getI dX5_readInto_19 fX5_28 (by first | assumption | rfl) (by rfl) ?_
      refine aw_aload_n dX5_readInto_22 rfl rfl ?_
      refine aw_getI dX5_readInto_23 fX5_19 (by first | assumption | rfl) (by rfl) ?_
      rw [e1, e2]
      refine aw_icmp_geN (tgt := 50) dX5_readInto_26 (by decide) (by omega) (by omega) (fun c26 => ?_) (fun c26 => ?_)
      · have ez : psr (ltr T n) n (u + 1) a P = .inr P := by unfold psr; rw [if_neg (by omega)]
        rw [ez]
        refine aw_bipush (v := nI 4294967292) dX5_readInto_50 (by decide) ?_
        refine aw_iret dX5_readInto_52 rfl (by first | rfl | exact (pk_charN (by omega)).1 | decide) ?_
        exact ⟨hf, rfl, hdr⟩
      · have han : a < n := by omega
        refine aw_aload_n dX5_readInto_29 rfl rfl ?_
        refine aw_getI dX5_readInto_30 fX5_28 (by first | assumption | rfl) (by rfl) ?_
        rw [e2]
        refine aw_istore_n dX5_readInto_33 rfl (Nat.le_of_ble_eq_true rfl) rfl ?_
        dsimp only [List.set]
        refine aw_aload_n dX5_readInto_34 rfl rfl ?_
        refine aw_aload_n dX5_readInto_35 rfl rfl ?_
        refine aw_callV dX5_readInto_36 kX5_31 (c_T_readItem htx hk han hdr hP) (by first | assumption | rfl) rfl rfl rfl (Nat.le_of_ble_eq_true rfl) (Nat.le_of_ble_eq_true rfl) ?_
        rintro v h2 ⟨f2, hq⟩
        dsimp only [Option.toList, List.cons_append, List.nil_append, Nat.reduceAdd]
        cases hz : itS (ltr T n) a P with
        | none =>
          rw [hz] at hq
          dsimp only at hq
          subst hq
          have ez : psr (ltr T n) n (u + 1) a P = .inl a := by unfold psr; rw [if_pos han, hz]
          rw [ez]
          refine aw_if_neN (tgt := 44) dX5_readInto_39 (by decide) (by omega) (fun q => absurd q (by omega)) (fun _ => ?_)
          refine aw_iload_n dX5_readInto_42 rfl rfl ?_
          refine aw_iret dX5_readInto_43 rfl (by first | rfl | exact (pk_charN (by omega)).1 | decide) ?_
          exact ⟨hf.trans f2, rfl⟩
        | some q =>
          rw [hz] at hq
          obtain ⟨rfl, q2, q3⟩ := hq
          have ez : psr (ltr T n) n (u + 1) a P = psr (ltr T n) n u q.2 q.1 := by
            conv => lhs; unfold psr
            rw [if_pos han, hz]
          rw [ez]
          obtain ⟨i1, i2, i3⟩ := itS_lt hl hP hz
          refine aw_if_neN (tgt := 44) dX5_readInto_39 (by decide) (by omega) (fun _ => ?_) (fun q => absurd q (by omega))
          refine aw_iincN (v := 1) dX5_readInto_44 rfl rfl ?_
          dsimp only [List.set]
          refine aw_goto (tgt := 11) dX5_readInto_47 (by decide) ?_
          refine aw_forget 3 ?_
          dsimp only [List.set]
          exact ih (k + 1) q.2 q.1 h2 (by omega) (by omega) (htx.fr f2 q3) q2 i3 (hf.trans f2)
  change AW mX5_readInto _ 0 [some (.ref 1), some (.ref 10), none, none] [] h _
  refine aw_aload_n dX5_readInto_0 rfl rfl ?_
  refine aw_callVF dX5_readInto_1 kX5_23 (c_P_clear) (by first | assumption | rfl) rfl rfl rfl (Nat.le_of_ble_eq_true rfl) (Nat.le_of_ble_eq_true rfl) ?_
  dsimp only [Option.toList, List.cons_append, List.nil_append, Nat.reduceAdd]
  refine aw_aload_n dX5_readInto_4 rfl rfl ?_
  refine aw_iconst (v := nI 0) dX5_readInto_5 (by decide) ?_
  refine aw_putfield dX5_readInto_6 gX5_28 (by first | assumption | rfl) (by rfl) ?_
  refine aw_iconst (v := nI 0) dX5_readInto_9 (by decide) ?_
  refine aw_istore_n dX5_readInto_10 rfl (Nat.le_of_ble_eq_true rfl) rfl ?_
  dsimp only [List.set]
  refine loop 200 0 0 P00 _ (by omega) (by omega) ?_ ?_ P00_ok ?_
  · refine ⟨?_, by rw [hw_at, if_pos rfl], fun k hk2 => ?_⟩
    · rw [hw_at, if_neg (by decide), hw_ne (by decide), hw_ne (by decide)]; exact ht.1
    · rw [hw_ne (by decide), hw_ne (by decide), hw_ne (by decide)]; exact ht.2.2 k hk2
  · refine ⟨?_, ?_, fun i hi => by have hi : i < 0 := hi; omega, fun i hi => by have hi : i < 0 := hi; omega⟩
    · rw [hw_ne (by decide), hw_at, if_neg (by decide), hw_at, if_pos rfl]; rfl
    · rw [hw_ne (by decide), hw_at, if_pos rfl]; rfl
  · refine ⟨?_, fun o p q r => ?_⟩
    · rw [hw_at, if_neg (by decide), hw_ne (by decide), hw_ne (by decide)]
    · rw [hw_ne p, hw_ne (by omega), hw_ne (by omega)]
end
section
/-! Piles of standings: 22 (eight) and 48 (two); standing k of pile P is object P + 2 + 3 * k -/
abbrev Sv : Type := Nat × (Nat → Nat) × (Nat → Nat)
def SVt (h : Hp) (n o : Nat) (c : Sv) : Prop := SV h n o c.1 c.2.1 c.2.2
theorem SVt.fr {h h' : Hp} {n o : Nat} {c : Sv} (hv : SVt h n o c) (e0 : h' o = h o) (e1 : h' (o + 1) = h (o + 1)) (e2 : h' (o + 2) = h (o + 2)) : SVt h' n o c := by
  unfold SVt SV
  rw [e0, e1, e2]
  exact hv
theorem SVt.cp {h : Hp} {n o p : Nat} {c : Sv} (hv : SVt h n p c) (hn : n ≤ 8) (hne : p + 2 < o ∨ o + 2 < p) : SVt (hcs h p o) n o c := by
  refine ⟨by rw [hcs_0]; exact hv.1, fun i hi => ⟨?_, ?_⟩⟩
  · rw [hcs_1 hne (by omega)]; exact (hv.2 i hi).1
  · rw [hcs_2 hne (by omega)]; exact (hv.2 i hi).2
def PL (P n : Nat) : Prop := (P = 22 ∧ n = 8) ∨ (P = 48 ∧ n = 2)
theorem PL.at {P n : Nat} (hp : PL P n) : lay[P]? = some (oO 0 [some (P + 1), none]) ∧ ∃ rs, lay[P + 1]? = some (oR rs) ∧ rs.length = n ∧ ∀ k, k < n → rs[k]? = some (P + 2 + 3 * k) ∧ SD (P + 2 + 3 * k) := by
  rcases hp with ⟨rfl, rfl⟩ | ⟨rfl, rfl⟩
  · refine ⟨rfl, _, rfl, rfl, ?_⟩
    intro k hk
    rcases (show k = 0 ∨ k = 1 ∨ k = 2 ∨ k = 3 ∨ k = 4 ∨ k = 5 ∨ k = 6 ∨ k = 7 by omega) with rfl | rfl | rfl | rfl | rfl | rfl | rfl | rfl <;> exact ⟨rfl, rfl, rfl, rfl⟩
  · refine ⟨rfl, _, rfl, rfl, ?_⟩
    intro k hk
    rcases (show k = 0 ∨ k = 1 by omega) with rfl | rfl <;> exact ⟨rfl, rfl, rfl, rfl⟩
theorem PL.n8 {P n : Nat} (hp : PL P n) : 2 ≤ n ∧ n ≤ 8 ∧ 22 ≤ P ∧ P ≤ 48 := by
  rcases hp with ⟨rfl, rfl⟩ | ⟨rfl, rfl⟩ <;> decide
theorem c_L_isFull {d P n s : Nat} {h : Hp} (hp : PL P n) (hs : h P 1 = s) (hsn : s ≤ n) : RT mX0_isFull d [.ref P] h (fun v h' => v = some (.int (nI (if s = n then 1 else 0))) ∧ h' = h) := by
  obtain ⟨l0, rs, l1, l2, l3⟩ := hp.at
  have hn8 := hp.n8
  change AW mX0_isFull _ 0 [some (.ref P)] [] h _
  refine aw_aload_n dX0_isFull_0 rfl rfl ?_
  refine aw_getI dX0_isFull_1 fX0_22 (by first | assumption | rfl) (by rfl) ?_
  refine aw_aload_n dX0_isFull_4 rfl rfl ?_
  refine aw_getR dX0_isFull_5 fX0_15 (by first | assumption | rfl) (by rfl) ?_
  refine aw_alenR dX0_isFull_8 (by first | assumption | rfl) ?_
  refine aw_icmp_ltN (tgt := 16) dX0_isFull_9 (by decide) (by omega) (by omega) (fun c9 => ?_) (fun c9 => ?_)
  · rw [if_neg (by omega)]
    refine aw_iconst (v := nI 0) dX0_isFull_16 (by decide) ?_
    refine aw_iret dX0_isFull_17 rfl (by first | rfl | exact (pk_charN (by omega)).1 | decide) ?_
    exact ⟨rfl, rfl⟩
  · rw [if_pos (by omega)]
    refine aw_iconst (v := nI 1) dX0_isFull_12 (by decide) ?_
    refine aw_goto (tgt := 17) dX0_isFull_13 (by decide) ?_
    refine aw_iret dX0_isFull_17 rfl (by first | rfl | exact (pk_charN (by omega)).1 | decide) ?_
    exact ⟨rfl, rfl⟩
theorem c_L_size {d P n : Nat} {h : Hp} (hp : PL P n) : RT mX0_size d [.ref P] h (fun v h' => v = some (.int (nI (h P 1))) ∧ h' = h) := by
  have l0 := hp.at.1
  change AW mX0_size _ 0 [some (.ref P)] [] h _
  refine aw_aload_n dX0_size_0 rfl rfl ?_
  refine aw_getI dX0_size_1 fX0_22 (by first | assumption | rfl) (by rfl) ?_
  refine aw_iret dX0_size_4 rfl (by first | rfl | exact (pk_charN (by omega)).1 | decide) ?_
  exact ⟨rfl, rfl⟩
theorem c_L_clear {d P n : Nat} {h : Hp} (hp : PL P n) : RT mX0_clear d [.ref P] h (fun v h' => v = none ∧ h' = hw h P 1 0) := by
  have l0 := hp.at.1
  change AW mX0_clear _ 0 [some (.ref P)] [] h _
  refine aw_aload_n dX0_clear_0 rfl rfl ?_
  refine aw_iconst (v := nI 0) dX0_clear_1 (by decide) ?_
  refine aw_putfield dX0_clear_2 gX0_22 (by first | assumption | rfl) (by rfl) ?_
  refine aw_vret dX0_clear_5 rfl ?_
  exact ⟨rfl, rfl⟩
theorem c_L_at {d P n k : Nat} {h : Hp} (hp : PL P n) (hk : k < n) : RT mX0_standingAt d [.ref P, .int (nI k)] h (fun v h' => v = some (.ref (P + 2 + 3 * k)) ∧ h' = h) := by
  obtain ⟨l0, rs, l1, l2, l3⟩ := hp.at
  have hn8 := hp.n8
  have hrk := (l3 k hk).1
  change AW mX0_standingAt _ 0 [some (.ref P), some (.int (nI k))] [] h _
  refine aw_iload_n dX0_standingAt_0 rfl rfl ?_
  refine aw_if_ltN (tgt := 22) dX0_standingAt_1 (by decide) (by omega) (fun q => absurd q (by omega)) (fun _ => ?_)
  refine aw_iload_n dX0_standingAt_4 rfl rfl ?_
  refine aw_aload_n dX0_standingAt_5 rfl rfl ?_
  refine aw_getR dX0_standingAt_6 fX0_15 (by first | assumption | rfl) (by rfl) ?_
  refine aw_alenR dX0_standingAt_9 (by first | assumption | rfl) ?_
  refine aw_icmp_geN (tgt := 22) dX0_standingAt_10 (by decide) (by omega) (by omega) (fun q => absurd q (by omega)) (fun _ => ?_)
  refine aw_aload_n dX0_standingAt_13 rfl rfl ?_
  refine aw_getR dX0_standingAt_14 fX0_15 (by first | assumption | rfl) (by rfl) ?_
  refine aw_iload_n dX0_standingAt_17 rfl rfl ?_
  refine aw_aaload dX0_standingAt_18 l1 hrk (by omega) ?_
  refine aw_goto (tgt := 23) dX0_standingAt_19 (by decide) ?_
  refine aw_aret dX0_standingAt_23 rfl (by first | exact Or.inl ⟨_, rfl⟩ | exact Or.inr ⟨_, rfl⟩) (by first | exact Or.inr ⟨_, rfl⟩ | exact Or.inl rfl) ?_
  exact ⟨rfl, rfl⟩
theorem c_L_atN {d P n : Nat} {h : Hp} (hp : PL P n) : RT mX0_standingAt d [.ref P, .int (nI 0 - nI 1)] h (fun v h' => v = some .null ∧ h' = h) := by
  obtain ⟨l0, rs, l1, l2, l3⟩ := hp.at
  change AW mX0_standingAt _ 0 [some (.ref P), some (.int (nI 0 - nI 1))] [] h _
  refine aw_iload_n dX0_standingAt_0 rfl rfl ?_
  refine aw_if_lt (tgt := 22) dX0_standingAt_1 (by decide) (fun q => ?_) (fun q => absurd (by decide) q)
  refine aw_null dX0_standingAt_22 ?_
  refine aw_aret dX0_standingAt_23 rfl (by first | exact Or.inl ⟨_, rfl⟩ | exact Or.inr ⟨_, rfl⟩) (by first | exact Or.inr ⟨_, rfl⟩ | exact Or.inl rfl) ?_
  exact ⟨rfl, rfl⟩
/-- outside the pile P of n nothing has changed -/
def FP (P n : Nat) (h h' : Hp) : Prop := ∀ o, o < P ∨ P + 2 + 3 * n ≤ o → h' o = h o
theorem c_L_loseLowest {d P n s N : Nat} {h : Hp} {U : Nat → Sv} (hp : PL P n) (hs : h P 1 = s) (hsn : s ≤ n) (hs1 : 1 ≤ s) (hN : N ≤ 8) (hu : ∀ k, k < s → SVt h N (P + 2 + 3 * k) (U k)) :
    RT mX0_loseLowest (d + 2) [.ref P] h (fun v h' => v = none ∧ h' P 1 = s - 1 ∧ (∀ k, k < s - 1 → SVt h' N (P + 2 + 3 * k) (U (k + 1))) ∧ FP P n h h') := by
  obtain ⟨l0, rs, l1, l2, l3⟩ := hp.at
  have hn8 := hp.n8
  have loop : ∀ u k hh, k + u + 1 = s → hh P 1 = s → (∀ j, j < k → SVt hh N (P + 2 + 3 * j) (U (j + 1))) → (∀ j, k ≤ j → j < s → SVt hh N (P + 2 + 3 * j) (U j)) → FP P n h hh → AW mX0_loseLowest (d + 2) 2 [some (.ref P), some (.int (nI k)), none, none] [] hh (fun v h' => v = none ∧ h' P 1 = s - 1 ∧ (∀ k, k < s - 1 → SVt h' N (P + 2 + 3 * k) (U (k + 1))) ∧ FP P n h h') := by
    intro u
    induction u with
    | zero =>
      intro k hh hk g1 g2 g3 g4
      refine aw_iload_n dX0_loseLowest_2 rfl rfl ?_
      refine aw_iconst (v := nI 1) dX0_loseLowest_3 (by decide) ?_
      refine aw_iaddN dX0_loseLowest_4 ?_
      refine aw_aload_n dX0_loseLowest_5 rfl rfl ?_
      refine aw_getI dX0_loseLowest_6 fX0_22 (by first | assumption | rfl) (by rfl) ?_
      rw [g1]
      refine aw_icmp_geN (tgt := 45) dX0_loseLowest_9 (by decide) (by omega) (by omega) (fun _ => ?_) (fun q => absurd q (by omega))
      refine aw_aload_n dX0_loseLowest_45 rfl rfl ?_
      refine aw_iconst (v := nI 0) dX0_loseLowest_46 (by decide) ?_
      refine aw_aload_n dX0_loseLowest_47 rfl rfl ?_
      refine aw_getI dX0_loseLowest_48 fX0_22 (by first | assumption | rfl) (by rfl) ?_
      rw [g1]
      refine aw_iconst (v := nI 1) dX0_loseLowest_51 (by decide) ?_
      refine aw_isubN dX0_loseLowest_52 (by omega) ?_
      refine aw_mmaxN dX0_loseLowest_53 kX0_7 (by omega) (by omega) (Nat.le_of_ble_eq_true rfl) ?_
      refine aw_putfield dX0_loseLowest_56 gX0_22 (by first | assumption | rfl) (by rfl) ?_
      refine aw_vret dX0_loseLowest_59 rfl ?_
      refine ⟨rfl, ?_, fun j hj => ?_, fun o ho => ?_⟩
      · rw [hw_at, if_pos rfl, Nat.max_eq_right (Nat.zero_le _)]
      · exact (g2 j (by omega)).fr (hw_ne (by omega)) (hw_ne (by omega)) (hw_ne (by omega))
      · rw [hw_ne (by omega)]; exact g4 o ho
    | succ u ih =>
      intro k hh hk g1 g2 g3 g4
      have sk := (l3 k (by omega)).2
      have sk1 := (l3 (k + 1) (by omega)).2
      have lk := sk.1
      refine aw_iload_n dX0_loseLowest_2 rfl rfl ?_
      refine aw_iconst (v := nI 1) dX0_loseLowest_3 (by decide) ?_
      refine aw_iaddN dX0_loseLowest_4 ?_
      refine aw_aload_n dX0_loseLowest_5 rfl rfl ?_
      refine aw_getI dX0_loseLowest_6 fX0_22 (by first | assumption | rfl) (by rfl) ?_
      rw [g1]
      refine aw_icmp_geN (tgt := 45) dX0_loseLowest_9 (by decide) (by omega) (by omega) (fun q => absurd q (by omega)) (fun _ => ?_)
      refine aw_aload_n dX0_loseLowest_12 rfl rfl ?_
      refine aw_iload_n dX0_loseLowest_13 rfl rfl ?_
      refine aw_callVF dX0_loseLowest_14 kX0_33 (c_L_at hp (by omega)) (by first | assumption | rfl) rfl rfl rfl (Nat.le_of_ble_eq_true rfl) (Nat.le_of_ble_eq_true rfl) ?_
      dsimp only [Option.toList, List.cons_append, List.nil_append, Nat.reduceAdd]
      refine aw_astore_n dX0_loseLowest_17 rfl (Nat.le_of_ble_eq_true rfl) rfl ?_
      dsimp only [List.set]
      refine aw_aload_n dX0_loseLowest_18 rfl rfl ?_
      refine aw_iload_n dX0_loseLowest_19 rfl rfl ?_
      refine aw_iconst (v := nI 1) dX0_loseLowest_20 (by decide) ?_
      refine aw_iaddN dX0_loseLowest_21 ?_
      refine aw_callVF dX0_loseLowest_22 kX0_33 (c_L_at hp (by omega)) (by first | assumption | rfl) rfl rfl rfl (Nat.le_of_ble_eq_true rfl) (Nat.le_of_ble_eq_true rfl) ?_
      dsimp only [Option.toList, List.cons_append, List.nil_append, Nat.reduceAdd]
      refine aw_astore_n dX0_loseLowest_25 rfl (Nat.le_of_ble_eq_true rfl) rfl ?_
      dsimp only [List.set]
      refine aw_aload_n dX0_loseLowest_26 rfl rfl ?_
      refine aw_ifnull dX0_loseLowest_27 ?_
      refine aw_aload_n dX0_loseLowest_30 rfl rfl ?_
      refine aw_ifnull dX0_loseLowest_31 ?_
      refine aw_aload_n dX0_loseLowest_34 rfl rfl ?_
      refine aw_aload_n dX0_loseLowest_35 rfl rfl ?_
      refine aw_callVF dX0_loseLowest_36 kX0_37 (c_S_copyFrom (by first | assumption | exact ⟨rfl, rfl, rfl⟩) (by first | assumption | exact ⟨rfl, rfl, rfl⟩) (by omega)) (by first | assumption | rfl) rfl rfl rfl (Nat.le_of_ble_eq_true rfl) (Nat.le_of_ble_eq_true rfl) ?_
      dsimp only [Option.toList, List.cons_append, List.nil_append, Nat.reduceAdd]
      refine aw_iincN (v := 1) dX0_loseLowest_39 rfl rfl ?_
      dsimp only [List.set]
      refine aw_goto (tgt := 2) dX0_loseLowest_42 (by decide) ?_
      refine aw_forget 2 ?_
      refine aw_forget 3 ?_
      dsimp only [List.set]
      refine ih (k + 1) _ (by omega) ?_ (fun j hj => ?_) (fun j hj1 hj2 => ?_) (fun o ho => ?_)
      · rw [hcs_ne (by omega) (by omega) (by omega)]; exact g1
      · by_cases z : j = k
        · subst z
          exact (g3 (j + 1) (by omega) (by omega)).cp hN (by omega)
        · exact (g2 j (by omega)).fr (hcs_ne (by omega) (by omega) (by omega)) (hcs_ne (by omega) (by omega) (by omega)) (hcs_ne (by omega) (by omega) (by omega))
      · exact (g3 j (by omega) hj2).fr (hcs_ne (by omega) (by omega) (by omega)) (hcs_ne (by omega) (by omega) (by omega)) (hcs_ne (by omega) (by omega) (by omega))
      · rw [hcs_ne (by omega) (by omega) (by omega)]; exact g4 o ho
  change AW mX0_loseLowest _ 0 [some (.ref P), none, none, none] [] h _
  refine aw_iconst (v := nI 0) dX0_loseLowest_0 (by decide) ?_
  refine aw_istore_n dX0_loseLowest_1 rfl (Nat.le_of_ble_eq_true rfl) rfl ?_
  dsimp only [List.set]
  exact loop (s - 1) 0 h (by omega) hs (fun j hj => by omega) (fun j _ hj => hu j hj) (fun o _ => rfl)
/-- one more on a pile of at most n -/
def pus (n s : Nat) (U : Nat → Sv) (c : Sv) : Nat × (Nat → Sv) := if s = n then (n, fun k => if k = n - 1 then c else U (k + 1)) else (s + 1, fun k => if k = s then c else U k)
theorem c_L_push {d P n s N : Nat} {h : Hp} {U : Nat → Sv} {c : Sv} (hp : PL P n) (hs : h P 1 = s) (hsn : s ≤ n) (hN : N ≤ 8) (hu : ∀ k, k < s → SVt h N (P + 2 + 3 * k) (U k)) (hc : SVt h N 16 c) :
    RT mX0_push (d + 3) [.ref P, .ref 16] h (fun v h' => v = none ∧ h' P 1 = (pus n s U c).1 ∧ (∀ k, k < (pus n s U c).1 → SVt h' N (P + 2 + 3 * k) ((pus n s U c).2 k)) ∧ FP P n h h') := by
  obtain ⟨l0, rs, l1, l2, l3⟩ := hp.at
  have hn8 := hp.n8
  have fin : ∀ (s2 : Nat) (U2 : Nat → Sv) (hh : Hp), s2 < n → hh P 1 = s2 → (∀ k, k < s2 → SVt hh N (P + 2 + 3 * k) (U2 k)) → FP P n h hh → AW mX0_push (d + 3) 11 [some (.ref P), some (.ref 16), none] [] hh (fun v h' => v = none ∧ h' P 1 = s2 + 1 ∧ (∀ k, k < s2 + 1 → SVt h' N (P + 2 + 3 * k) (if k = s2 then c else U2 k)) ∧ FP P n h h') := by
    intro s2 U2 hh h1 h2 h3 h4
    have ss := (l3 s2 h1).2
    have ls := ss.1
    have hc2 : SVt hh N 16 c := hc.fr (h4 16 (by omega)) (h4 17 (by omega)) (h4 18 (by omega))
    refine aw_aload_n dX0_push_11 rfl rfl ?_
    refine aw_aload_n dX0_push_12 rfl rfl ?_
    refine aw_getI dX0_push_13 fX0_22 (by first | assumption | rfl) (by rfl) ?_
    rw [h2]
    refine aw_callVF dX0_push_16 kX0_33 (c_L_at hp h1) (by first | assumption | rfl) rfl rfl rfl (Nat.le_of_ble_eq_true rfl) (Nat.le_of_ble_eq_true rfl) ?_
    dsimp only [Option.toList, List.cons_append, List.nil_append, Nat.reduceAdd]
    refine aw_astore_n dX0_push_19 rfl (Nat.le_of_ble_eq_true rfl) rfl ?_
    dsimp only [List.set]
    refine aw_aload_n dX0_push_20 rfl rfl ?_
    refine aw_ifnull dX0_push_21 ?_
    refine aw_aload_n dX0_push_24 rfl rfl ?_
    refine aw_aload_n dX0_push_25 rfl rfl ?_
    refine aw_callVF dX0_push_26 kX0_37 (c_S_copyFrom (by first | assumption | exact ⟨rfl, rfl, rfl⟩) (by first | assumption | exact ⟨rfl, rfl, rfl⟩) (by omega)) (by first | assumption | rfl) rfl rfl rfl (Nat.le_of_ble_eq_true rfl) (Nat.le_of_ble_eq_true rfl) ?_
    dsimp only [Option.toList, List.cons_append, List.nil_append, Nat.reduceAdd]
    refine aw_aload_n dX0_push_29 rfl rfl ?_
    refine aw_dup dX0_push_30 rfl ?_
    refine aw_getI dX0_push_31 fX0_22 (by first | assumption | rfl) (by rfl) ?_
    refine aw_iconst (v := nI 1) dX0_push_34 (by decide) ?_
    refine aw_iaddN dX0_push_35 ?_
    rw [hcs_ne (by omega) (by omega) (by omega), h2]
    refine aw_putfield dX0_push_36 gX0_22 (by first | assumption | rfl) (by rfl) ?_
    refine aw_vret dX0_push_39 rfl ?_
    refine ⟨rfl, by rw [hw_at, if_pos rfl], fun k hk => ?_, fun o ho => ?_⟩
    · by_cases z : k = s2
      · rw [if_pos z]
        subst z
        exact (hc2.cp hN (by omega)).fr (hw_ne (by omega)) (hw_ne (by omega)) (hw_ne (by omega))
      · rw [if_neg z]
        exact ((h3 k (by omega)).fr (hcs_ne (by omega) (by omega) (by omega)) (hcs_ne (by omega) (by omega) (by omega)) (hcs_ne (by omega) (by omega) (by omega))).fr (hw_ne (by omega)) (hw_ne (by omega)) (hw_ne (by omega))
    · rw [hw_ne (by omega), hcs_ne (by omega) (by omega) (by omega)]; exact h4 o ho
  change AW mX0_push _ 0 [some (.ref P), some (.ref 16), none] [] h _
  refine aw_aload_n dX0_push_0 rfl rfl ?_
  refine aw_callVF dX0_push_1 kX0_26 (c_L_isFull hp hs hsn) (by first | assumption | rfl) rfl rfl rfl (Nat.le_of_ble_eq_true rfl) (Nat.le_of_ble_eq_true rfl) ?_
  dsimp only [Option.toList, List.cons_append, List.nil_append, Nat.reduceAdd]
  by_cases hf : s = n
  · rw [if_pos hf]
    refine aw_if_eqN (tgt := 11) dX0_push_4 (by decide) (by omega) (fun q => absurd q (by omega)) (fun _ => ?_)
    refine aw_aload_n dX0_push_7 rfl rfl ?_
    refine aw_callV dX0_push_8 kX0_30 (c_L_loseLowest hp hs hsn (by omega) hN hu) (by first | assumption | rfl) rfl rfl rfl (Nat.le_of_ble_eq_true rfl) (Nat.le_of_ble_eq_true rfl) ?_
    rintro _ h2 ⟨rfl, g1, g2, g3⟩
    dsimp only [Option.toList, List.cons_append, List.nil_append, Nat.reduceAdd]
    have e1 : (pus n s U c).1 = s - 1 + 1 := by unfold pus; rw [if_pos hf]; dsimp only; omega
    have e2 : (pus n s U c).2 = fun k => if k = s - 1 then c else U (k + 1) := by unfold pus; rw [if_pos hf, hf]
    rw [e1, e2]
    exact fin (s - 1) (fun k => U (k + 1)) h2 (by omega) g1 g2 g3
  · rw [if_neg hf]
    refine aw_if_eqN (tgt := 11) dX0_push_4 (by decide) (by omega) (fun _ => ?_) (fun q => absurd q (by omega))
    have e1 : (pus n s U c).1 = s + 1 := by unfold pus; rw [if_neg hf]
    have e2 : (pus n s U c).2 = fun k => if k = s then c else U k := by unfold pus; rw [if_neg hf]
    rw [e1, e2]
    exact fin s U h (by omega) hs hu (fun o _ => rfl)
theorem c_L_popN {d P n : Nat} {h : Hp} (hp : PL P n) (hs : h P 1 = 0) : RT mX0_pop (d + 1) [.ref P, .ref 16] h (fun v h' => v = some (.int (nI 0)) ∧ h' = h) := by
  have l0 := hp.at.1
  change AW mX0_pop _ 0 [some (.ref P), some (.ref 16), none] [] h _
  refine aw_aload_n dX0_pop_0 rfl rfl ?_
  refine aw_aload_n dX0_pop_1 rfl rfl ?_
  refine aw_getI dX0_pop_2 fX0_22 (by first | assumption | rfl) (by rfl) ?_
  refine aw_iconst (v := nI 1) dX0_pop_5 (by decide) ?_
  rw [hs]
  refine aw_isub dX0_pop_6 ?_
  refine aw_callVF dX0_pop_7 kX0_33 (c_L_atN hp) (by first | assumption | rfl) rfl rfl rfl (Nat.le_of_ble_eq_true rfl) (Nat.le_of_ble_eq_true rfl) ?_
  dsimp only [Option.toList, List.cons_append, List.nil_append, Nat.reduceAdd]
  refine aw_astore_nN dX0_pop_10 rfl (Nat.le_of_ble_eq_true rfl) rfl ?_
  dsimp only [List.set]
  refine aw_aload_nN dX0_pop_11 rfl rfl ?_
  refine aw_ifnonnullN dX0_pop_12 ?_
  refine aw_iconst (v := nI 0) dX0_pop_15 (by decide) ?_
  refine aw_iret dX0_pop_16 rfl (by first | rfl | exact (pk_charN (by omega)).1 | decide) ?_
  exact ⟨rfl, rfl⟩
theorem c_L_popS {d P n s N : Nat} {h : Hp} {U : Nat → Sv} (hp : PL P n) (hs : h P 1 = s + 1) (hsn : s + 1 ≤ n) (hN : N ≤ 8) (hu : ∀ k, k < s + 1 → SVt h N (P + 2 + 3 * k) (U k)) :
    RT mX0_pop (d + 2) [.ref P, .ref 16] h (fun v h' => v = some (.int (nI 1)) ∧ h' P 1 = s ∧ SVt h' N 16 (U s) ∧ (∀ o, o ≠ 16 → o ≠ 17 → o ≠ 18 → o ≠ P → h' o = h o)) := by
  obtain ⟨l0, rs, l1, l2, l3⟩ := hp.at
  have hn8 := hp.n8
  have ss := (l3 s (by omega)).2
  change AW mX0_pop _ 0 [some (.ref P), some (.ref 16), none] [] h _
  refine aw_aload_n dX0_pop_0 rfl rfl ?_
  refine aw_aload_n dX0_pop_1 rfl rfl ?_
  refine aw_getI dX0_pop_2 fX0_22 (by first | assumption | rfl) (by rfl) ?_
  refine aw_iconst (v := nI 1) dX0_pop_5 (by decide) ?_
  rw [hs]
  refine aw_isubN dX0_pop_6 (by omega) ?_
  rw [Nat.add_sub_cancel]
  refine aw_callVF dX0_pop_7 kX0_33 (c_L_at hp (by omega)) (by first | assumption | rfl) rfl rfl rfl (Nat.le_of_ble_eq_true rfl) (Nat.le_of_ble_eq_true rfl) ?_
  dsimp only [Option.toList, List.cons_append, List.nil_append, Nat.reduceAdd]
  refine aw_astore_n dX0_pop_10 rfl (Nat.le_of_ble_eq_true rfl) rfl ?_
  dsimp only [List.set]
  refine aw_aload_n dX0_pop_11 rfl rfl ?_
  refine aw_ifnonnull (tgt := 17) dX0_pop_12 (by decide) ?_
  refine aw_aload_n dX0_pop_17 rfl rfl ?_
  refine aw_aload_n dX0_pop_18 rfl rfl ?_
  refine aw_callVF dX0_pop_19 kX0_37 (c_S_copyFrom (by first | assumption | exact ⟨rfl, rfl, rfl⟩) (by first | assumption | exact ⟨rfl, rfl, rfl⟩) (by omega)) (by first | assumption | rfl) rfl rfl rfl (Nat.le_of_ble_eq_true rfl) (Nat.le_of_ble_eq_true rfl) ?_
  dsimp only [Option.toList, List.cons_append, List.nil_append, Nat.reduceAdd]
  refine aw_aload_n dX0_pop_22 rfl rfl ?_
  refine aw_dup dX0_pop_23 rfl ?_
  refine aw_getI dX0_pop_24 fX0_22 (by first | assumption | rfl) (by rfl) ?_
  refine aw_iconst (v := nI 1) dX0_pop_27 (by decide) ?_
  rw [hcs_ne (by omega) (by omega) (by omega), hs]
  refine aw_isubN dX0_pop_28 (by omega) ?_
  refine aw_putfield dX0_pop_29 gX0_22 (by first | assumption | rfl) (by rfl) ?_
  refine aw_iconst (v := nI 1) dX0_pop_32 (by decide) ?_
  refine aw_iret dX0_pop_33 rfl (by first | rfl | exact (pk_charN (by omega)).1 | decide) ?_
  refine ⟨rfl, by rw [hw_at, if_pos rfl, Nat.add_sub_cancel], ?_, fun o h1 h2 h3 h4 => ?_⟩
  · exact ((hu s (by omega)).cp hN (by omega)).fr (hw_ne (by omega)) (hw_ne (by omega)) (hw_ne (by omega))
  · rw [hw_ne h4, hcs_ne h1 h2 h3]
end
section
/-! Sightings: object 56, rows 57 58 59, size at 3; the class keeps them by days -/
abbrev Zt : Type := Nat × Nat × Nat
def ZX (h : Hp) (c : Nat) (zs : Nat → Zt) : Prop := h 56 3 = c ∧ ∀ k, k < c → h 57 k = (zs k).1 ∧ h 58 k = (zs k).2.1 ∧ h 59 k = (zs k).2.2
/-- zs is Z put in the order of days -/
def ZO (c : Nat) (zs Z : Nat → Zt) : Prop := (∀ k, k < c → ∃ j, j < c ∧ Z j = zs k) ∧ (∀ k, k < c → ∃ j, j < c ∧ zs j = Z k) ∧ ∀ k, k + 1 < c → (zs k).2.2 ≤ (zs (k + 1)).2.2
def FS (h h' : Hp) : Prop := ∀ o, o < 56 ∨ 59 < o → h' o = h o
theorem c_Z_isFull {d : Nat} {h : Hp} (hc : h 56 3 ≤ 8) : RT mX3_isFull d [.ref 56] h (fun v h' => v = some (.int (nI (if h 56 3 = 8 then 1 else 0))) ∧ h' = h) := by
  change AW mX3_isFull _ 0 [some (.ref 56)] [] h _
  refine aw_aload_n dX3_isFull_0 rfl rfl ?_
  refine aw_getI dX3_isFull_1 fX3_21 (by first | assumption | rfl) (by rfl) ?_
  refine aw_bipush (v := nI 8) dX3_isFull_4 (by decide) ?_
  refine aw_icmp_ltN (tgt := 13) dX3_isFull_6 (by decide) (by omega) (by omega) (fun c6 => ?_) (fun c6 => ?_)
  · rw [if_neg (by omega)]
    refine aw_iconst (v := nI 0) dX3_isFull_13 (by decide) ?_
    refine aw_iret dX3_isFull_14 rfl (by first | rfl | exact (pk_charN (by omega)).1 | decide) ?_
    exact ⟨rfl, rfl⟩
  · rw [if_pos (by omega)]
    refine aw_iconst (v := nI 1) dX3_isFull_9 (by decide) ?_
    refine aw_goto (tgt := 14) dX3_isFull_10 (by decide) ?_
    refine aw_iret dX3_isFull_14 rfl (by first | rfl | exact (pk_charN (by omega)).1 | decide) ?_
    exact ⟨rfl, rfl⟩
theorem c_Z_size {d : Nat} {h : Hp} : RT mX3_size d [.ref 56] h (fun v h' => v = some (.int (nI (h 56 3))) ∧ h' = h) := by
  change AW mX3_size _ 0 [some (.ref 56)] [] h _
  refine aw_aload_n dX3_size_0 rfl rfl ?_
  refine aw_getI dX3_size_1 fX3_21 (by first | assumption | rfl) (by rfl) ?_
  refine aw_iret dX3_size_4 rfl (by first | rfl | exact (pk_charN (by omega)).1 | decide) ?_
  exact ⟨rfl, rfl⟩
theorem c_Z_clear {d : Nat} {h : Hp} : RT mX3_clear d [.ref 56] h (fun v h' => v = none ∧ h' = hw h 56 3 0) := by
  change AW mX3_clear _ 0 [some (.ref 56)] [] h _
  refine aw_aload_n dX3_clear_0 rfl rfl ?_
  refine aw_iconst (v := nI 0) dX3_clear_1 (by decide) ?_
  refine aw_putfield dX3_clear_2 gX3_21 (by first | assumption | rfl) (by rfl) ?_
  refine aw_vret dX3_clear_5 rfl ?_
  exact ⟨rfl, rfl⟩
def h3w (h : Hp) (k i r t : Nat) : Hp := hw (hw (hw h 57 k i) 58 k r) 59 k t
theorem c_Z_set {d k i r t : Nat} {h : Hp} (hk : k < 8) : RT mX3_set (d + 1) [.ref 56, .int (nI k), .int (nI i), .int (nI r), .int (nI t)] h (fun v h' => v = none ∧ h' = h3w h k i r t) := by
  change AW mX3_set _ 0 [some (.ref 56), some (.int (nI k)), some (.int (nI i)), some (.int (nI r)), some (.int (nI t))] [] h _
  refine aw_aload_n dX3_set_0 rfl rfl ?_
  refine aw_getR dX3_set_1 fX3_9 (by first | assumption | rfl) (by rfl) ?_
  refine aw_iload_n dX3_set_4 rfl rfl ?_
  refine aw_iload_n dX3_set_5 rfl rfl ?_
  refine aw_callSF dX3_set_6 kX3_33 (c_put (by first | assumption | rfl) (by omega) (by decide)) rfl rfl rfl (Nat.le_of_ble_eq_true rfl) (Nat.le_of_ble_eq_true rfl) ?_
  dsimp only [Option.toList, List.cons_append, List.nil_append, Nat.reduceAdd]
  refine aw_aload_n dX3_set_9 rfl rfl ?_
  refine aw_getR dX3_set_10 fX3_15 (by first | assumption | rfl) (by rfl) ?_
  refine aw_iload_n dX3_set_13 rfl rfl ?_
  refine aw_iload_n dX3_set_14 rfl rfl ?_
  refine aw_callSF dX3_set_15 kX3_33 (c_put (by first | assumption | rfl) (by omega) (by decide)) rfl rfl rfl (Nat.le_of_ble_eq_true rfl) (Nat.le_of_ble_eq_true rfl) ?_
  dsimp only [Option.toList, List.cons_append, List.nil_append, Nat.reduceAdd]
  refine aw_aload_n dX3_set_18 rfl rfl ?_
  refine aw_getR dX3_set_19 fX3_18 (by first | assumption | rfl) (by rfl) ?_
  refine aw_iload_n dX3_set_22 rfl rfl ?_
  refine aw_iload dX3_set_23 rfl ?_
  refine aw_callSF dX3_set_25 kX3_33 (c_put (by first | assumption | rfl) (by omega) (by decide)) rfl rfl rfl (Nat.le_of_ble_eq_true rfl) (Nat.le_of_ble_eq_true rfl) ?_
  dsimp only [Option.toList, List.cons_append, List.nil_append, Nat.reduceAdd]
  refine aw_vret dX3_set_28 rfl ?_
  exact ⟨rfl, rfl⟩
theorem h3w_7 {h : Hp} {k i r t j : Nat} : h3w h k i r t 57 j = if j = k then i else h 57 j := by
  unfold h3w; rw [hw_ne (by decide), hw_ne (by decide), hw_at]
theorem h3w_8 {h : Hp} {k i r t j : Nat} : h3w h k i r t 58 j = if j = k then r else h 58 j := by
  unfold h3w; rw [hw_ne (by decide), hw_at, hw_ne (by decide)]
theorem h3w_9 {h : Hp} {k i r t j : Nat} : h3w h k i r t 59 j = if j = k then t else h 59 j := by
  unfold h3w; rw [hw_at, hw_ne (by decide), hw_ne (by decide)]
theorem h3w_ne {h : Hp} {k i r t a : Nat} (h7 : a ≠ 57) (h8 : a ≠ 58) (h9 : a ≠ 59) : h3w h k i r t a = h a := by
  unfold h3w; rw [hw_ne h9, hw_ne h8, hw_ne h7]
theorem c_Z_add {d c i r t : Nat} {h : Hp} {zs Z : Nat → Zt} (hz : ZX h c zs) (ho : ZO c zs Z) (hc : c < 8) (ht : t ≤ 120) (hb : ∀ k, k < c → (zs k).2.2 ≤ 120) :
    RT mX3_add (d + 2) [.ref 56, .int (nI i), .int (nI r), .int (nI t)] h (fun v h' => v = none ∧ (∃ zs2, ZX h' (c + 1) zs2 ∧ ZO (c + 1) zs2 (fun k => if k = c then (i, r, t) else Z k)) ∧ FS h h') := by
  obtain ⟨z0, z1⟩ := id hz
  have fin : ∀ k hh, k ≤ c → hh 56 3 = c → (∀ x, x < k → hh 57 x = (zs x).1 ∧ hh 58 x = (zs x).2.1 ∧ hh 59 x = (zs x).2.2) → (∀ x, k < x → x ≤ c → hh 57 x = (zs (x - 1)).1 ∧ hh 58 x = (zs (x - 1)).2.1 ∧ hh 59 x = (zs (x - 1)).2.2) → (∀ x, k ≤ x → x < c → t < (zs x).2.2) → (k = 0 ∨ (zs (k - 1)).2.2 ≤ t) → FS h hh →
      AW mX3_add (d + 2) 71 [some (.ref 56), some (.int (nI i)), some (.int (nI r)), some (.int (nI t)), some (.int (nI k))] [] hh (fun v h' => v = none ∧ (∃ zs2, ZX h' (c + 1) zs2 ∧ ZO (c + 1) zs2 (fun k => if k = c then (i, r, t) else Z k)) ∧ FS h h') := by
    intro k hh hk g0 g1 g2 g3 g4 g5
    refine aw_aload_n dX3_add_71 rfl rfl ?_
    refine aw_iload dX3_add_72 rfl ?_
    refine aw_iload_n dX3_add_74 rfl rfl ?_
    refine aw_iload_n dX3_add_75 rfl rfl ?_
    refine aw_iload_n dX3_add_76 rfl rfl ?_
    refine aw_callVF dX3_add_77 kX3_29 (c_Z_set (by omega)) (by first | assumption | rfl) rfl rfl rfl (Nat.le_of_ble_eq_true rfl) (Nat.le_of_ble_eq_true rfl) ?_
    dsimp only [Option.toList, List.cons_append, List.nil_append, Nat.reduceAdd]
    refine aw_aload_n dX3_add_80 rfl rfl ?_
    refine aw_dup dX3_add_81 rfl ?_
    refine aw_getI dX3_add_82 fX3_21 (by first | assumption | rfl) (by rfl) ?_
    refine aw_iconst (v := nI 1) dX3_add_85 (by decide) ?_
    refine aw_iaddN dX3_add_86 ?_
    rw [h3w_ne (by decide) (by decide) (by decide), g0]
    refine aw_putfield dX3_add_87 gX3_21 (by first | assumption | rfl) (by rfl) ?_
    refine aw_vret dX3_add_90 rfl ?_
    refine ⟨rfl, ⟨fun x => if x < k then zs x else if x = k then (i, r, t) else zs (x - 1), ⟨by rw [hw_at, if_pos rfl], fun x hx => ?_⟩, fun x hx => ?_, fun x hx => ?_, fun x hx => ?_⟩, fun o ho2 => ?_⟩
    · rw [hw_ne (a := 57) (by decide), hw_ne (a := 58) (by decide), hw_ne (a := 59) (by decide), h3w_7, h3w_8, h3w_9]
      by_cases q1 : x < k
      · rw [if_neg (by omega), if_neg (by omega), if_neg (by omega)]
        dsimp only
        rw [if_pos q1]
        exact g1 x q1
      · by_cases q2 : x = k
        · rw [if_pos q2, if_pos q2, if_pos q2]
          dsimp only
          rw [if_neg q1, if_pos q2]
          exact ⟨rfl, rfl, rfl⟩
        · rw [if_neg q2, if_neg q2, if_neg q2]
          dsimp only
          rw [if_neg q1, if_neg q2]
          exact g2 x (by omega) (by omega)
    · dsimp only
      by_cases q1 : x < k
      · rw [if_pos q1]
        obtain ⟨j, hj, e⟩ := ho.1 x (by omega)
        exact ⟨j, by omega, by rw [if_neg (by omega)]; exact e⟩
      · by_cases q2 : x = k
        · rw [if_neg q1, if_pos q2]
          exact ⟨c, by omega, by rw [if_pos rfl]⟩
        · rw [if_neg q1, if_neg q2]
          obtain ⟨j, hj, e⟩ := ho.1 (x - 1) (by omega)
          exact ⟨j, by omega, by rw [if_neg (by omega)]; exact e⟩
    · dsimp only
      by_cases q1 : x = c
      · rw [if_pos q1]
        exact ⟨k, by omega, by rw [if_neg (by omega), if_pos rfl]⟩
      · rw [if_neg q1]
        obtain ⟨j, hj, e⟩ := ho.2.1 x (by omega)
        by_cases q2 : j < k
        · exact ⟨j, by omega, by rw [if_pos q2]; exact e⟩
        · exact ⟨j + 1, by omega, by rw [if_neg (by omega), if_neg (by omega), Nat.add_sub_cancel]; exact e⟩
    · dsimp only
      by_cases q1 : x + 1 < k
      · rw [if_pos (by omega), if_pos q1]
        exact ho.2.2 x (by omega)
      · by_cases q2 : x + 1 = k
        · rw [if_pos (by omega), if_neg q1, if_pos q2]
          rcases g4 with z | z
          · omega
          · rw [show x = k - 1 by omega]; exact z
        · by_cases q3 : x = k
          · rw [if_neg (by omega), if_pos q3, if_neg q1, if_neg q2, Nat.add_sub_cancel]
            exact Nat.le_of_lt (g3 x (by omega) (by omega))
          · rw [if_neg (by omega), if_neg q3, if_neg q1, if_neg q2, Nat.add_sub_cancel]
            have := ho.2.2 (x - 1) (by omega)
            rw [show x - 1 + 1 = x by omega] at this
            exact this
    · rw [hw_ne (by omega), h3w_ne (by omega) (by omega) (by omega)]
      exact g5 o ho2
  have loop : ∀ k hh, k ≤ c → hh 56 3 = c → (∀ x, x < k → hh 57 x = (zs x).1 ∧ hh 58 x = (zs x).2.1 ∧ hh 59 x = (zs x).2.2) → (∀ x, k < x → x ≤ c → hh 57 x = (zs (x - 1)).1 ∧ hh 58 x = (zs (x - 1)).2.1 ∧ hh 59 x = (zs (x - 1)).2.2) → (∀ x, k ≤ x → x < c → t < (zs x).2.2) → FS h hh →
      AW mX3_add (d + 2) 6 [some (.ref 56), some (.int (nI i)), some (.int (nI r)), some (.int (nI t)), some (.int (nI k))] [] hh (fun v h' => v = none ∧ (∃ zs2, ZX h' (c + 1) zs2 ∧ ZO (c + 1) zs2 (fun k => if k = c then (i, r, t) else Z k)) ∧ FS h h') := by
    intro k
    induction k with
    | zero =>
      intro hh hk g0 g1 g2 g3 g5
      refine aw_iload dX3_add_6 rfl ?_
      refine aw_if_leN (tgt := 71) dX3_add_8 (by decide) (by omega) (fun _ => ?_) (fun q => absurd q (by omega))
      exact fin 0 hh hk g0 g1 g2 g3 (Or.inl rfl) g5
    | succ k ih =>
      intro hh hk g0 g1 g2 g3 g5
      have gk := g1 k (by omega)
      have hbk := hb k (by omega)
      refine aw_iload dX3_add_6 rfl ?_
      refine aw_if_leN (tgt := 71) dX3_add_8 (by decide) (by omega) (fun q => absurd q (by omega)) (fun _ => ?_)
      refine aw_aload_n dX3_add_11 rfl rfl ?_
      refine aw_getR dX3_add_12 fX3_18 (by first | assumption | rfl) (by rfl) ?_
      refine aw_iload dX3_add_15 rfl ?_
      refine aw_iconst (v := nI 1) dX3_add_17 (by decide) ?_
      refine aw_isubN dX3_add_18 (by omega) ?_
      rw [Nat.add_sub_cancel]
      refine aw_callSF dX3_add_19 kX3_25 (c_at (by first | assumption | rfl) (by omega) (by decide)) rfl rfl rfl (Nat.le_of_ble_eq_true rfl) (Nat.le_of_ble_eq_true rfl) ?_
      dsimp only [Option.toList, List.cons_append, List.nil_append, Nat.reduceAdd]
      rw [gk.2.2]
      refine aw_iload_n dX3_add_22 rfl rfl ?_
      refine aw_icmp_leN (tgt := 71) dX3_add_23 (by decide) (by omega) (by omega) (fun c23 => ?_) (fun c23 => ?_)
      · exact fin (k + 1) hh hk g0 g1 g2 g3 (Or.inr (by rw [Nat.add_sub_cancel]; omega)) g5
      · refine aw_aload_n dX3_add_26 rfl rfl ?_
        refine aw_iload dX3_add_27 rfl ?_
        refine aw_aload_n dX3_add_29 rfl rfl ?_
        refine aw_getR dX3_add_30 fX3_9 (by first | assumption | rfl) (by rfl) ?_
        refine aw_iload dX3_add_33 rfl ?_
        refine aw_iconst (v := nI 1) dX3_add_35 (by decide) ?_
        refine aw_isubN dX3_add_36 (by omega) ?_
        rw [Nat.add_sub_cancel]
        refine aw_callSF dX3_add_37 kX3_25 (c_at (by first | assumption | rfl) (by omega) (by decide)) rfl rfl rfl (Nat.le_of_ble_eq_true rfl) (Nat.le_of_ble_eq_true rfl) ?_
        dsimp only [Option.toList, List.cons_append, List.nil_append, Nat.reduceAdd]
        refine aw_aload_n dX3_add_40 rfl rfl ?_
        refine aw_getR dX3_add_41 fX3_15 (by first | assumption | rfl) (by rfl) ?_
        refine aw_iload dX3_add_44 rfl ?_
        refine aw_iconst (v := nI 1) dX3_add_46 (by decide) ?_
        refine aw_isubN dX3_add_47 (by omega) ?_
        rw [Nat.add_sub_cancel]
        refine aw_callSF dX3_add_48 kX3_25 (c_at (by first | assumption | rfl) (by omega) (by decide)) rfl rfl rfl (Nat.le_of_ble_eq_true rfl) (Nat.le_of_ble_eq_true rfl) ?_
        dsimp only [Option.toList, List.cons_append, List.nil_append, Nat.reduceAdd]
        refine aw_aload_n dX3_add_51 rfl rfl ?_
        refine aw_getR dX3_add_52 fX3_18 (by first | assumption | rfl) (by rfl) ?_
        refine aw_iload dX3_add_55 rfl ?_
        refine aw_iconst (v := nI 1) dX3_add_57 (by decide) ?_
        refine aw_isubN dX3_add_58 (by omega) ?_
        rw [Nat.add_sub_cancel]
        refine aw_callSF dX3_add_59 kX3_25 (c_at (by first | assumption | rfl) (by omega) (by decide)) rfl rfl rfl (Nat.le_of_ble_eq_true rfl) (Nat.le_of_ble_eq_true rfl) ?_
        dsimp only [Option.toList, List.cons_append, List.nil_append, Nat.reduceAdd]
        rw [gk.1, gk.2.1, gk.2.2]
        refine aw_callVF dX3_add_62 kX3_29 (c_Z_set (by omega)) (by first | assumption | rfl) rfl rfl rfl (Nat.le_of_ble_eq_true rfl) (Nat.le_of_ble_eq_true rfl) ?_
        dsimp only [Option.toList, List.cons_append, List.nil_append, Nat.reduceAdd]
        refine aw_iincM dX3_add_65 rfl (by omega) rfl ?_
        dsimp only [List.set]
        refine aw_goto (tgt := 6) dX3_add_68 (by decide) ?_
        rw [Nat.add_sub_cancel]
        refine ih _ (by omega) (by rw [h3w_ne (by decide) (by decide) (by decide)]; exact g0) (fun x hx => ?_) (fun x hx1 hx2 => ?_) (fun x hx1 hx2 => ?_) (fun o ho2 => by rw [h3w_ne (by omega) (by omega) (by omega)]; exact g5 o ho2)
        · rw [h3w_7, h3w_8, h3w_9, if_neg (by omega), if_neg (by omega), if_neg (by omega)]
          exact g1 x (by omega)
        · rw [h3w_7, h3w_8, h3w_9]
          by_cases q : x = k + 1
          · rw [if_pos q, if_pos q, if_pos q, q, Nat.add_sub_cancel]
            exact ⟨rfl, rfl, rfl⟩
          · rw [if_neg q, if_neg q, if_neg q]
            exact g2 x (by omega) hx2
        · by_cases q : x = k
          · subst q; omega
          · exact g3 x (by omega) hx2
  change AW mX3_add _ 0 [some (.ref 56), some (.int (nI i)), some (.int (nI r)), some (.int (nI t)), none] [] h _
  refine aw_aload_n dX3_add_0 rfl rfl ?_
  refine aw_getI dX3_add_1 fX3_21 (by first | assumption | rfl) (by rfl) ?_
  rw [z0]
  refine aw_istore dX3_add_4 (Nat.le_of_ble_eq_true rfl) rfl ?_
  dsimp only [List.set]
  exact loop c h (Nat.le_refl _) z0 z1 (fun x h1 h2 => by omega) (fun x h1 h2 => by omega) (fun o _ => rfl)
theorem rmF_add {S : Hs} {b L : Nat → Nat} {dd : Nat} {f : Nat → Nat} {g : Nat} : ∀ m, rmF S b L (dd + g) (rmF S b L dd f g) m = rmF S b L dd f (g + m) := by
  intro m
  induction m with
  | zero => rfl
  | succ m ih =>
    show chR S b L (dd + g + m) (rmF S b L (dd + g) (rmF S b L dd f g) m) (sn S) = chR S b L (dd + (g + m)) (rmF S b L dd f (g + m)) (sn S)
    rw [ih, Nat.add_assoc]
/-- all that was seen is so, the walk begun with rooms f on day 0 -/
def allS (S : Hs) (b L f : Nat → Nat) (c : Nat) (zs : Nat → Zt) : Prop := ∀ k, k < c → rmF S b L 0 f ((zs k).2.2 + 1) (zs k).1 = (zs k).2.1
theorem c_Z_allHoldOn {d c : Nat} {h : Hp} {S : Hs} {b L f : Nat → Nat} {zs : Nat → Zt} (hws : WS h S b L 0 f (fun _ => 0) 0) (hok : WO S b L) (hpm : PM (sn S) f) (hz : ZX h c zs) (hc : c ≤ 8) (hv : ∀ k, k < c → (zs k).1 < sn S ∧ (zs k).2.1 < sn S ∧ (zs k).2.2 ≤ 120) (hso : ∀ k, k + 1 < c → (zs k).2.2 ≤ (zs (k + 1)).2.2) :
    RT mX3_allHoldOn (d + 5) [.ref 56, .ref 60] h (fun v h' => ((allS S b L f c zs ∧ v = some (.int (nI 1))) ∨ (¬ allS S b L f c zs ∧ v = some (.int (nI 0)))) ∧ FW6 h h') := by
  have h38 := hok.1.2.1
  have hLs : ∀ q, q < sn S → L q < sn S := fun q hq => (hok.2 q hq).2
  have loop : ∀ u k g s c2 hh, k + u = c → g ≤ 121 → (k < c → g ≤ (zs k).2.2 + 1) → WS hh S b L g (rmF S b L 0 f g) s c2 → (∀ j, j < k → rmF S b L 0 f ((zs j).2.2 + 1) (zs j).1 = (zs j).2.1) → FW6 h hh → AW mX3_allHoldOn (d + 5) 4 [some (.ref 56), some (.ref 60), some (.int (nI g)), some (.int (nI k)), none] [] hh (fun v h' => ((allS S b L f c zs ∧ v = some (.int (nI 1))) ∨ (¬ allS S b L f c zs ∧ v = some (.int (nI 0)))) ∧ FW6 h h') := by
    intro u
    induction u with
    | zero =>
      intro k g s c2 hh hk hg hg2 hw1 hall hf
      have e56 : hh 56 3 = c := by rw [hf 56 (by decide)]; exact hz.1
      have ek : k = c := by omega
      subst ek
      refine aw_iload_n dX3_allHoldOn_4 rfl rfl ?_
      refine aw_aload_n dX3_allHoldOn_5 rfl rfl ?_
      refine aw_getI dX3_allHoldOn_6 fX3_21 (by first | assumption | rfl) (by rfl) ?_
      rw [e56]
      refine aw_icmp_geN (tgt := 69) dX3_allHoldOn_9 (by decide) (by omega) (by omega) (fun _ => ?_) (fun q => absurd q (by omega))
      refine aw_iconst (v := nI 1) dX3_allHoldOn_69 (by decide) ?_
      refine aw_iret dX3_allHoldOn_70 rfl (by first | rfl | exact (pk_charN (by omega)).1 | decide) ?_
      exact ⟨Or.inl ⟨hall, rfl⟩, hf⟩
    | succ u ih =>
      intro k g s c2 hh hk hg hg2 hw1 hall hf
      have e56 : hh 56 3 = c := by rw [hf 56 (by decide)]; exact hz.1
      have ez := hz.2 k (by omega)
      have e57 : hh 57 = h 57 := hf 57 (by decide)
      have e58 : hh 58 = h 58 := hf 58 (by decide)
      have e59 : hh 59 = h 59 := hf 59 (by decide)
      obtain ⟨v1, v2, v3⟩ := hv k (by omega)
      have hg3 := hg2 (by omega)
      have hpg := PM_rmF (b := b) (day0 := 0) hok.1 hLs hpm g
      refine aw_iload_n dX3_allHoldOn_4 rfl rfl ?_
      refine aw_aload_n dX3_allHoldOn_5 rfl rfl ?_
      refine aw_getI dX3_allHoldOn_6 fX3_21 (by first | assumption | rfl) (by rfl) ?_
      rw [e56]
      refine aw_icmp_geN (tgt := 69) dX3_allHoldOn_9 (by decide) (by omega) (by omega) (fun q => absurd q (by omega)) (fun _ => ?_)
      refine aw_aload_n dX3_allHoldOn_12 rfl rfl ?_
      refine aw_getR dX3_allHoldOn_13 fX3_18 (by first | assumption | rfl) (by rfl) ?_
      refine aw_iload_n dX3_allHoldOn_16 rfl rfl ?_
      refine aw_callSF dX3_allHoldOn_17 kX3_25 (c_at (by first | assumption | rfl) (by omega) (by decide)) rfl rfl rfl (Nat.le_of_ble_eq_true rfl) (Nat.le_of_ble_eq_true rfl) ?_
      dsimp only [Option.toList, List.cons_append, List.nil_append, Nat.reduceAdd]
      rw [e59, ez.2.2]
      refine aw_iconst (v := nI 1) dX3_allHoldOn_20 (by decide) ?_
      refine aw_iaddN dX3_allHoldOn_21 ?_
      refine aw_istore dX3_allHoldOn_22 (Nat.le_of_ble_eq_true rfl) rfl ?_
      dsimp only [List.set]
      refine aw_aload_n dX3_allHoldOn_24 rfl rfl ?_
      refine aw_iload dX3_allHoldOn_25 rfl ?_
      refine aw_iload_n dX3_allHoldOn_27 rfl rfl ?_
      refine aw_isubN dX3_allHoldOn_28 (by omega) ?_
      refine aw_callV dX3_allHoldOn_29 kX3_37 (c_W_go hw1 hok hpg (by omega)) (by first | assumption | rfl) rfl rfl rfl (Nat.le_of_ble_eq_true rfl) (Nat.le_of_ble_eq_true rfl) ?_
      rintro _ h2 ⟨rfl, hw2, hf2⟩
      dsimp only [Option.toList, List.cons_append, List.nil_append, Nat.reduceAdd]
      refine aw_iload dX3_allHoldOn_32 rfl ?_
      refine aw_istore_n dX3_allHoldOn_34 rfl (Nat.le_of_ble_eq_true rfl) rfl ?_
      dsimp only [List.set]
      refine aw_aload_n dX3_allHoldOn_35 rfl rfl ?_
      have hw3 : WS h2 S b L ((zs k).2.2 + 1) (rmF S b L 0 f ((zs k).2.2 + 1)) (fun i => s i + sunF S b L g (rmF S b L 0 f g) i ((zs k).2.2 + 1 - g)) (c2 + coldF S b L g (rmF S b L 0 f g) ((zs k).2.2 + 1 - g)) := by
        have e1 : g + ((zs k).2.2 + 1 - g) = (zs k).2.2 + 1 := by omega
        have e2 := rmF_add (S := S) (b := b) (L := L) (dd := 0) (f := f) (g := g) ((zs k).2.2 + 1 - g)
        rw [Nat.zero_add] at e2
        rw [e1, e2, e1] at hw2
        exact hw2
      have f3 := hf.trans hf2
      have p57 : h2 57 = h 57 := f3 57 (by decide)
      have p58 : h2 58 = h 58 := f3 58 (by decide)
      have rm := (hw3.2.2.2 (zs k).1 v1).1
      have hpz := (PM_rmF (b := b) (day0 := 0) hok.1 hLs hpm ((zs k).2.2 + 1)).1 _ v1
      refine aw_callVF dX3_allHoldOn_36 kX3_43 (c_W_standing) (by first | assumption | rfl) rfl rfl rfl (Nat.le_of_ble_eq_true rfl) (Nat.le_of_ble_eq_true rfl) ?_
      dsimp only [Option.toList, List.cons_append, List.nil_append, Nat.reduceAdd]
      refine aw_aload_n dX3_allHoldOn_39 rfl rfl ?_
      refine aw_getR dX3_allHoldOn_40 fX3_9 (by first | assumption | rfl) (by rfl) ?_
      refine aw_iload_n dX3_allHoldOn_43 rfl rfl ?_
      refine aw_callSF dX3_allHoldOn_44 kX3_25 (c_at (by first | assumption | rfl) (by omega) (by decide)) rfl rfl rfl (Nat.le_of_ble_eq_true rfl) (Nat.le_of_ble_eq_true rfl) ?_
      dsimp only [Option.toList, List.cons_append, List.nil_append, Nat.reduceAdd]
      rw [p57, ez.1]
      refine aw_callVF dX3_allHoldOn_47 kX3_47 (c_S_roomOf (by first | assumption | exact ⟨rfl, rfl, rfl⟩) (by omega)) (by first | assumption | rfl) rfl rfl rfl (Nat.le_of_ble_eq_true rfl) (Nat.le_of_ble_eq_true rfl) ?_
      dsimp only [Option.toList, List.cons_append, List.nil_append, Nat.reduceAdd]
      refine aw_aload_n dX3_allHoldOn_50 rfl rfl ?_
      refine aw_getR dX3_allHoldOn_51 fX3_15 (by first | assumption | rfl) (by rfl) ?_
      refine aw_iload_n dX3_allHoldOn_54 rfl rfl ?_
      refine aw_callSF dX3_allHoldOn_55 kX3_25 (c_at (by first | assumption | rfl) (by omega) (by decide)) rfl rfl rfl (Nat.le_of_ble_eq_true rfl) (Nat.le_of_ble_eq_true rfl) ?_
      dsimp only [Option.toList, List.cons_append, List.nil_append, Nat.reduceAdd]
      rw [p58, ez.2.1, rm]
      refine aw_icmp_eqN (tgt := 63) dX3_allHoldOn_58 (by decide) (by omega) (by omega) (fun c58 => ?_) (fun c58 => ?_)
      · refine aw_iincN (v := 1) dX3_allHoldOn_63 rfl rfl ?_
        dsimp only [List.set]
        refine aw_goto (tgt := 4) dX3_allHoldOn_66 (by decide) ?_
        refine aw_forget 4 ?_
        dsimp only [List.set]
        refine ih (k + 1) _ _ _ h2 (by omega) (by omega) (fun q => ?_) hw3 (fun j hj => ?_) f3
        · have := hso k q
          omega
        · rcases Nat.lt_succ_iff_lt_or_eq.mp hj with q | q
          · exact hall j q
          · subst q; exact c58
      · refine aw_iconst (v := nI 0) dX3_allHoldOn_61 (by decide) ?_
        refine aw_iret dX3_allHoldOn_62 rfl (by first | rfl | exact (pk_charN (by omega)).1 | decide) ?_
        exact ⟨Or.inr ⟨fun q => c58 (q k (by omega)), rfl⟩, f3⟩
  change AW mX3_allHoldOn _ 0 [some (.ref 56), some (.ref 60), none, none, none] [] h _
  refine aw_iconst (v := nI 0) dX3_allHoldOn_0 (by decide) ?_
  refine aw_istore_n dX3_allHoldOn_1 rfl (Nat.le_of_ble_eq_true rfl) rfl ?_
  dsimp only [List.set]
  refine aw_iconst (v := nI 0) dX3_allHoldOn_2 (by decide) ?_
  refine aw_istore_n dX3_allHoldOn_3 rfl (Nat.le_of_ble_eq_true rfl) rfl ?_
  dsimp only [List.set]
  exact loop c 0 0 _ _ h (by omega) (by omega) (fun _ => Nat.zero_le _) hws (fun j hj => by omega) (fun o _ => rfl)
end
section
/-! Search: object 66 (best at 2, first pair at 3, second pair at 4) -/
abbrev isP (n p : Nat) : Prop := p / 8 < p % 8 ∧ p % 8 < n
def ap (f : Nat → Nat) (p : Nat) : Nat → Nat := swp f (p / 8) (p % 8)
theorem ap_0 (f : Nat → Nat) : ap f 0 = f := by
  funext k
  unfold ap swp
  by_cases q : k = 0
  · subst q; rfl
  · show (if k = 0 then f 0 else if k = 0 then f 0 else f k) = f k
    rw [if_neg q, if_neg q]
/-- the best till now: as much, first pair, second pair -/
abbrev bT : Type := Nat × Nat × Nat
def bU (a : bT) (v x y : Nat) : bT := if a.1 < v then (v, x, y) else a
def FQ (h h' : Hp) : Prop := ∀ o, o < 60 ∨ 66 < o → h' o = h o
theorem FQ.trans {h h1 h2 : Hp} (a : FQ h h1) (b : FQ h1 h2) : FQ h h2 := fun o ho => (b o ho).trans (a o ho)
theorem FQ.of {h h1 : Hp} (a : FW6 h h1) : FQ h h1 := fun o ho => a o (by omega)
theorem HX.fq {h h' : Hp} {S : Hs} (hh : HX h S) (hf : FQ h h') : HX h' S := by
  unfold HX
  rw [hf 4 (by omega), hf 5 (by omega), hf 7 (by omega), hf 8 (by omega), hf 9 (by omega)]
  exact hh
theorem SVt.fq {h h' : Hp} {n o : Nat} {c : Sv} (hv : SVt h n o c) (hf : FQ h h') (ho : o + 2 < 60) : SVt h' n o c := hv.fr (hf _ (by omega)) (hf _ (by omega)) (hf _ (by omega))
/-- a standing that can be -/
def SvOk (n : Nat) (c : Sv) : Prop := c.1 ≤ 9999 ∧ PM n c.2.2 ∧ ∀ i, i < n → c.2.1 i < 60
def cL (n : Nat) (c : Sv) : Nat → Nat := lsB n c.2.1
theorem c_Q_isPair {d p : Nat} {h : Hp} {S : Hs} (hx : HX h S) (hS : HsOk S) (hp : p < 64) : RT mX2_isPair (d + 1) [.ref 66, .int (nI p)] h (fun v h' => v = some (.int (nI (if isP (sn S) p then 1 else 0))) ∧ h' = h) := by
  have e1 := hx.1
  have h38 := hS.2.1
  change AW mX2_isPair _ 0 [some (.ref 66), some (.int (nI p))] [] h _
  refine aw_iload_n dX2_isPair_0 rfl rfl ?_
  refine aw_bipush (v := nI 8) dX2_isPair_1 (by decide) ?_
  refine aw_idivN dX2_isPair_3 (by omega) (by omega) (by omega) ?_
  refine aw_iload_n dX2_isPair_4 rfl rfl ?_
  refine aw_bipush (v := nI 8) dX2_isPair_5 (by decide) ?_
  refine aw_iremN dX2_isPair_7 (by omega) (by omega) (by omega) ?_
  refine aw_icmp_geN (tgt := 29) dX2_isPair_8 (by decide) (by omega) (by omega) (fun c8 => ?_) (fun c8 => ?_)
  · rw [if_neg (by omega)]
    refine aw_iconst (v := nI 0) dX2_isPair_29 (by decide) ?_
    refine aw_iret dX2_isPair_30 rfl (by first | rfl | exact (pk_charN (by omega)).1 | decide) ?_
    exact ⟨rfl, rfl⟩
  · refine aw_iload_n dX2_isPair_11 rfl rfl ?_
    refine aw_bipush (v := nI 8) dX2_isPair_12 (by decide) ?_
    refine aw_iremN dX2_isPair_14 (by omega) (by omega) (by omega) ?_
    refine aw_aload_n dX2_isPair_15 rfl rfl ?_
    refine aw_getR dX2_isPair_16 fX2_9 (by first | assumption | rfl) (by rfl) ?_
    refine aw_callVF dX2_isPair_19 kX2_59 (c_P_cousins) (by first | assumption | rfl) rfl rfl rfl (Nat.le_of_ble_eq_true rfl) (Nat.le_of_ble_eq_true rfl) ?_
    dsimp only [Option.toList, List.cons_append, List.nil_append, Nat.reduceAdd]
    rw [e1]
    refine aw_icmp_geN (tgt := 29) dX2_isPair_22 (by decide) (by omega) (by omega) (fun c22 => ?_) (fun c22 => ?_)
    · rw [if_neg (by omega)]
      refine aw_iconst (v := nI 0) dX2_isPair_29 (by decide) ?_
      refine aw_iret dX2_isPair_30 rfl (by first | rfl | exact (pk_charN (by omega)).1 | decide) ?_
      exact ⟨rfl, rfl⟩
    · rw [if_pos (by omega)]
      refine aw_iconst (v := nI 1) dX2_isPair_25 (by decide) ?_
      refine aw_goto (tgt := 30) dX2_isPair_26 (by decide) ?_
      refine aw_iret dX2_isPair_30 rfl (by first | rfl | exact (pk_charN (by omega)).1 | decide) ?_
      exact ⟨rfl, rfl⟩
/-- which pairs a try by codes one, two stands for -/
def fpO (one two : Nat) : Nat := if one = 0 then (if two = 0 then 4294967292 else two) else one
def spO (one two : Nat) : Nat := if one = 0 then 4294967292 else two
theorem c_Q_take {d m one two : Nat} {h : Hp} (h1 : one < 64) (h2 : two < 64) : RT mX2_take d [.ref 66, .int (nI m), .int (nI one), .int (nI two)] h (fun v h' => v = none ∧ h' = hw (hw (hw h 66 2 m) 66 3 (fpO one two)) 66 4 (spO one two)) := by
  change AW mX2_take _ 0 [some (.ref 66), some (.int (nI m)), some (.int (nI one)), some (.int (nI two))] [] h _
  refine aw_aload_n dX2_take_0 rfl rfl ?_
  refine aw_iload_n dX2_take_1 rfl rfl ?_
  refine aw_putfield dX2_take_2 gX2_19 (by first | assumption | rfl) (by rfl) ?_
  refine aw_aload_n dX2_take_5 rfl rfl ?_
  refine aw_iload_n dX2_take_6 rfl rfl ?_
  refine aw_if_eqN (tgt := 14) dX2_take_7 (by decide) (by omega) (fun c7 => ?_) (fun c7 => ?_)
  · have e1 : spO one two = 4294967292 := by unfold spO; rw [if_pos c7]
    refine aw_iload_n dX2_take_14 rfl rfl ?_
    refine aw_if_eqN (tgt := 22) dX2_take_15 (by decide) (by omega) (fun c15 => ?_) (fun c15 => ?_)
    · have e2 : fpO one two = 4294967292 := by unfold fpO; rw [if_pos c7, if_pos c15]
      rw [e1, e2]
      refine aw_bipush (v := nI 4294967292) dX2_take_22 (by decide) ?_
      refine aw_putfield dX2_take_24 gX2_23 (by first | assumption | rfl) (by rfl) ?_
      refine aw_aload_n dX2_take_27 rfl rfl ?_
      refine aw_iload_n dX2_take_28 rfl rfl ?_
      refine aw_if_eqN (tgt := 36) dX2_take_29 (by decide) (by omega) (fun _ => ?_) (fun q => absurd q (by omega))
      refine aw_bipush (v := nI 4294967292) dX2_take_36 (by decide) ?_
      refine aw_putfield dX2_take_38 gX2_26 (by first | assumption | rfl) (by rfl) ?_
      refine aw_vret dX2_take_41 rfl ?_
      exact ⟨rfl, rfl⟩
    · have e2 : fpO one two = two := by unfold fpO; rw [if_pos c7, if_neg c15]
      rw [e1, e2]
      refine aw_iload_n dX2_take_18 rfl rfl ?_
      refine aw_goto (tgt := 24) dX2_take_19 (by decide) ?_
      refine aw_putfield dX2_take_24 gX2_23 (by first | assumption | rfl) (by rfl) ?_
      refine aw_aload_n dX2_take_27 rfl rfl ?_
      refine aw_iload_n dX2_take_28 rfl rfl ?_
      refine aw_if_eqN (tgt := 36) dX2_take_29 (by decide) (by omega) (fun _ => ?_) (fun q => absurd q (by omega))
      refine aw_bipush (v := nI 4294967292) dX2_take_36 (by decide) ?_
      refine aw_putfield dX2_take_38 gX2_26 (by first | assumption | rfl) (by rfl) ?_
      refine aw_vret dX2_take_41 rfl ?_
      exact ⟨rfl, rfl⟩
  · have e1 : spO one two = two := by unfold spO; rw [if_neg c7]
    have e2 : fpO one two = one := by unfold fpO; rw [if_neg c7]
    rw [e1, e2]
    refine aw_iload_n dX2_take_10 rfl rfl ?_
    refine aw_goto (tgt := 24) dX2_take_11 (by decide) ?_
    refine aw_putfield dX2_take_24 gX2_23 (by first | assumption | rfl) (by rfl) ?_
    refine aw_aload_n dX2_take_27 rfl rfl ?_
    refine aw_iload_n dX2_take_28 rfl rfl ?_
    refine aw_if_eqN (tgt := 36) dX2_take_29 (by decide) (by omega) (fun q => absurd q (by omega)) (fun _ => ?_)
    refine aw_iload_n dX2_take_32 rfl rfl ?_
    refine aw_goto (tgt := 38) dX2_take_33 (by decide) ?_
    refine aw_putfield dX2_take_38 gX2_26 (by first | assumption | rfl) (by rfl) ?_
    refine aw_vret dX2_take_41 rfl ?_
    exact ⟨rfl, rfl⟩
theorem c_Q_best {d : Nat} {h : Hp} : RT mX2_best d [.ref 66] h (fun v h' => v = some (.int (nI (h 66 2))) ∧ h' = h) := by
  change AW mX2_best _ 0 [some (.ref 66)] [] h _
  refine aw_aload_n dX2_best_0 rfl rfl ?_
  refine aw_getI dX2_best_1 fX2_19 (by first | assumption | rfl) (by rfl) ?_
  refine aw_iret dX2_best_4 rfl (by first | rfl | exact (pk_charN (by omega)).1 | decide) ?_
  exact ⟨rfl, rfl⟩
theorem c_Q_firstPair {d : Nat} {h : Hp} : RT mX2_firstPair d [.ref 66] h (fun v h' => v = some (.int (nI (h 66 3))) ∧ h' = h) := by
  change AW mX2_firstPair _ 0 [some (.ref 66)] [] h _
  refine aw_aload_n dX2_firstPair_0 rfl rfl ?_
  refine aw_getI dX2_firstPair_1 fX2_23 (by first | assumption | rfl) (by rfl) ?_
  refine aw_iret dX2_firstPair_4 rfl (by first | rfl | exact (pk_charN (by omega)).1 | decide) ?_
  exact ⟨rfl, rfl⟩
theorem c_Q_secondPair {d : Nat} {h : Hp} : RT mX2_secondPair d [.ref 66] h (fun v h' => v = some (.int (nI (h 66 4))) ∧ h' = h) := by
  change AW mX2_secondPair _ 0 [some (.ref 66)] [] h _
  refine aw_aload_n dX2_secondPair_0 rfl rfl ?_
  refine aw_getI dX2_secondPair_1 fX2_26 (by first | assumption | rfl) (by rfl) ?_
  refine aw_iret dX2_secondPair_4 rfl (by first | rfl | exact (pk_charN (by omega)).1 | decide) ?_
  exact ⟨rfl, rfl⟩
theorem WS.swap {h : Hp} {S : Hs} {b L f s : Nat → Nat} {dd c i j : Nat} (hws : WS h S b L dd f s c) (hi : i < sn S) (hj : j < sn S) : WS (hx2 h 62 i j) S b L dd (swp f i j) s c ∧ FW6 h (hx2 h 62 i j) := by
  obtain ⟨x1, x2, x3, x4⟩ := hws
  have hf : FW6 h (hx2 h 62 i j) := fun o ho => hx2_ne (by omega)
  refine ⟨⟨x1.fr hf, by rw [hx2_ne (by decide)]; exact x2, by rw [hx2_ne (by decide)]; exact x3, fun k hk => ?_⟩, hf⟩
  rw [hx2_ne (a := 63) (by decide), hx2_ne (a := 64) (by decide), hx2_ne (a := 65) (by decide)]
  refine ⟨?_, (x4 k hk).2⟩
  rw [hx2_at]
  unfold swp
  rw [(x4 i hi).1, (x4 j hj).1, (x4 k hk).1]
theorem c_Q_beginBy {d one two : Nat} {h : Hp} {S : Hs} {c : Sv} (hx : HX h S) (hS : HsOk S) (hv : SVt h (sn S) 16 c) (hc : SvOk (sn S) c) (h1 : one / 8 < sn S ∧ one % 8 < sn S) (h2 : two / 8 < sn S ∧ two % 8 < sn S) (h3 : one < 64) (h4 : two < 64) :
    RT mX2_beginBy (d + 4) [.ref 66, .ref 16, .int (nI one), .int (nI two)] h (fun v h' => v = none ∧ WS h' S c.2.1 (cL (sn S) c) c.1 (ap (ap c.2.2 one) two) (fun _ => 0) 0 ∧ FW6 h h') := by
  have h38 := hS.2.1
  change AW mX2_beginBy _ 0 [some (.ref 66), some (.ref 16), some (.int (nI one)), some (.int (nI two))] [] h _
  refine aw_aload_n dX2_beginBy_0 rfl rfl ?_
  refine aw_getR dX2_beginBy_1 fX2_15 (by first | assumption | rfl) (by rfl) ?_
  refine aw_aload_n dX2_beginBy_4 rfl rfl ?_
  refine aw_callV dX2_beginBy_5 kX2_70 (c_W_begin hx hS hv hc.2.2 ⟨rfl, rfl, rfl⟩ (by decide)) (by first | assumption | rfl) rfl rfl rfl (Nat.le_of_ble_eq_true rfl) (Nat.le_of_ble_eq_true rfl) ?_
  rintro _ h5 ⟨rfl, w5, f5⟩
  dsimp only [Option.toList, List.cons_append, List.nil_append, Nat.reduceAdd]
  refine aw_aload_n dX2_beginBy_8 rfl rfl ?_
  refine aw_getR dX2_beginBy_9 fX2_15 (by first | assumption | rfl) (by rfl) ?_
  refine aw_callVF dX2_beginBy_12 kX2_55 (c_W_standing) (by first | assumption | rfl) rfl rfl rfl (Nat.le_of_ble_eq_true rfl) (Nat.le_of_ble_eq_true rfl) ?_
  dsimp only [Option.toList, List.cons_append, List.nil_append, Nat.reduceAdd]
  refine aw_iload_n dX2_beginBy_15 rfl rfl ?_
  refine aw_bipush (v := nI 8) dX2_beginBy_16 (by decide) ?_
  refine aw_idivN dX2_beginBy_18 (by omega) (by omega) (by omega) ?_
  refine aw_iload_n dX2_beginBy_19 rfl rfl ?_
  refine aw_bipush (v := nI 8) dX2_beginBy_20 (by decide) ?_
  refine aw_iremN dX2_beginBy_22 (by omega) (by omega) (by omega) ?_
  refine aw_callVF dX2_beginBy_23 kX2_74 (c_S_exchange (by first | assumption | exact ⟨rfl, rfl, rfl⟩) (by omega) (by omega)) (by first | assumption | rfl) rfl rfl rfl (Nat.le_of_ble_eq_true rfl) (Nat.le_of_ble_eq_true rfl) ?_
  dsimp only [Option.toList, List.cons_append, List.nil_append, Nat.reduceAdd]
  refine aw_aload_n dX2_beginBy_26 rfl rfl ?_
  refine aw_getR dX2_beginBy_27 fX2_15 (by first | assumption | rfl) (by rfl) ?_
  refine aw_callVF dX2_beginBy_30 kX2_55 (c_W_standing) (by first | assumption | rfl) rfl rfl rfl (Nat.le_of_ble_eq_true rfl) (Nat.le_of_ble_eq_true rfl) ?_
  dsimp only [Option.toList, List.cons_append, List.nil_append, Nat.reduceAdd]
  refine aw_iload_n dX2_beginBy_33 rfl rfl ?_
  refine aw_bipush (v := nI 8) dX2_beginBy_34 (by decide) ?_
  refine aw_idivN dX2_beginBy_36 (by omega) (by omega) (by omega) ?_
  refine aw_iload_n dX2_beginBy_37 rfl rfl ?_
  refine aw_bipush (v := nI 8) dX2_beginBy_38 (by decide) ?_
  refine aw_iremN dX2_beginBy_40 (by omega) (by omega) (by omega) ?_
  refine aw_callVF dX2_beginBy_41 kX2_74 (c_S_exchange (by first | assumption | exact ⟨rfl, rfl, rfl⟩) (by omega) (by omega)) (by first | assumption | rfl) rfl rfl rfl (Nat.le_of_ble_eq_true rfl) (Nat.le_of_ble_eq_true rfl) ?_
  dsimp only [Option.toList, List.cons_append, List.nil_append, Nat.reduceAdd]
  obtain ⟨w6, f6⟩ := w5.swap h1.1 h1.2
  obtain ⟨w7, f7⟩ := w6.swap h2.1 h2.2
  refine aw_vret dX2_beginBy_44 rfl ?_
  exact ⟨rfl, w7, (f5.trans f6).trans f7⟩
theorem PM_ap {n p : Nat} {f : Nat → Nat} (hf : PM n f) (hp : p / 8 < n ∧ p % 8 < n) : PM n (ap f p) := PM_swp hf hp.1 hp.2
/-- sun of i on m days, with rooms g now -/
def vSun (S : Hs) (c : Sv) (i m : Nat) (g : Nat → Nat) : Nat := sunF S c.2.1 (cL (sn S) c) c.1 g i m
def vCold (S : Hs) (c : Sv) (m : Nat) (g : Nat → Nat) : Nat := coldF S c.2.1 (cL (sn S) c) c.1 g m
theorem sunF_lt {S : Hs} {b L : Nat → Nat} {dd i : Nat} {f : Nat → Nat} (hS : HsOk S) (hL : ∀ q, q < sn S → L q < sn S) (hf : PM (sn S) f) (hi : i < sn S) : ∀ m, sunF S b L dd f i m ≤ 9 * m := by
  intro m
  induction m with
  | zero => exact Nat.le_refl _
  | succ m ih =>
    show sunF S b L dd f i m + _ ≤ _
    have := sunR_le hS (day := dd + m) ((PM_rmF (b := b) (day0 := dd) hS hL hf (m + 1)).1 i hi)
    omega
theorem coldN_le {S : Hs} {day : Nat} {f : Nat → Nat} : ∀ m, coldN S day f m ≤ m := by
  intro m
  induction m with
  | zero => exact Nat.le_refl _
  | succ m ih =>
    show coldN S day f m + _ ≤ _
    split <;> omega
theorem coldF_lt {S : Hs} {b L : Nat → Nat} {dd : Nat} {f : Nat → Nat} (hS : HsOk S) : ∀ m, coldF S b L dd f m ≤ 8 * m := by
  intro m
  induction m with
  | zero => exact Nat.le_refl _
  | succ m ih =>
    show coldF S b L dd f m + _ ≤ _
    have := coldN_le (S := S) (day := dd + m) (f := rmF S b L dd f (m + 1)) (sn S)
    have := hS.2.1
    omega
theorem cL_ok {S : Hs} {c : Sv} (hS : HsOk S) (hc : SvOk (sn S) c) : WO S c.2.1 (cL (sn S) c) := WO_ls hS hc.2.2
/-- the search so far: a triple in the fields -/
def QS (h : Hp) (a : bT) : Prop := h 66 2 = a.1 ∧ h 66 3 = a.2.1 ∧ h 66 4 = a.2.2
theorem QS.took {h : Hp} {m x y : Nat} : QS (hw (hw (hw h 66 2 m) 66 3 x) 66 4 y) (m, x, y) := by
  refine ⟨?_, ?_, ?_⟩
  · rw [hw_at, if_neg (by decide), hw_at, if_neg (by decide), hw_at, if_pos rfl]
  · rw [hw_at, if_neg (by decide), hw_at, if_pos rfl]
  · rw [hw_at, if_pos rfl]
theorem FQ.took {h : Hp} {m x y : Nat} : FQ h (hw (hw (hw h 66 2 m) 66 3 x) 66 4 y) := fun o ho => by rw [hw_ne (by omega), hw_ne (by omega), hw_ne (by omega)]
theorem QS.fw {h h' : Hp} {a : bT} (hq : QS h a) (hf : FW6 h h') : QS h' a := by
  unfold QS
  rw [hf 66 (by decide)]
  exact hq
/-! THE FOLDS -/
def sgS (n : Nat) (V : (Nat → Nat) → Nat) (f : Nat → Nat) : Nat → bT
  | 0 => (V f, 4294967292, 4294967292)
  | k + 1 => if isP n k then bU (sgS n V f k) (V (ap f k)) k 4294967292 else sgS n V f k
/-- pairs of pairs, rising ones alone -/
def dbR (n : Nat) (V : (Nat → Nat) → Nat) (f : Nat → Nat) : Nat → bT
  | 0 => sgS n V f 64
  | k + 1 => if isP n (k / 64) ∧ isP n (k % 64) ∧ k / 64 < k % 64 then bU (dbR n V f k) (V (ap (ap f (k / 64)) (k % 64))) (k / 64) (k % 64) else dbR n V f k
/-- pairs of pairs, all -/
def dbA (n : Nat) (V : (Nat → Nat) → Nat) (f : Nat → Nat) : Nat → bT
  | 0 => sgS n V f 64
  | k + 1 => if isP n (k / 64) ∧ isP n (k % 64) then bU (dbA n V f k) (V (ap (ap f (k / 64)) (k % 64))) (k / 64) (k % 64) else dbA n V f k
theorem bU_ge (a : bT) (v x y : Nat) : a.1 ≤ (bU a v x y).1 ∧ v ≤ (bU a v x y).1 := by
  unfold bU
  split
  · dsimp only; omega
  · omega
theorem sgS_mono {n : Nat} {V : (Nat → Nat) → Nat} {f : Nat → Nat} : ∀ k, V f ≤ (sgS n V f k).1 ∧ ∀ j, j < k → isP n j → V (ap f j) ≤ (sgS n V f k).1 := by
  intro k
  induction k with
  | zero => exact ⟨Nat.le_refl _, fun j hj => by omega⟩
  | succ k ih =>
    unfold sgS
    by_cases q : isP n k
    · rw [if_pos q]
      have g := bU_ge (sgS n V f k) (V (ap f k)) k 4294967292
      refine ⟨by omega, fun j hj hp => ?_⟩
      rcases Nat.lt_succ_iff_lt_or_eq.mp hj with z | z
      · have := ih.2 j z hp; omega
      · subst z; exact g.2
    · rw [if_neg q]
      refine ⟨ih.1, fun j hj hp => ?_⟩
      rcases Nat.lt_succ_iff_lt_or_eq.mp hj with z | z
      · exact ih.2 j z hp
      · subst z; exact absurd hp q
theorem dbR_mono {n : Nat} {V : (Nat → Nat) → Nat} {f : Nat → Nat} : ∀ k, V f ≤ (dbR n V f k).1 ∧ ∀ j, j < k → isP n (j / 64) → isP n (j % 64) → j / 64 < j % 64 → V (ap (ap f (j / 64)) (j % 64)) ≤ (dbR n V f k).1 := by
  intro k
  induction k with
  | zero => exact ⟨(sgS_mono 64).1, fun j hj => by omega⟩
  | succ k ih =>
    unfold dbR
    by_cases q : isP n (k / 64) ∧ isP n (k % 64) ∧ k / 64 < k % 64
    · rw [if_pos q]
      have g := bU_ge (dbR n V f k) (V (ap (ap f (k / 64)) (k % 64))) (k / 64) (k % 64)
      refine ⟨by omega, fun j hj hp hp2 hlt => ?_⟩
      rcases Nat.lt_succ_iff_lt_or_eq.mp hj with z | z
      · have := ih.2 j z hp hp2 hlt; omega
      · subst z; exact g.2
    · rw [if_neg q]
      refine ⟨ih.1, fun j hj hp hp2 hlt => ?_⟩
      rcases Nat.lt_succ_iff_lt_or_eq.mp hj with z | z
      · exact ih.2 j z hp hp2 hlt
      · subst z; exact absurd ⟨hp, hp2, hlt⟩ q
def tau (p k : Nat) : Nat := if k = p % 8 then p / 8 else if k = p / 8 then p % 8 else k
theorem ap_tau (f : Nat → Nat) (p k : Nat) : ap f p k = f (tau p k) := by
  unfold ap swp tau
  split
  · rfl
  · split <;> rfl
/-- for two swaps, the second's pair below the first's: two with the lower pair ahead that do the same -/
def pqO (one two : Nat) : Nat × Nat :=
  if one / 8 = two / 8 then (two, 8 * (two % 8) + one % 8)
  else if one / 8 = two % 8 then (two, 8 * (two / 8) + one % 8)
  else if one % 8 = two % 8 then (8 * (two / 8) + one / 8, one)
  else (two, one)
def pqC (one two : Nat) : Bool := !(decide (isP 8 one) && decide (isP 8 two)) || (decide (isP 8 (pqO one two).1) && decide (isP 8 (pqO one two).2) && decide ((pqO one two).1 < (pqO one two).2) && decide ((pqO one two).1 < one) && decide ((pqO one two).2 < 64) && decide ((pqO one two).1 % 8 ≤ one % 8 ∨ (pqO one two).1 % 8 ≤ two % 8) && decide ((pqO one two).2 % 8 ≤ one % 8 ∨ (pqO one two).2 % 8 ≤ two % 8) && ((List.range 8).all fun k => decide (tau one (tau two k) = tau (pqO one two).1 (tau (pqO one two).2 k))))
theorem pqC_all : ∀ one, one < 64 → ∀ two, two < one → pqC one two = true := by decide +kernel
theorem pq_tab (one : Nat) (h1 : one < 64) (two : Nat) (h2 : two < one) (h3 : isP 8 one) (h4 : isP 8 two) : isP 8 (pqO one two).1 ∧ isP 8 (pqO one two).2 ∧ (pqO one two).1 < (pqO one two).2 ∧ (pqO one two).1 < one ∧ (pqO one two).2 < 64 ∧ ((pqO one two).1 % 8 ≤ one % 8 ∨ (pqO one two).1 % 8 ≤ two % 8) ∧ ((pqO one two).2 % 8 ≤ one % 8 ∨ (pqO one two).2 % 8 ≤ two % 8) ∧ ∀ k, k < 8 → tau one (tau two k) = tau (pqO one two).1 (tau (pqO one two).2 k) := by
  have h5 := pqC_all one h1 two h2
  unfold pqC at h5
  rw [decide_eq_true h3, decide_eq_true h4] at h5
  simp only [Bool.and_true, Bool.not_true, Bool.false_or, Bool.and_eq_true] at h5
  obtain ⟨⟨⟨⟨⟨⟨⟨a1, a2⟩, a3⟩, a4⟩, a5⟩, a6⟩, a7⟩, a8⟩ := h5
  exact ⟨of_decide_eq_true a1, of_decide_eq_true a2, of_decide_eq_true a3, of_decide_eq_true a4, of_decide_eq_true a5, of_decide_eq_true a6, of_decide_eq_true a7, fun k hk => of_decide_eq_true (List.all_eq_true.mp a8 k (List.mem_range.mpr hk))⟩
theorem tau_id {p k : Nat} (hk : 8 ≤ k) (hp : p < 64) : tau p k = k := by
  unfold tau
  rw [if_neg (by omega), if_neg (by omega)]
theorem tau_tau {p : Nat} (k : Nat) (hp : isP 8 p) : tau p (tau p k) = k := by
  unfold tau
  by_cases q1 : k = p % 8
  · rw [if_pos q1, if_neg (by omega), if_pos rfl]; exact q1.symm
  · by_cases q2 : k = p / 8
    · rw [if_neg q1, if_pos q2, if_pos rfl]; exact q2.symm
    · rw [if_neg q1, if_neg q2, if_neg q1, if_neg q2]
theorem dbA_eq {n : Nat} {V : (Nat → Nat) → Nat} {f : Nat → Nat} (hn : n ≤ 8) : ∀ k, k ≤ 4096 → dbA n V f k = dbR n V f k := by
  intro k
  induction k with
  | zero => intro _; rfl
  | succ k ih =>
    intro hk
    unfold dbA dbR
    rw [ih (by omega)]
    by_cases q : isP n (k / 64) ∧ isP n (k % 64)
    · rw [if_pos q]
      by_cases q2 : k / 64 < k % 64
      · rw [if_pos ⟨q.1, q.2, q2⟩]
      · rw [if_neg (fun z => q2 z.2.2)]
        have hle : V (ap (ap f (k / 64)) (k % 64)) ≤ (dbR n V f k).1 := by
          by_cases q3 : k / 64 = k % 64
          · have e : ap (ap f (k / 64)) (k % 64) = f := by
              funext j
              rw [ap_tau, ap_tau, q3, tau_tau j ⟨q.2.1, by omega⟩]
            rw [e]
            exact (dbR_mono k).1
          · obtain ⟨t1, t2, t3, t4, t5, t6, t7, t8⟩ := pq_tab (k / 64) (by omega) (k % 64) (by omega) ⟨q.1.1, by omega⟩ ⟨q.2.1, by omega⟩
            generalize (pqO (k / 64) (k % 64)).1 = p1 at *
            generalize (pqO (k / 64) (k % 64)).2 = p2 at *
            have e : ap (ap f (k / 64)) (k % 64) = ap (ap f p1) p2 := by
              funext j
              rw [ap_tau, ap_tau, ap_tau, ap_tau]
              by_cases hj : j < 8
              · rw [t8 j hj]
              · rw [tau_id (p := k % 64) (by omega) (by omega), tau_id (p := k / 64) (by omega) (by omega), tau_id (p := p2) (by omega) t5, tau_id (p := p1) (by omega) (by omega)]
            rw [e]
            have := (dbR_mono (n := n) (V := V) (f := f) k).2 (64 * p1 + p2) (by omega)
            rw [show (64 * p1 + p2) / 64 = p1 by omega, show (64 * p1 + p2) % 64 = p2 by omega] at this
            exact this ⟨t1.1, by omega⟩ ⟨t2.1, by omega⟩ t3
        unfold bU
        rw [if_neg (by omega)]
    · rw [if_neg q, if_neg (fun z => q ⟨z.1, z.2.1⟩)]
end
