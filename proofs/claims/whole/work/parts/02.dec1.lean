theorem dX5_readItem_107 : decode cX5_readItem 107 = .ok (.iconst 0, 1) := by decide +kernel
theorem dX5_readItem_108 : decode cX5_readItem 108 = .ok (.ireturn, 1) := by decide +kernel
theorem dX5_readItem_109 : decode cX5_readItem 109 = .ok (.iconst 0, 1) := by decide +kernel
theorem dX5_readItem_110 : decode cX5_readItem 110 = .ok (.ireturn, 1) := by decide +kernel
theorem dX5_readNumbers_0 : decode cX5_readNumbers 0 = .ok (.iconst 0, 1) := by decide +kernel
theorem dX5_readNumbers_1 : decode cX5_readNumbers 1 = .ok (.istore_n 2, 1) := by decide +kernel
theorem dX5_readNumbers_2 : decode cX5_readNumbers 2 = .ok (.iload_n 2, 1) := by decide +kernel
theorem dX5_readNumbers_3 : decode cX5_readNumbers 3 = .ok (.iload_n 1, 1) := by decide +kernel
theorem dX5_readNumbers_4 : decode cX5_readNumbers 4 = .ok (.if_icmp .ge 64, 3) := by decide +kernel
theorem dX5_readNumbers_7 : decode cX5_readNumbers 7 = .ok (.aload_n 0, 1) := by decide +kernel
theorem dX5_readNumbers_8 : decode cX5_readNumbers 8 = .ok (.invokevirtual 55, 3) := by decide +kernel
theorem dX5_readNumbers_11 : decode cX5_readNumbers 11 = .ok (.istore_n 3, 1) := by decide +kernel
theorem dX5_readNumbers_12 : decode cX5_readNumbers 12 = .ok (.iload_n 2, 1) := by decide +kernel
theorem dX5_readNumbers_13 : decode cX5_readNumbers 13 = .ok (.iload_n 1, 1) := by decide +kernel
theorem dX5_readNumbers_14 : decode cX5_readNumbers 14 = .ok (.iconst 1, 1) := by decide +kernel
theorem dX5_readNumbers_15 : decode cX5_readNumbers 15 = .ok (.isub, 1) := by decide +kernel
theorem dX5_readNumbers_16 : decode cX5_readNumbers 16 = .ok (.if_icmp .ne 8, 3) := by decide +kernel
theorem dX5_readNumbers_19 : decode cX5_readNumbers 19 = .ok (.bipush 59, 2) := by decide +kernel
theorem dX5_readNumbers_21 : decode cX5_readNumbers 21 = .ok (.goto 5, 3) := by decide +kernel
theorem dX5_readNumbers_24 : decode cX5_readNumbers 24 = .ok (.bipush 44, 2) := by decide +kernel
theorem dX5_readNumbers_26 : decode cX5_readNumbers 26 = .ok (.istore 4, 2) := by decide +kernel
theorem dX5_readNumbers_28 : decode cX5_readNumbers 28 = .ok (.iload_n 3, 1) := by decide +kernel
theorem dX5_readNumbers_29 : decode cX5_readNumbers 29 = .ok (.ifCond .lt 12, 3) := by decide +kernel
theorem dX5_readNumbers_32 : decode cX5_readNumbers 32 = .ok (.aload_n 0, 1) := by decide +kernel
theorem dX5_readNumbers_33 : decode cX5_readNumbers 33 = .ok (.invokevirtual 35, 3) := by decide +kernel
theorem dX5_readNumbers_36 : decode cX5_readNumbers 36 = .ok (.iload 4, 2) := by decide +kernel
theorem dX5_readNumbers_38 : decode cX5_readNumbers 38 = .ok (.if_icmp .eq 5, 3) := by decide +kernel
theorem dX5_readNumbers_41 : decode cX5_readNumbers 41 = .ok (.iconst 0, 1) := by decide +kernel
theorem dX5_readNumbers_42 : decode cX5_readNumbers 42 = .ok (.ireturn, 1) := by decide +kernel
theorem dX5_readNumbers_43 : decode cX5_readNumbers 43 = .ok (.aload_n 0, 1) := by decide +kernel
theorem dX5_readNumbers_44 : decode cX5_readNumbers 44 = .ok (.getfield 15, 3) := by decide +kernel
theorem dX5_readNumbers_47 : decode cX5_readNumbers 47 = .ok (.iload_n 2, 1) := by decide +kernel
theorem dX5_readNumbers_48 : decode cX5_readNumbers 48 = .ok (.iload_n 3, 1) := by decide +kernel
theorem dX5_readNumbers_49 : decode cX5_readNumbers 49 = .ok (.invokestatic 59, 3) := by decide +kernel
theorem dX5_readNumbers_52 : decode cX5_readNumbers 52 = .ok (.aload_n 0, 1) := by decide +kernel
theorem dX5_readNumbers_53 : decode cX5_readNumbers 53 = .ok (.dup, 1) := by decide +kernel
theorem dX5_readNumbers_54 : decode cX5_readNumbers 54 = .ok (.getfield 28, 3) := by decide +kernel
theorem dX5_readNumbers_57 : decode cX5_readNumbers 57 = .ok (.iconst 1, 1) := by decide +kernel
theorem dX5_readNumbers_58 : decode cX5_readNumbers 58 = .ok (.iadd, 1) := by decide +kernel
theorem dX5_readNumbers_59 : decode cX5_readNumbers 59 = .ok (.putfield 28, 3) := by decide +kernel
theorem dX5_readNumbers_62 : decode cX5_readNumbers 62 = .ok (.iinc 2 1, 3) := by decide +kernel
theorem dX5_readNumbers_65 : decode cX5_readNumbers 65 = .ok (.goto (-63), 3) := by decide +kernel
theorem dX5_readNumbers_68 : decode cX5_readNumbers 68 = .ok (.iconst 1, 1) := by decide +kernel
theorem dX5_readNumbers_69 : decode cX5_readNumbers 69 = .ok (.ireturn, 1) := by decide +kernel
theorem dX5_readNumber_0 : decode cX5_readNumber 0 = .ok (.iconst (-1), 1) := by decide +kernel
theorem dX5_readNumber_1 : decode cX5_readNumber 1 = .ok (.istore_n 1, 1) := by decide +kernel
theorem dX5_readNumber_2 : decode cX5_readNumber 2 = .ok (.iconst 0, 1) := by decide +kernel
theorem dX5_readNumber_3 : decode cX5_readNumber 3 = .ok (.istore_n 2, 1) := by decide +kernel
theorem dX5_readNumber_4 : decode cX5_readNumber 4 = .ok (.iload_n 2, 1) := by decide +kernel
theorem dX5_readNumber_5 : decode cX5_readNumber 5 = .ok (.iconst 2, 1) := by decide +kernel
theorem dX5_readNumber_6 : decode cX5_readNumber 6 = .ok (.if_icmp .ge 46, 3) := by decide +kernel
theorem dX5_readNumber_9 : decode cX5_readNumber 9 = .ok (.aload_n 0, 1) := by decide +kernel
theorem dX5_readNumber_10 : decode cX5_readNumber 10 = .ok (.invokevirtual 35, 3) := by decide +kernel
theorem dX5_readNumber_13 : decode cX5_readNumber 13 = .ok (.invokestatic 63, 3) := by decide +kernel
theorem dX5_readNumber_16 : decode cX5_readNumber 16 = .ok (.ifCond .eq 36, 3) := by decide +kernel
theorem dX5_readNumber_19 : decode cX5_readNumber 19 = .ok (.bipush 10, 2) := by decide +kernel
theorem dX5_readNumber_21 : decode cX5_readNumber 21 = .ok (.iconst 0, 1) := by decide +kernel
theorem dX5_readNumber_22 : decode cX5_readNumber 22 = .ok (.iload_n 1, 1) := by decide +kernel
theorem dX5_readNumber_23 : decode cX5_readNumber 23 = .ok (.invokestatic 67, 3) := by decide +kernel
theorem dX5_readNumber_26 : decode cX5_readNumber 26 = .ok (.imul, 1) := by decide +kernel
theorem dX5_readNumber_27 : decode cX5_readNumber 27 = .ok (.aload_n 0, 1) := by decide +kernel
theorem dX5_readNumber_28 : decode cX5_readNumber 28 = .ok (.invokevirtual 35, 3) := by decide +kernel
theorem dX5_readNumber_31 : decode cX5_readNumber 31 = .ok (.bipush 48, 2) := by decide +kernel
theorem dX5_readNumber_33 : decode cX5_readNumber 33 = .ok (.isub, 1) := by decide +kernel
theorem dX5_readNumber_34 : decode cX5_readNumber 34 = .ok (.iadd, 1) := by decide +kernel
theorem dX5_readNumber_35 : decode cX5_readNumber 35 = .ok (.istore_n 1, 1) := by decide +kernel
theorem dX5_readNumber_36 : decode cX5_readNumber 36 = .ok (.aload_n 0, 1) := by decide +kernel
theorem dX5_readNumber_37 : decode cX5_readNumber 37 = .ok (.dup, 1) := by decide +kernel
theorem dX5_readNumber_38 : decode cX5_readNumber 38 = .ok (.getfield 28, 3) := by decide +kernel
theorem dX5_readNumber_41 : decode cX5_readNumber 41 = .ok (.iconst 1, 1) := by decide +kernel
theorem dX5_readNumber_42 : decode cX5_readNumber 42 = .ok (.iadd, 1) := by decide +kernel
theorem dX5_readNumber_43 : decode cX5_readNumber 43 = .ok (.putfield 28, 3) := by decide +kernel
theorem dX5_readNumber_46 : decode cX5_readNumber 46 = .ok (.iinc 2 1, 3) := by decide +kernel
theorem dX5_readNumber_49 : decode cX5_readNumber 49 = .ok (.goto (-45), 3) := by decide +kernel
theorem dX5_readNumber_52 : decode cX5_readNumber 52 = .ok (.iload_n 1, 1) := by decide +kernel
theorem dX5_readNumber_53 : decode cX5_readNumber 53 = .ok (.ireturn, 1) := by decide +kernel
theorem dX5_isFigure_0 : decode cX5_isFigure 0 = .ok (.iload_n 0, 1) := by decide +kernel
theorem dX5_isFigure_1 : decode cX5_isFigure 1 = .ok (.bipush 48, 2) := by decide +kernel
theorem dX5_isFigure_3 : decode cX5_isFigure 3 = .ok (.if_icmp .lt 13, 3) := by decide +kernel
theorem dX5_isFigure_6 : decode cX5_isFigure 6 = .ok (.iload_n 0, 1) := by decide +kernel
theorem dX5_isFigure_7 : decode cX5_isFigure 7 = .ok (.bipush 57, 2) := by decide +kernel
theorem dX5_isFigure_9 : decode cX5_isFigure 9 = .ok (.if_icmp .gt 7, 3) := by decide +kernel
theorem dX5_isFigure_12 : decode cX5_isFigure 12 = .ok (.iconst 1, 1) := by decide +kernel
theorem dX5_isFigure_13 : decode cX5_isFigure 13 = .ok (.goto 4, 3) := by decide +kernel
theorem dX5_isFigure_16 : decode cX5_isFigure 16 = .ok (.iconst 0, 1) := by decide +kernel
theorem dX5_isFigure_17 : decode cX5_isFigure 17 = .ok (.ireturn, 1) := by decide +kernel
theorem dX5_letterHere_0 : decode cX5_letterHere 0 = .ok (.aload_n 0, 1) := by decide +kernel
theorem dX5_letterHere_1 : decode cX5_letterHere 1 = .ok (.getfield 28, 3) := by decide +kernel
theorem dX5_letterHere_4 : decode cX5_letterHere 4 = .ok (.ifCond .lt 38, 3) := by decide +kernel
theorem dX5_letterHere_7 : decode cX5_letterHere 7 = .ok (.aload_n 0, 1) := by decide +kernel
theorem dX5_letterHere_8 : decode cX5_letterHere 8 = .ok (.getfield 28, 3) := by decide +kernel
theorem dX5_letterHere_11 : decode cX5_letterHere 11 = .ok (.aload_n 0, 1) := by decide +kernel
theorem dX5_letterHere_12 : decode cX5_letterHere 12 = .ok (.getfield 19, 3) := by decide +kernel
theorem dX5_letterHere_15 : decode cX5_letterHere 15 = .ok (.if_icmp .ge 27, 3) := by decide +kernel
theorem dX5_letterHere_18 : decode cX5_letterHere 18 = .ok (.aload_n 0, 1) := by decide +kernel
theorem dX5_letterHere_19 : decode cX5_letterHere 19 = .ok (.getfield 28, 3) := by decide +kernel
theorem dX5_letterHere_22 : decode cX5_letterHere 22 = .ok (.aload_n 0, 1) := by decide +kernel
theorem dX5_letterHere_23 : decode cX5_letterHere 23 = .ok (.getfield 9, 3) := by decide +kernel
theorem dX5_letterHere_26 : decode cX5_letterHere 26 = .ok (.arraylength, 1) := by decide +kernel
theorem dX5_letterHere_27 : decode cX5_letterHere 27 = .ok (.if_icmp .ge 15, 3) := by decide +kernel
theorem dX5_letterHere_30 : decode cX5_letterHere 30 = .ok (.aload_n 0, 1) := by decide +kernel
theorem dX5_letterHere_31 : decode cX5_letterHere 31 = .ok (.getfield 9, 3) := by decide +kernel
theorem dX5_letterHere_34 : decode cX5_letterHere 34 = .ok (.aload_n 0, 1) := by decide +kernel
theorem dX5_letterHere_35 : decode cX5_letterHere 35 = .ok (.getfield 28, 3) := by decide +kernel
theorem dX5_letterHere_38 : decode cX5_letterHere 38 = .ok (.caload, 1) := by decide +kernel
theorem dX5_letterHere_39 : decode cX5_letterHere 39 = .ok (.goto 4, 3) := by decide +kernel
theorem dX5_letterHere_42 : decode cX5_letterHere 42 = .ok (.iconst 0, 1) := by decide +kernel
theorem dX5_letterHere_43 : decode cX5_letterHere 43 = .ok (.ireturn, 1) := by decide +kernel
theorem dX6_init_0 : decode cX6_init 0 = .ok (.aload_n 0, 1) := by decide +kernel
theorem dX6_init_1 : decode cX6_init 1 = .ok (.invokespecial 3, 3) := by decide +kernel
theorem dX6_init_4 : decode cX6_init 4 = .ok (.aload_n 0, 1) := by decide +kernel
theorem dX6_init_5 : decode cX6_init 5 = .ok (.new 9, 3) := by decide +kernel
theorem dX6_init_8 : decode cX6_init 8 = .ok (.dup, 1) := by decide +kernel
theorem dX6_init_9 : decode cX6_init 9 = .ok (.invokespecial 11, 3) := by decide +kernel
theorem dX6_init_12 : decode cX6_init 12 = .ok (.putfield 12, 3) := by decide +kernel
theorem dX6_init_15 : decode cX6_init 15 = .ok (.aload_n 0, 1) := by decide +kernel
theorem dX6_init_16 : decode cX6_init 16 = .ok (.bipush 8, 2) := by decide +kernel
theorem dX6_init_18 : decode cX6_init 18 = .ok (.newarray .int, 2) := by decide +kernel
theorem dX6_init_20 : decode cX6_init 20 = .ok (.putfield 18, 3) := by decide +kernel
theorem dX6_init_23 : decode cX6_init 23 = .ok (.aload_n 0, 1) := by decide +kernel
theorem dX6_init_24 : decode cX6_init 24 = .ok (.bipush 8, 2) := by decide +kernel
theorem dX6_init_26 : decode cX6_init 26 = .ok (.newarray .int, 2) := by decide +kernel
theorem dX6_init_28 : decode cX6_init 28 = .ok (.putfield 22, 3) := by decide +kernel
theorem dX6_init_31 : decode cX6_init 31 = .ok (.aload_n 0, 1) := by decide +kernel
theorem dX6_init_32 : decode cX6_init 32 = .ok (.aload_n 1, 1) := by decide +kernel
theorem dX6_init_33 : decode cX6_init 33 = .ok (.putfield 25, 3) := by decide +kernel
theorem dX6_init_36 : decode cX6_init 36 = .ok (.return_, 1) := by decide +kernel
theorem dX6_begin_0 : decode cX6_begin 0 = .ok (.aload_n 0, 1) := by decide +kernel
theorem dX6_begin_1 : decode cX6_begin 1 = .ok (.getfield 12, 3) := by decide +kernel
theorem dX6_begin_4 : decode cX6_begin 4 = .ok (.aload_n 1, 1) := by decide +kernel
theorem dX6_begin_5 : decode cX6_begin 5 = .ok (.invokevirtual 29, 3) := by decide +kernel
theorem dX6_begin_8 : decode cX6_begin 8 = .ok (.aload_n 0, 1) := by decide +kernel
theorem dX6_begin_9 : decode cX6_begin 9 = .ok (.invokevirtual 33, 3) := by decide +kernel
theorem dX6_begin_12 : decode cX6_begin 12 = .ok (.aload_n 0, 1) := by decide +kernel
theorem dX6_begin_13 : decode cX6_begin 13 = .ok (.invokevirtual 36, 3) := by decide +kernel
theorem dX6_begin_16 : decode cX6_begin 16 = .ok (.return_, 1) := by decide +kernel
theorem dX6_beginWith_0 : decode cX6_beginWith 0 = .ok (.aload_n 0, 1) := by decide +kernel
theorem dX6_beginWith_1 : decode cX6_beginWith 1 = .ok (.getfield 12, 3) := by decide +kernel
theorem dX6_beginWith_4 : decode cX6_beginWith 4 = .ok (.aload_n 1, 1) := by decide +kernel
theorem dX6_beginWith_5 : decode cX6_beginWith 5 = .ok (.invokevirtual 29, 3) := by decide +kernel
theorem dX6_beginWith_8 : decode cX6_beginWith 8 = .ok (.aload_n 0, 1) := by decide +kernel
theorem dX6_beginWith_9 : decode cX6_beginWith 9 = .ok (.getfield 12, 3) := by decide +kernel
theorem dX6_beginWith_12 : decode cX6_beginWith 12 = .ok (.iload_n 2, 1) := by decide +kernel
theorem dX6_beginWith_13 : decode cX6_beginWith 13 = .ok (.iload_n 3, 1) := by decide +kernel
theorem dX6_beginWith_14 : decode cX6_beginWith 14 = .ok (.invokevirtual 39, 3) := by decide +kernel
theorem dX6_beginWith_17 : decode cX6_beginWith 17 = .ok (.aload_n 0, 1) := by decide +kernel
theorem dX6_beginWith_18 : decode cX6_beginWith 18 = .ok (.invokevirtual 33, 3) := by decide +kernel
theorem dX6_beginWith_21 : decode cX6_beginWith 21 = .ok (.aload_n 0, 1) := by decide +kernel
theorem dX6_beginWith_22 : decode cX6_beginWith 22 = .ok (.invokevirtual 36, 3) := by decide +kernel
theorem dX6_beginWith_25 : decode cX6_beginWith 25 = .ok (.return_, 1) := by decide +kernel
theorem dX6_standing_0 : decode cX6_standing 0 = .ok (.aload_n 0, 1) := by decide +kernel
theorem dX6_standing_1 : decode cX6_standing 1 = .ok (.getfield 12, 3) := by decide +kernel
theorem dX6_standing_4 : decode cX6_standing 4 = .ok (.areturn, 1) := by decide +kernel
theorem dX6_listed_0 : decode cX6_listed 0 = .ok (.aload_n 0, 1) := by decide +kernel
theorem dX6_listed_1 : decode cX6_listed 1 = .ok (.getfield 18, 3) := by decide +kernel
theorem dX6_listed_4 : decode cX6_listed 4 = .ok (.iload_n 1, 1) := by decide +kernel
theorem dX6_listed_5 : decode cX6_listed 5 = .ok (.invokestatic 43, 3) := by decide +kernel
theorem dX6_listed_8 : decode cX6_listed 8 = .ok (.ireturn, 1) := by decide +kernel
theorem dX6_placeOf_0 : decode cX6_placeOf 0 = .ok (.iconst 0, 1) := by decide +kernel
theorem dX6_placeOf_1 : decode cX6_placeOf 1 = .ok (.istore_n 2, 1) := by decide +kernel
theorem dX6_placeOf_2 : decode cX6_placeOf 2 = .ok (.iload_n 2, 1) := by decide +kernel
theorem dX6_placeOf_3 : decode cX6_placeOf 3 = .ok (.aload_n 0, 1) := by decide +kernel
theorem dX6_placeOf_4 : decode cX6_placeOf 4 = .ok (.getfield 25, 3) := by decide +kernel
theorem dX6_placeOf_7 : decode cX6_placeOf 7 = .ok (.invokevirtual 47, 3) := by decide +kernel
theorem dX6_placeOf_10 : decode cX6_placeOf 10 = .ok (.if_icmp .ge 23, 3) := by decide +kernel
theorem dX6_placeOf_13 : decode cX6_placeOf 13 = .ok (.aload_n 0, 1) := by decide +kernel
theorem dX6_placeOf_14 : decode cX6_placeOf 14 = .ok (.getfield 18, 3) := by decide +kernel
theorem dX6_placeOf_17 : decode cX6_placeOf 17 = .ok (.iload_n 2, 1) := by decide +kernel
theorem dX6_placeOf_18 : decode cX6_placeOf 18 = .ok (.invokestatic 43, 3) := by decide +kernel
theorem dX6_placeOf_21 : decode cX6_placeOf 21 = .ok (.iload_n 1, 1) := by decide +kernel
theorem dX6_placeOf_22 : decode cX6_placeOf 22 = .ok (.if_icmp .ne 5, 3) := by decide +kernel
theorem dX6_placeOf_25 : decode cX6_placeOf 25 = .ok (.iload_n 2, 1) := by decide +kernel
theorem dX6_placeOf_26 : decode cX6_placeOf 26 = .ok (.ireturn, 1) := by decide +kernel
theorem dX6_placeOf_27 : decode cX6_placeOf 27 = .ok (.iinc 2 1, 3) := by decide +kernel
theorem dX6_placeOf_30 : decode cX6_placeOf 30 = .ok (.goto (-28), 3) := by decide +kernel
theorem dX6_placeOf_33 : decode cX6_placeOf 33 = .ok (.bipush (-4), 2) := by decide +kernel
theorem dX6_placeOf_35 : decode cX6_placeOf 35 = .ok (.ireturn, 1) := by decide +kernel
theorem dX6_sunTogether_0 : decode cX6_sunTogether 0 = .ok (.aload_n 0, 1) := by decide +kernel
theorem dX6_sunTogether_1 : decode cX6_sunTogether 1 = .ok (.getfield 22, 3) := by decide +kernel
theorem dX6_sunTogether_4 : decode cX6_sunTogether 4 = .ok (.iload_n 1, 1) := by decide +kernel
theorem dX6_sunTogether_5 : decode cX6_sunTogether 5 = .ok (.invokestatic 43, 3) := by decide +kernel
theorem dX6_sunTogether_8 : decode cX6_sunTogether 8 = .ok (.ireturn, 1) := by decide +kernel
theorem dX6_coldTogether_0 : decode cX6_coldTogether 0 = .ok (.aload_n 0, 1) := by decide +kernel
theorem dX6_coldTogether_1 : decode cX6_coldTogether 1 = .ok (.getfield 53, 3) := by decide +kernel
theorem dX6_coldTogether_4 : decode cX6_coldTogether 4 = .ok (.ireturn, 1) := by decide +kernel
theorem dX6_coldBits_0 : decode cX6_coldBits 0 = .ok (.iconst 0, 1) := by decide +kernel
theorem dX6_coldBits_1 : decode cX6_coldBits 1 = .ok (.istore_n 1, 1) := by decide +kernel
theorem dX6_coldBits_2 : decode cX6_coldBits 2 = .ok (.iconst 0, 1) := by decide +kernel
theorem dX6_coldBits_3 : decode cX6_coldBits 3 = .ok (.istore_n 2, 1) := by decide +kernel
theorem dX6_coldBits_4 : decode cX6_coldBits 4 = .ok (.iload_n 2, 1) := by decide +kernel
theorem dX6_coldBits_5 : decode cX6_coldBits 5 = .ok (.aload_n 0, 1) := by decide +kernel
theorem dX6_coldBits_6 : decode cX6_coldBits 6 = .ok (.getfield 25, 3) := by decide +kernel
theorem dX6_coldBits_9 : decode cX6_coldBits 9 = .ok (.invokevirtual 47, 3) := by decide +kernel
theorem dX6_coldBits_12 : decode cX6_coldBits 12 = .ok (.if_icmp .ge 31, 3) := by decide +kernel
theorem dX6_coldBits_15 : decode cX6_coldBits 15 = .ok (.aload_n 0, 1) := by decide +kernel
theorem dX6_coldBits_16 : decode cX6_coldBits 16 = .ok (.iload_n 2, 1) := by decide +kernel
theorem dX6_coldBits_17 : decode cX6_coldBits 17 = .ok (.invokevirtual 57, 3) := by decide +kernel
theorem dX6_coldBits_20 : decode cX6_coldBits 20 = .ok (.aload_n 0, 1) := by decide +kernel
theorem dX6_coldBits_21 : decode cX6_coldBits 21 = .ok (.getfield 25, 3) := by decide +kernel
theorem dX6_coldBits_24 : decode cX6_coldBits 24 = .ok (.iload_n 2, 1) := by decide +kernel
theorem dX6_coldBits_25 : decode cX6_coldBits 25 = .ok (.invokevirtual 61, 3) := by decide +kernel
theorem dX6_coldBits_28 : decode cX6_coldBits 28 = .ok (.if_icmp .ge 9, 3) := by decide +kernel
theorem dX6_coldBits_31 : decode cX6_coldBits 31 = .ok (.iload_n 1, 1) := by decide +kernel
theorem dX6_coldBits_32 : decode cX6_coldBits 32 = .ok (.iconst 1, 1) := by decide +kernel
theorem dX6_coldBits_33 : decode cX6_coldBits 33 = .ok (.iload_n 2, 1) := by decide +kernel
theorem dX6_coldBits_34 : decode cX6_coldBits 34 = .ok (.ishl, 1) := by decide +kernel
theorem dX6_coldBits_35 : decode cX6_coldBits 35 = .ok (.ior, 1) := by decide +kernel
theorem dX6_coldBits_36 : decode cX6_coldBits 36 = .ok (.istore_n 1, 1) := by decide +kernel
theorem dX6_coldBits_37 : decode cX6_coldBits 37 = .ok (.iinc 2 1, 3) := by decide +kernel
theorem dX6_coldBits_40 : decode cX6_coldBits 40 = .ok (.goto (-36), 3) := by decide +kernel
theorem dX6_coldBits_43 : decode cX6_coldBits 43 = .ok (.iload_n 1, 1) := by decide +kernel
theorem dX6_coldBits_44 : decode cX6_coldBits 44 = .ok (.ireturn, 1) := by decide +kernel
theorem dX6_go_0 : decode cX6_go 0 = .ok (.iconst 0, 1) := by decide +kernel
theorem dX6_go_1 : decode cX6_go 1 = .ok (.istore_n 2, 1) := by decide +kernel
theorem dX6_go_2 : decode cX6_go 2 = .ok (.iconst 0, 1) := by decide +kernel
theorem dX6_go_3 : decode cX6_go 3 = .ok (.istore_n 3, 1) := by decide +kernel
theorem dX6_go_4 : decode cX6_go 4 = .ok (.iload_n 3, 1) := by decide +kernel
theorem dX6_go_5 : decode cX6_go 5 = .ok (.iload_n 1, 1) := by decide +kernel
theorem dX6_go_6 : decode cX6_go 6 = .ok (.if_icmp .ge 50, 3) := by decide +kernel
theorem dX6_go_9 : decode cX6_go 9 = .ok (.iload_n 2, 1) := by decide +kernel
theorem dX6_go_10 : decode cX6_go 10 = .ok (.iload_n 1, 1) := by decide +kernel
theorem dX6_go_11 : decode cX6_go 11 = .ok (.if_icmp .ge 45, 3) := by decide +kernel
theorem dX6_go_14 : decode cX6_go 14 = .ok (.aload_n 0, 1) := by decide +kernel
theorem dX6_go_15 : decode cX6_go 15 = .ok (.invokevirtual 64, 3) := by decide +kernel
theorem dX6_go_18 : decode cX6_go 18 = .ok (.iload_n 1, 1) := by decide +kernel
theorem dX6_go_19 : decode cX6_go 19 = .ok (.iload_n 2, 1) := by decide +kernel
theorem dX6_go_20 : decode cX6_go 20 = .ok (.isub, 1) := by decide +kernel
theorem dX6_go_21 : decode cX6_go 21 = .ok (.aload_n 0, 1) := by decide +kernel
theorem dX6_go_22 : decode cX6_go 22 = .ok (.invokevirtual 67, 3) := by decide +kernel
theorem dX6_go_25 : decode cX6_go 25 = .ok (.invokestatic 70, 3) := by decide +kernel
theorem dX6_go_28 : decode cX6_go 28 = .ok (.istore 4, 2) := by decide +kernel
theorem dX6_go_30 : decode cX6_go 30 = .ok (.aload_n 0, 1) := by decide +kernel
theorem dX6_go_31 : decode cX6_go 31 = .ok (.iload 4, 2) := by decide +kernel
theorem dX6_go_33 : decode cX6_go 33 = .ok (.invokevirtual 76, 3) := by decide +kernel
theorem dX6_go_36 : decode cX6_go 36 = .ok (.aload_n 0, 1) := by decide +kernel
theorem dX6_go_37 : decode cX6_go 37 = .ok (.getfield 12, 3) := by decide +kernel
theorem dX6_go_40 : decode cX6_go 40 = .ok (.iload 4, 2) := by decide +kernel
theorem dX6_go_42 : decode cX6_go 42 = .ok (.invokevirtual 80, 3) := by decide +kernel
theorem dX6_go_45 : decode cX6_go 45 = .ok (.iload_n 2, 1) := by decide +kernel
theorem dX6_go_46 : decode cX6_go 46 = .ok (.iload 4, 2) := by decide +kernel
theorem dX6_go_48 : decode cX6_go 48 = .ok (.iadd, 1) := by decide +kernel
theorem dX6_go_49 : decode cX6_go 49 = .ok (.istore_n 2, 1) := by decide +kernel
theorem dX6_go_50 : decode cX6_go 50 = .ok (.iinc 3 1, 3) := by decide +kernel
theorem dX6_go_53 : decode cX6_go 53 = .ok (.goto (-49), 3) := by decide +kernel
theorem dX6_go_56 : decode cX6_go 56 = .ok (.return_, 1) := by decide +kernel
theorem dX6_goBehind_0 : decode cX6_goBehind 0 = .ok (.aload_n 0, 1) := by decide +kernel
theorem dX6_goBehind_1 : decode cX6_goBehind 1 = .ok (.iload_n 1, 1) := by decide +kernel
theorem dX6_goBehind_2 : decode cX6_goBehind 2 = .ok (.invokevirtual 83, 3) := by decide +kernel
theorem dX6_goBehind_5 : decode cX6_goBehind 5 = .ok (.aload_n 0, 1) := by decide +kernel
theorem dX6_goBehind_6 : decode cX6_goBehind 6 = .ok (.invokevirtual 64, 3) := by decide +kernel
theorem dX6_goBehind_9 : decode cX6_goBehind 9 = .ok (.return_, 1) := by decide +kernel
theorem dX6_makeList_0 : decode cX6_makeList 0 = .ok (.iconst 0, 1) := by decide +kernel
theorem dX6_makeList_1 : decode cX6_makeList 1 = .ok (.istore_n 1, 1) := by decide +kernel
theorem dX6_makeList_2 : decode cX6_makeList 2 = .ok (.iload_n 1, 1) := by decide +kernel
theorem dX6_makeList_3 : decode cX6_makeList 3 = .ok (.aload_n 0, 1) := by decide +kernel
theorem dX6_makeList_4 : decode cX6_makeList 4 = .ok (.getfield 25, 3) := by decide +kernel
theorem dX6_makeList_7 : decode cX6_makeList 7 = .ok (.invokevirtual 47, 3) := by decide +kernel
theorem dX6_makeList_10 : decode cX6_makeList 10 = .ok (.if_icmp .ge 76, 3) := by decide +kernel
theorem dX6_makeList_13 : decode cX6_makeList 13 = .ok (.iload_n 1, 1) := by decide +kernel
theorem dX6_makeList_14 : decode cX6_makeList 14 = .ok (.istore_n 2, 1) := by decide +kernel
theorem dX6_makeList_15 : decode cX6_makeList 15 = .ok (.iload_n 2, 1) := by decide +kernel
theorem dX6_makeList_16 : decode cX6_makeList 16 = .ok (.ifCond .le 55, 3) := by decide +kernel
theorem dX6_makeList_19 : decode cX6_makeList 19 = .ok (.aload_n 0, 1) := by decide +kernel
theorem dX6_makeList_20 : decode cX6_makeList 20 = .ok (.getfield 12, 3) := by decide +kernel
theorem dX6_makeList_23 : decode cX6_makeList 23 = .ok (.aload_n 0, 1) := by decide +kernel
theorem dX6_makeList_24 : decode cX6_makeList 24 = .ok (.getfield 18, 3) := by decide +kernel
theorem dX6_makeList_27 : decode cX6_makeList 27 = .ok (.iload_n 2, 1) := by decide +kernel
theorem dX6_makeList_28 : decode cX6_makeList 28 = .ok (.iconst 1, 1) := by decide +kernel
theorem dX6_makeList_29 : decode cX6_makeList 29 = .ok (.isub, 1) := by decide +kernel
theorem dX6_makeList_30 : decode cX6_makeList 30 = .ok (.invokestatic 43, 3) := by decide +kernel
theorem dX6_makeList_33 : decode cX6_makeList 33 = .ok (.invokevirtual 86, 3) := by decide +kernel
theorem dX6_makeList_36 : decode cX6_makeList 36 = .ok (.aload_n 0, 1) := by decide +kernel
theorem dX6_makeList_37 : decode cX6_makeList 37 = .ok (.getfield 12, 3) := by decide +kernel
theorem dX6_makeList_40 : decode cX6_makeList 40 = .ok (.iload_n 1, 1) := by decide +kernel
theorem dX6_makeList_41 : decode cX6_makeList 41 = .ok (.invokevirtual 86, 3) := by decide +kernel
theorem dX6_makeList_44 : decode cX6_makeList 44 = .ok (.if_icmp .le 27, 3) := by decide +kernel
theorem dX6_makeList_47 : decode cX6_makeList 47 = .ok (.aload_n 0, 1) := by decide +kernel
theorem dX6_makeList_48 : decode cX6_makeList 48 = .ok (.getfield 18, 3) := by decide +kernel
theorem dX6_makeList_51 : decode cX6_makeList 51 = .ok (.iload_n 2, 1) := by decide +kernel
theorem dX6_makeList_52 : decode cX6_makeList 52 = .ok (.aload_n 0, 1) := by decide +kernel
theorem dX6_makeList_53 : decode cX6_makeList 53 = .ok (.getfield 18, 3) := by decide +kernel
theorem dX6_makeList_56 : decode cX6_makeList 56 = .ok (.iload_n 2, 1) := by decide +kernel
theorem dX6_makeList_57 : decode cX6_makeList 57 = .ok (.iconst 1, 1) := by decide +kernel
theorem dX6_makeList_58 : decode cX6_makeList 58 = .ok (.isub, 1) := by decide +kernel
theorem dX6_makeList_59 : decode cX6_makeList 59 = .ok (.invokestatic 43, 3) := by decide +kernel
theorem dX6_makeList_62 : decode cX6_makeList 62 = .ok (.invokestatic 89, 3) := by decide +kernel
theorem dX6_makeList_65 : decode cX6_makeList 65 = .ok (.iinc 2 (-1), 3) := by decide +kernel
theorem dX6_makeList_68 : decode cX6_makeList 68 = .ok (.goto (-53), 3) := by decide +kernel
theorem dX6_makeList_71 : decode cX6_makeList 71 = .ok (.aload_n 0, 1) := by decide +kernel
theorem dX6_makeList_72 : decode cX6_makeList 72 = .ok (.getfield 18, 3) := by decide +kernel
theorem dX6_makeList_75 : decode cX6_makeList 75 = .ok (.iload_n 2, 1) := by decide +kernel
theorem dX6_makeList_76 : decode cX6_makeList 76 = .ok (.iload_n 1, 1) := by decide +kernel
theorem dX6_makeList_77 : decode cX6_makeList 77 = .ok (.invokestatic 89, 3) := by decide +kernel
theorem dX6_makeList_80 : decode cX6_makeList 80 = .ok (.iinc 1 1, 3) := by decide +kernel
theorem dX6_makeList_83 : decode cX6_makeList 83 = .ok (.goto (-81), 3) := by decide +kernel
theorem dX6_makeList_86 : decode cX6_makeList 86 = .ok (.return_, 1) := by decide +kernel
theorem dX6_clearCounts_0 : decode cX6_clearCounts 0 = .ok (.aload_n 0, 1) := by decide +kernel
theorem dX6_clearCounts_1 : decode cX6_clearCounts 1 = .ok (.iconst 0, 1) := by decide +kernel
theorem dX6_clearCounts_2 : decode cX6_clearCounts 2 = .ok (.putfield 53, 3) := by decide +kernel
theorem dX6_clearCounts_5 : decode cX6_clearCounts 5 = .ok (.iconst 0, 1) := by decide +kernel
theorem dX6_clearCounts_6 : decode cX6_clearCounts 6 = .ok (.istore_n 1, 1) := by decide +kernel
theorem dX6_clearCounts_7 : decode cX6_clearCounts 7 = .ok (.iload_n 1, 1) := by decide +kernel
theorem dX6_clearCounts_8 : decode cX6_clearCounts 8 = .ok (.aload_n 0, 1) := by decide +kernel
theorem dX6_clearCounts_9 : decode cX6_clearCounts 9 = .ok (.getfield 22, 3) := by decide +kernel
theorem dX6_clearCounts_12 : decode cX6_clearCounts 12 = .ok (.arraylength, 1) := by decide +kernel
theorem dX6_clearCounts_13 : decode cX6_clearCounts 13 = .ok (.if_icmp .ge 16, 3) := by decide +kernel
theorem dX6_clearCounts_16 : decode cX6_clearCounts 16 = .ok (.aload_n 0, 1) := by decide +kernel
theorem dX6_clearCounts_17 : decode cX6_clearCounts 17 = .ok (.getfield 22, 3) := by decide +kernel
theorem dX6_clearCounts_20 : decode cX6_clearCounts 20 = .ok (.iload_n 1, 1) := by decide +kernel
theorem dX6_clearCounts_21 : decode cX6_clearCounts 21 = .ok (.iconst 0, 1) := by decide +kernel
theorem dX6_clearCounts_22 : decode cX6_clearCounts 22 = .ok (.iastore, 1) := by decide +kernel
theorem dX6_clearCounts_23 : decode cX6_clearCounts 23 = .ok (.iinc 1 1, 3) := by decide +kernel
theorem dX6_clearCounts_26 : decode cX6_clearCounts 26 = .ok (.goto (-19), 3) := by decide +kernel
theorem dX6_clearCounts_29 : decode cX6_clearCounts 29 = .ok (.return_, 1) := by decide +kernel
theorem dX6_changeRooms_0 : decode cX6_changeRooms 0 = .ok (.aload_n 0, 1) := by decide +kernel
theorem dX6_changeRooms_1 : decode cX6_changeRooms 1 = .ok (.getfield 12, 3) := by decide +kernel
theorem dX6_changeRooms_4 : decode cX6_changeRooms 4 = .ok (.invokevirtual 93, 3) := by decide +kernel
theorem dX6_changeRooms_7 : decode cX6_changeRooms 7 = .ok (.bipush 60, 2) := by decide +kernel
theorem dX6_changeRooms_9 : decode cX6_changeRooms 9 = .ok (.irem, 1) := by decide +kernel
theorem dX6_changeRooms_10 : decode cX6_changeRooms 10 = .ok (.istore_n 1, 1) := by decide +kernel
theorem dX6_changeRooms_11 : decode cX6_changeRooms 11 = .ok (.iconst 0, 1) := by decide +kernel
theorem dX6_changeRooms_12 : decode cX6_changeRooms 12 = .ok (.istore_n 2, 1) := by decide +kernel
theorem dX6_changeRooms_13 : decode cX6_changeRooms 13 = .ok (.iload_n 2, 1) := by decide +kernel
theorem dX6_changeRooms_14 : decode cX6_changeRooms 14 = .ok (.aload_n 0, 1) := by decide +kernel
theorem dX6_changeRooms_15 : decode cX6_changeRooms 15 = .ok (.getfield 25, 3) := by decide +kernel
theorem dX6_changeRooms_18 : decode cX6_changeRooms 18 = .ok (.invokevirtual 47, 3) := by decide +kernel
theorem dX6_changeRooms_21 : decode cX6_changeRooms 21 = .ok (.if_icmp .ge 36, 3) := by decide +kernel
theorem dX6_changeRooms_24 : decode cX6_changeRooms 24 = .ok (.aload_n 0, 1) := by decide +kernel
theorem dX6_changeRooms_25 : decode cX6_changeRooms 25 = .ok (.getfield 18, 3) := by decide +kernel
theorem dX6_changeRooms_28 : decode cX6_changeRooms 28 = .ok (.iload_n 2, 1) := by decide +kernel
theorem dX6_changeRooms_29 : decode cX6_changeRooms 29 = .ok (.invokestatic 43, 3) := by decide +kernel
theorem dX6_changeRooms_32 : decode cX6_changeRooms 32 = .ok (.istore_n 3, 1) := by decide +kernel
theorem dX6_changeRooms_33 : decode cX6_changeRooms 33 = .ok (.aload_n 0, 1) := by decide +kernel
theorem dX6_changeRooms_34 : decode cX6_changeRooms 34 = .ok (.getfield 12, 3) := by decide +kernel
theorem dX6_changeRooms_37 : decode cX6_changeRooms 37 = .ok (.iload_n 3, 1) := by decide +kernel
theorem dX6_changeRooms_38 : decode cX6_changeRooms 38 = .ok (.invokevirtual 86, 3) := by decide +kernel
theorem dX6_changeRooms_41 : decode cX6_changeRooms 41 = .ok (.iload_n 1, 1) := by decide +kernel
theorem dX6_changeRooms_42 : decode cX6_changeRooms 42 = .ok (.if_icmp .ne 9, 3) := by decide +kernel
theorem dX6_changeRooms_45 : decode cX6_changeRooms 45 = .ok (.aload_n 0, 1) := by decide +kernel
theorem dX6_changeRooms_46 : decode cX6_changeRooms 46 = .ok (.iload_n 3, 1) := by decide +kernel
theorem dX6_changeRooms_47 : decode cX6_changeRooms 47 = .ok (.iload_n 2, 1) := by decide +kernel
theorem dX6_changeRooms_48 : decode cX6_changeRooms 48 = .ok (.invokevirtual 96, 3) := by decide +kernel
theorem dX6_changeRooms_51 : decode cX6_changeRooms 51 = .ok (.iinc 2 1, 3) := by decide +kernel
theorem dX6_changeRooms_54 : decode cX6_changeRooms 54 = .ok (.goto (-41), 3) := by decide +kernel
theorem dX6_changeRooms_57 : decode cX6_changeRooms 57 = .ok (.return_, 1) := by decide +kernel
theorem dX6_changeRoomOf_0 : decode cX6_changeRoomOf 0 = .ok (.aload_n 0, 1) := by decide +kernel
theorem dX6_changeRoomOf_1 : decode cX6_changeRoomOf 1 = .ok (.getfield 25, 3) := by decide +kernel
theorem dX6_changeRoomOf_4 : decode cX6_changeRoomOf 4 = .ok (.iload_n 1, 1) := by decide +kernel
theorem dX6_changeRoomOf_5 : decode cX6_changeRoomOf 5 = .ok (.invokevirtual 99, 3) := by decide +kernel
theorem dX6_changeRoomOf_8 : decode cX6_changeRoomOf 8 = .ok (.istore_n 3, 1) := by decide +kernel
theorem dX6_changeRoomOf_9 : decode cX6_changeRoomOf 9 = .ok (.aload_n 0, 1) := by decide +kernel
theorem dX6_changeRoomOf_10 : decode cX6_changeRoomOf 10 = .ok (.getfield 18, 3) := by decide +kernel
theorem dX6_changeRoomOf_13 : decode cX6_changeRoomOf 13 = .ok (.iload_n 3, 1) := by decide +kernel
theorem dX6_changeRoomOf_14 : decode cX6_changeRoomOf 14 = .ok (.iconst 2, 1) := by decide +kernel
theorem dX6_changeRoomOf_15 : decode cX6_changeRoomOf 15 = .ok (.if_icmp .ne 9, 3) := by decide +kernel
theorem dX6_changeRoomOf_18 : decode cX6_changeRoomOf 18 = .ok (.iload_n 2, 1) := by decide +kernel
theorem dX6_changeRoomOf_19 : decode cX6_changeRoomOf 19 = .ok (.iconst 2, 1) := by decide +kernel
theorem dX6_changeRoomOf_20 : decode cX6_changeRoomOf 20 = .ok (.iadd, 1) := by decide +kernel
theorem dX6_changeRoomOf_21 : decode cX6_changeRoomOf 21 = .ok (.goto 6, 3) := by decide +kernel
theorem dX6_changeRoomOf_24 : decode cX6_changeRoomOf 24 = .ok (.iload_n 2, 1) := by decide +kernel
theorem dX6_changeRoomOf_25 : decode cX6_changeRoomOf 25 = .ok (.iconst 1, 1) := by decide +kernel
theorem dX6_changeRoomOf_26 : decode cX6_changeRoomOf 26 = .ok (.iadd, 1) := by decide +kernel
theorem dX6_changeRoomOf_27 : decode cX6_changeRoomOf 27 = .ok (.aload_n 0, 1) := by decide +kernel
theorem dX6_changeRoomOf_28 : decode cX6_changeRoomOf 28 = .ok (.getfield 25, 3) := by decide +kernel
theorem dX6_changeRoomOf_31 : decode cX6_changeRoomOf 31 = .ok (.invokevirtual 47, 3) := by decide +kernel
theorem dX6_changeRoomOf_34 : decode cX6_changeRoomOf 34 = .ok (.invokestatic 102, 3) := by decide +kernel
theorem dX6_changeRoomOf_37 : decode cX6_changeRoomOf 37 = .ok (.invokestatic 43, 3) := by decide +kernel
theorem dX6_changeRoomOf_40 : decode cX6_changeRoomOf 40 = .ok (.istore 4, 2) := by decide +kernel
theorem dX6_changeRoomOf_42 : decode cX6_changeRoomOf 42 = .ok (.iload_n 3, 1) := by decide +kernel
theorem dX6_changeRoomOf_43 : decode cX6_changeRoomOf 43 = .ok (.iconst 1, 1) := by decide +kernel
theorem dX6_changeRoomOf_44 : decode cX6_changeRoomOf 44 = .ok (.if_icmp .ne 19, 3) := by decide +kernel
theorem dX6_changeRoomOf_47 : decode cX6_changeRoomOf 47 = .ok (.aload_n 0, 1) := by decide +kernel
theorem dX6_changeRoomOf_48 : decode cX6_changeRoomOf 48 = .ok (.getfield 12, 3) := by decide +kernel
theorem dX6_changeRoomOf_51 : decode cX6_changeRoomOf 51 = .ok (.invokevirtual 93, 3) := by decide +kernel
theorem dX6_changeRoomOf_54 : decode cX6_changeRoomOf 54 = .ok (.bipush 60, 2) := by decide +kernel
theorem dX6_changeRoomOf_56 : decode cX6_changeRoomOf 56 = .ok (.idiv, 1) := by decide +kernel
theorem dX6_changeRoomOf_57 : decode cX6_changeRoomOf 57 = .ok (.iconst 4, 1) := by decide +kernel
theorem dX6_changeRoomOf_58 : decode cX6_changeRoomOf 58 = .ok (.irem, 1) := by decide +kernel
theorem dX6_changeRoomOf_59 : decode cX6_changeRoomOf 59 = .ok (.ifCond .eq 4, 3) := by decide +kernel
theorem dX6_changeRoomOf_62 : decode cX6_changeRoomOf 62 = .ok (.return_, 1) := by decide +kernel
theorem dX6_changeRoomOf_63 : decode cX6_changeRoomOf 63 = .ok (.iload_n 3, 1) := by decide +kernel
theorem dX6_changeRoomOf_64 : decode cX6_changeRoomOf 64 = .ok (.iconst 3, 1) := by decide +kernel
theorem dX6_changeRoomOf_65 : decode cX6_changeRoomOf 65 = .ok (.if_icmp .ne 18, 3) := by decide +kernel
theorem dX6_changeRoomOf_68 : decode cX6_changeRoomOf 68 = .ok (.aload_n 0, 1) := by decide +kernel
theorem dX6_changeRoomOf_69 : decode cX6_changeRoomOf 69 = .ok (.iload 4, 2) := by decide +kernel
theorem dX6_changeRoomOf_71 : decode cX6_changeRoomOf 71 = .ok (.invokevirtual 57, 3) := by decide +kernel
theorem dX6_changeRoomOf_74 : decode cX6_changeRoomOf 74 = .ok (.aload_n 0, 1) := by decide +kernel
theorem dX6_changeRoomOf_75 : decode cX6_changeRoomOf 75 = .ok (.iload_n 1, 1) := by decide +kernel
theorem dX6_changeRoomOf_76 : decode cX6_changeRoomOf 76 = .ok (.invokevirtual 57, 3) := by decide +kernel
theorem dX6_changeRoomOf_79 : decode cX6_changeRoomOf 79 = .ok (.if_icmp .gt 4, 3) := by decide +kernel
theorem dX6_changeRoomOf_82 : decode cX6_changeRoomOf 82 = .ok (.return_, 1) := by decide +kernel
theorem dX6_changeRoomOf_83 : decode cX6_changeRoomOf 83 = .ok (.aload_n 0, 1) := by decide +kernel
theorem dX6_changeRoomOf_84 : decode cX6_changeRoomOf 84 = .ok (.getfield 12, 3) := by decide +kernel
theorem dX6_changeRoomOf_87 : decode cX6_changeRoomOf 87 = .ok (.iload_n 1, 1) := by decide +kernel
theorem dX6_changeRoomOf_88 : decode cX6_changeRoomOf 88 = .ok (.iload 4, 2) := by decide +kernel
theorem dX6_changeRoomOf_90 : decode cX6_changeRoomOf 90 = .ok (.invokevirtual 105, 3) := by decide +kernel
theorem dX6_changeRoomOf_93 : decode cX6_changeRoomOf 93 = .ok (.return_, 1) := by decide +kernel
theorem dX6_sunNow_0 : decode cX6_sunNow 0 = .ok (.aload_n 0, 1) := by decide +kernel
theorem dX6_sunNow_1 : decode cX6_sunNow 1 = .ok (.getfield 25, 3) := by decide +kernel
theorem dX6_sunNow_4 : decode cX6_sunNow 4 = .ok (.aload_n 0, 1) := by decide +kernel
theorem dX6_sunNow_5 : decode cX6_sunNow 5 = .ok (.getfield 12, 3) := by decide +kernel
theorem dX6_sunNow_8 : decode cX6_sunNow 8 = .ok (.invokevirtual 93, 3) := by decide +kernel
theorem dX6_sunNow_11 : decode cX6_sunNow 11 = .ok (.invokevirtual 108, 3) := by decide +kernel
theorem dX6_sunNow_14 : decode cX6_sunNow 14 = .ok (.aload_n 0, 1) := by decide +kernel
theorem dX6_sunNow_15 : decode cX6_sunNow 15 = .ok (.getfield 12, 3) := by decide +kernel
theorem dX6_sunNow_18 : decode cX6_sunNow 18 = .ok (.iload_n 1, 1) := by decide +kernel
theorem dX6_sunNow_19 : decode cX6_sunNow 19 = .ok (.invokevirtual 112, 3) := by decide +kernel
theorem dX6_sunNow_22 : decode cX6_sunNow 22 = .ok (.invokestatic 43, 3) := by decide +kernel
theorem dX6_sunNow_25 : decode cX6_sunNow 25 = .ok (.ireturn, 1) := by decide +kernel
theorem dX6_daysAlike_0 : decode cX6_daysAlike 0 = .ok (.bipush 30, 2) := by decide +kernel
theorem dX6_daysAlike_2 : decode cX6_daysAlike 2 = .ok (.aload_n 0, 1) := by decide +kernel
theorem dX6_daysAlike_3 : decode cX6_daysAlike 3 = .ok (.getfield 12, 3) := by decide +kernel
theorem dX6_daysAlike_6 : decode cX6_daysAlike 6 = .ok (.invokevirtual 93, 3) := by decide +kernel
theorem dX6_daysAlike_9 : decode cX6_daysAlike 9 = .ok (.bipush 30, 2) := by decide +kernel
theorem dX6_daysAlike_11 : decode cX6_daysAlike 11 = .ok (.irem, 1) := by decide +kernel
theorem dX6_daysAlike_12 : decode cX6_daysAlike 12 = .ok (.isub, 1) := by decide +kernel
theorem dX6_daysAlike_13 : decode cX6_daysAlike 13 = .ok (.istore_n 1, 1) := by decide +kernel
theorem dX6_daysAlike_14 : decode cX6_daysAlike 14 = .ok (.iconst 0, 1) := by decide +kernel
theorem dX6_daysAlike_15 : decode cX6_daysAlike 15 = .ok (.istore_n 2, 1) := by decide +kernel
theorem dX6_daysAlike_16 : decode cX6_daysAlike 16 = .ok (.iload_n 2, 1) := by decide +kernel
theorem dX6_daysAlike_17 : decode cX6_daysAlike 17 = .ok (.aload_n 0, 1) := by decide +kernel
theorem dX6_daysAlike_18 : decode cX6_daysAlike 18 = .ok (.getfield 25, 3) := by decide +kernel
theorem dX6_daysAlike_21 : decode cX6_daysAlike 21 = .ok (.invokevirtual 47, 3) := by decide +kernel
theorem dX6_daysAlike_24 : decode cX6_daysAlike 24 = .ok (.if_icmp .ge 29, 3) := by decide +kernel
theorem dX6_daysAlike_27 : decode cX6_daysAlike 27 = .ok (.aload_n 0, 1) := by decide +kernel
theorem dX6_daysAlike_28 : decode cX6_daysAlike 28 = .ok (.getfield 12, 3) := by decide +kernel
theorem dX6_daysAlike_31 : decode cX6_daysAlike 31 = .ok (.iload_n 2, 1) := by decide +kernel
theorem dX6_daysAlike_32 : decode cX6_daysAlike 32 = .ok (.invokevirtual 115, 3) := by decide +kernel
theorem dX6_daysAlike_35 : decode cX6_daysAlike 35 = .ok (.istore_n 3, 1) := by decide +kernel
theorem dX6_daysAlike_36 : decode cX6_daysAlike 36 = .ok (.iload_n 3, 1) := by decide +kernel
theorem dX6_daysAlike_37 : decode cX6_daysAlike 37 = .ok (.ifCond .le 10, 3) := by decide +kernel
theorem dX6_daysAlike_40 : decode cX6_daysAlike 40 = .ok (.iload_n 3, 1) := by decide +kernel
theorem dX6_daysAlike_41 : decode cX6_daysAlike 41 = .ok (.iload_n 1, 1) := by decide +kernel
theorem dX6_daysAlike_42 : decode cX6_daysAlike 42 = .ok (.if_icmp .ge 5, 3) := by decide +kernel
theorem dX6_daysAlike_45 : decode cX6_daysAlike 45 = .ok (.iload_n 3, 1) := by decide +kernel
theorem dX6_daysAlike_46 : decode cX6_daysAlike 46 = .ok (.istore_n 1, 1) := by decide +kernel
theorem dX6_daysAlike_47 : decode cX6_daysAlike 47 = .ok (.iinc 2 1, 3) := by decide +kernel
theorem dX6_daysAlike_50 : decode cX6_daysAlike 50 = .ok (.goto (-34), 3) := by decide +kernel
theorem dX6_daysAlike_53 : decode cX6_daysAlike 53 = .ok (.iconst 1, 1) := by decide +kernel
theorem dX6_daysAlike_54 : decode cX6_daysAlike 54 = .ok (.iload_n 1, 1) := by decide +kernel
theorem dX6_daysAlike_55 : decode cX6_daysAlike 55 = .ok (.invokestatic 118, 3) := by decide +kernel
theorem dX6_daysAlike_58 : decode cX6_daysAlike 58 = .ok (.ireturn, 1) := by decide +kernel
theorem dX6_countDays_0 : decode cX6_countDays 0 = .ok (.iconst 0, 1) := by decide +kernel
theorem dX6_countDays_1 : decode cX6_countDays 1 = .ok (.istore_n 2, 1) := by decide +kernel
theorem dX6_countDays_2 : decode cX6_countDays 2 = .ok (.iload_n 2, 1) := by decide +kernel
theorem dX6_countDays_3 : decode cX6_countDays 3 = .ok (.aload_n 0, 1) := by decide +kernel
theorem dX6_countDays_4 : decode cX6_countDays 4 = .ok (.getfield 25, 3) := by decide +kernel
theorem dX6_countDays_7 : decode cX6_countDays 7 = .ok (.invokevirtual 47, 3) := by decide +kernel
theorem dX6_countDays_10 : decode cX6_countDays 10 = .ok (.if_icmp .ge 57, 3) := by decide +kernel
theorem dX6_countDays_13 : decode cX6_countDays 13 = .ok (.aload_n 0, 1) := by decide +kernel
theorem dX6_countDays_14 : decode cX6_countDays 14 = .ok (.iload_n 2, 1) := by decide +kernel
theorem dX6_countDays_15 : decode cX6_countDays 15 = .ok (.invokevirtual 57, 3) := by decide +kernel
theorem dX6_countDays_18 : decode cX6_countDays 18 = .ok (.istore_n 3, 1) := by decide +kernel
theorem dX6_countDays_19 : decode cX6_countDays 19 = .ok (.aload_n 0, 1) := by decide +kernel
theorem dX6_countDays_20 : decode cX6_countDays 20 = .ok (.getfield 22, 3) := by decide +kernel
theorem dX6_countDays_23 : decode cX6_countDays 23 = .ok (.iload_n 2, 1) := by decide +kernel
theorem dX6_countDays_24 : decode cX6_countDays 24 = .ok (.aload_n 0, 1) := by decide +kernel
theorem dX6_countDays_25 : decode cX6_countDays 25 = .ok (.getfield 22, 3) := by decide +kernel
theorem dX6_countDays_28 : decode cX6_countDays 28 = .ok (.iload_n 2, 1) := by decide +kernel
theorem dX6_countDays_29 : decode cX6_countDays 29 = .ok (.invokestatic 43, 3) := by decide +kernel
theorem dX6_countDays_32 : decode cX6_countDays 32 = .ok (.iload_n 3, 1) := by decide +kernel
theorem dX6_countDays_33 : decode cX6_countDays 33 = .ok (.iload_n 1, 1) := by decide +kernel
theorem dX6_countDays_34 : decode cX6_countDays 34 = .ok (.imul, 1) := by decide +kernel
theorem dX6_countDays_35 : decode cX6_countDays 35 = .ok (.iadd, 1) := by decide +kernel
theorem dX6_countDays_36 : decode cX6_countDays 36 = .ok (.invokestatic 89, 3) := by decide +kernel
theorem dX6_countDays_39 : decode cX6_countDays 39 = .ok (.iload_n 3, 1) := by decide +kernel
theorem dX6_countDays_40 : decode cX6_countDays 40 = .ok (.aload_n 0, 1) := by decide +kernel
theorem dX6_countDays_41 : decode cX6_countDays 41 = .ok (.getfield 25, 3) := by decide +kernel
theorem dX6_countDays_44 : decode cX6_countDays 44 = .ok (.iload_n 2, 1) := by decide +kernel
theorem dX6_countDays_45 : decode cX6_countDays 45 = .ok (.invokevirtual 61, 3) := by decide +kernel
theorem dX6_countDays_48 : decode cX6_countDays 48 = .ok (.if_icmp .ge 13, 3) := by decide +kernel
theorem dX6_countDays_51 : decode cX6_countDays 51 = .ok (.aload_n 0, 1) := by decide +kernel
theorem dX6_countDays_52 : decode cX6_countDays 52 = .ok (.dup, 1) := by decide +kernel
theorem dX6_countDays_53 : decode cX6_countDays 53 = .ok (.getfield 53, 3) := by decide +kernel
theorem dX6_countDays_56 : decode cX6_countDays 56 = .ok (.iload_n 1, 1) := by decide +kernel
theorem dX6_countDays_57 : decode cX6_countDays 57 = .ok (.iadd, 1) := by decide +kernel
theorem dX6_countDays_58 : decode cX6_countDays 58 = .ok (.putfield 53, 3) := by decide +kernel
theorem dX6_countDays_61 : decode cX6_countDays 61 = .ok (.iinc 2 1, 3) := by decide +kernel
theorem dX6_countDays_64 : decode cX6_countDays 64 = .ok (.goto (-62), 3) := by decide +kernel
theorem dX6_countDays_67 : decode cX6_countDays 67 = .ok (.return_, 1) := by decide +kernel
theorem dX7_init_0 : decode cX7_init 0 = .ok (.aload_n 0, 1) := by decide +kernel
theorem dX7_init_1 : decode cX7_init 1 = .ok (.invokespecial 3, 3) := by decide +kernel
theorem dX7_init_4 : decode cX7_init 4 = .ok (.aload_n 0, 1) := by decide +kernel
theorem dX7_init_5 : decode cX7_init 5 = .ok (.new 9, 3) := by decide +kernel
theorem dX7_init_8 : decode cX7_init 8 = .ok (.dup, 1) := by decide +kernel
theorem dX7_init_9 : decode cX7_init 9 = .ok (.invokespecial 11, 3) := by decide +kernel
theorem dX7_init_12 : decode cX7_init 12 = .ok (.putfield 12, 3) := by decide +kernel
theorem dX7_init_15 : decode cX7_init 15 = .ok (.aload_n 0, 1) := by decide +kernel
theorem dX7_init_16 : decode cX7_init 16 = .ok (.new 16, 3) := by decide +kernel
theorem dX7_init_19 : decode cX7_init 19 = .ok (.dup, 1) := by decide +kernel
theorem dX7_init_20 : decode cX7_init 20 = .ok (.invokespecial 18, 3) := by decide +kernel
theorem dX7_init_23 : decode cX7_init 23 = .ok (.putfield 19, 3) := by decide +kernel
theorem dX7_init_26 : decode cX7_init 26 = .ok (.aload_n 0, 1) := by decide +kernel
theorem dX7_init_27 : decode cX7_init 27 = .ok (.new 16, 3) := by decide +kernel
theorem dX7_init_30 : decode cX7_init 30 = .ok (.dup, 1) := by decide +kernel
theorem dX7_init_31 : decode cX7_init 31 = .ok (.invokespecial 18, 3) := by decide +kernel
theorem dX7_init_34 : decode cX7_init 34 = .ok (.putfield 23, 3) := by decide +kernel
theorem dX7_init_37 : decode cX7_init 37 = .ok (.aload_n 0, 1) := by decide +kernel
theorem dX7_init_38 : decode cX7_init 38 = .ok (.new 26, 3) := by decide +kernel
theorem dX7_init_41 : decode cX7_init 41 = .ok (.dup, 1) := by decide +kernel
theorem dX7_init_42 : decode cX7_init 42 = .ok (.invokespecial 28, 3) := by decide +kernel
theorem dX7_init_45 : decode cX7_init 45 = .ok (.putfield 29, 3) := by decide +kernel
theorem dX7_init_48 : decode cX7_init 48 = .ok (.aload_n 0, 1) := by decide +kernel
theorem dX7_init_49 : decode cX7_init 49 = .ok (.new 26, 3) := by decide +kernel
theorem dX7_init_52 : decode cX7_init 52 = .ok (.dup, 1) := by decide +kernel
theorem dX7_init_53 : decode cX7_init 53 = .ok (.invokespecial 28, 3) := by decide +kernel
theorem dX7_init_56 : decode cX7_init 56 = .ok (.putfield 33, 3) := by decide +kernel
theorem dX7_init_59 : decode cX7_init 59 = .ok (.aload_n 0, 1) := by decide +kernel
theorem dX7_init_60 : decode cX7_init 60 = .ok (.new 36, 3) := by decide +kernel
theorem dX7_init_63 : decode cX7_init 63 = .ok (.dup, 1) := by decide +kernel
theorem dX7_init_64 : decode cX7_init 64 = .ok (.bipush 8, 2) := by decide +kernel
theorem dX7_init_66 : decode cX7_init 66 = .ok (.invokespecial 38, 3) := by decide +kernel
theorem dX7_init_69 : decode cX7_init 69 = .ok (.putfield 41, 3) := by decide +kernel
theorem dX7_init_72 : decode cX7_init 72 = .ok (.aload_n 0, 1) := by decide +kernel
theorem dX7_init_73 : decode cX7_init 73 = .ok (.new 36, 3) := by decide +kernel
theorem dX7_init_76 : decode cX7_init 76 = .ok (.dup, 1) := by decide +kernel
theorem dX7_init_77 : decode cX7_init 77 = .ok (.iconst 2, 1) := by decide +kernel
theorem dX7_init_78 : decode cX7_init 78 = .ok (.invokespecial 38, 3) := by decide +kernel
theorem dX7_init_81 : decode cX7_init 81 = .ok (.putfield 45, 3) := by decide +kernel
theorem dX7_init_84 : decode cX7_init 84 = .ok (.aload_n 0, 1) := by decide +kernel
theorem dX7_init_85 : decode cX7_init 85 = .ok (.new 48, 3) := by decide +kernel
theorem dX7_init_88 : decode cX7_init 88 = .ok (.dup, 1) := by decide +kernel
theorem dX7_init_89 : decode cX7_init 89 = .ok (.invokespecial 50, 3) := by decide +kernel
theorem dX7_init_92 : decode cX7_init 92 = .ok (.putfield 51, 3) := by decide +kernel
theorem dX7_init_95 : decode cX7_init 95 = .ok (.aload_n 0, 1) := by decide +kernel
theorem dX7_init_96 : decode cX7_init 96 = .ok (.new 55, 3) := by decide +kernel
theorem dX7_init_99 : decode cX7_init 99 = .ok (.dup, 1) := by decide +kernel
theorem dX7_init_100 : decode cX7_init 100 = .ok (.aload_n 0, 1) := by decide +kernel
theorem dX7_init_101 : decode cX7_init 101 = .ok (.getfield 19, 3) := by decide +kernel
theorem dX7_init_104 : decode cX7_init 104 = .ok (.invokespecial 57, 3) := by decide +kernel
theorem dX7_init_107 : decode cX7_init 107 = .ok (.putfield 60, 3) := by decide +kernel
theorem dX7_init_110 : decode cX7_init 110 = .ok (.aload_n 0, 1) := by decide +kernel
theorem dX7_init_111 : decode cX7_init 111 = .ok (.new 64, 3) := by decide +kernel
theorem dX7_init_114 : decode cX7_init 114 = .ok (.dup, 1) := by decide +kernel
theorem dX7_init_115 : decode cX7_init 115 = .ok (.aload_n 0, 1) := by decide +kernel
theorem dX7_init_116 : decode cX7_init 116 = .ok (.getfield 19, 3) := by decide +kernel
theorem dX7_init_119 : decode cX7_init 119 = .ok (.aload_n 0, 1) := by decide +kernel
theorem dX7_init_120 : decode cX7_init 120 = .ok (.getfield 60, 3) := by decide +kernel
theorem dX7_init_123 : decode cX7_init 123 = .ok (.invokespecial 66, 3) := by decide +kernel
theorem dX7_init_126 : decode cX7_init 126 = .ok (.putfield 69, 3) := by decide +kernel
theorem dX7_init_129 : decode cX7_init 129 = .ok (.iconst 0, 1) := by decide +kernel
theorem dX7_init_130 : decode cX7_init 130 = .ok (.istore_n 1, 1) := by decide +kernel
theorem dX7_init_131 : decode cX7_init 131 = .ok (.iload_n 1, 1) := by decide +kernel
theorem dX7_init_132 : decode cX7_init 132 = .ok (.ldc 73, 2) := by decide +kernel
theorem dX7_init_134 : decode cX7_init 134 = .ok (.invokevirtual 75, 3) := by decide +kernel
theorem dX7_init_137 : decode cX7_init 137 = .ok (.if_icmp .ge 22, 3) := by decide +kernel
theorem dX7_init_140 : decode cX7_init 140 = .ok (.aload_n 0, 1) := by decide +kernel
theorem dX7_init_141 : decode cX7_init 141 = .ok (.getfield 12, 3) := by decide +kernel
theorem dX7_init_144 : decode cX7_init 144 = .ok (.ldc 73, 2) := by decide +kernel
theorem dX7_init_146 : decode cX7_init 146 = .ok (.iload_n 1, 1) := by decide +kernel
theorem dX7_init_147 : decode cX7_init 147 = .ok (.invokevirtual 81, 3) := by decide +kernel
theorem dX7_init_150 : decode cX7_init 150 = .ok (.invokevirtual 85, 3) := by decide +kernel
theorem dX7_init_153 : decode cX7_init 153 = .ok (.iinc 1 1, 3) := by decide +kernel
theorem dX7_init_156 : decode cX7_init 156 = .ok (.goto (-25), 3) := by decide +kernel
theorem dX7_init_159 : decode cX7_init 159 = .ok (.aload_n 0, 1) := by decide +kernel
theorem dX7_init_160 : decode cX7_init 160 = .ok (.getfield 12, 3) := by decide +kernel
theorem dX7_init_163 : decode cX7_init 163 = .ok (.aload_n 0, 1) := by decide +kernel
theorem dX7_init_164 : decode cX7_init 164 = .ok (.getfield 23, 3) := by decide +kernel
theorem dX7_init_167 : decode cX7_init 167 = .ok (.invokevirtual 89, 3) := by decide +kernel
theorem dX7_init_170 : decode cX7_init 170 = .ok (.pop, 1) := by decide +kernel
theorem dX7_init_171 : decode cX7_init 171 = .ok (.aload_n 0, 1) := by decide +kernel
theorem dX7_init_172 : decode cX7_init 172 = .ok (.invokevirtual 93, 3) := by decide +kernel
theorem dX7_init_175 : decode cX7_init 175 = .ok (.aload_n 0, 1) := by decide +kernel
theorem dX7_init_176 : decode cX7_init 176 = .ok (.getfield 12, 3) := by decide +kernel
theorem dX7_init_179 : decode cX7_init 179 = .ok (.invokevirtual 96, 3) := by decide +kernel
theorem dX7_init_182 : decode cX7_init 182 = .ok (.return_, 1) := by decide +kernel
theorem dX7_write_0 : decode cX7_write 0 = .ok (.iload_n 1, 1) := by decide +kernel
theorem dX7_write_1 : decode cX7_write 1 = .ok (.bipush 32, 2) := by decide +kernel
theorem dX7_write_3 : decode cX7_write 3 = .ok (.bipush 126, 2) := by decide +kernel
theorem dX7_write_5 : decode cX7_write 5 = .ok (.invokestatic 99, 3) := by decide +kernel
theorem dX7_write_8 : decode cX7_write 8 = .ok (.ifCond .ne 5, 3) := by decide +kernel
theorem dX7_write_11 : decode cX7_write 11 = .ok (.iconst (-1), 1) := by decide +kernel
theorem dX7_write_12 : decode cX7_write 12 = .ok (.ireturn, 1) := by decide +kernel
theorem dX7_write_13 : decode cX7_write 13 = .ok (.aload_n 0, 1) := by decide +kernel
theorem dX7_write_14 : decode cX7_write 14 = .ok (.getfield 12, 3) := by decide +kernel
theorem dX7_write_17 : decode cX7_write 17 = .ok (.invokevirtual 103, 3) := by decide +kernel
theorem dX7_write_20 : decode cX7_write 20 = .ok (.ifCond .eq 6, 3) := by decide +kernel
theorem dX7_write_23 : decode cX7_write 23 = .ok (.bipush (-3), 2) := by decide +kernel
theorem dX7_write_25 : decode cX7_write 25 = .ok (.ireturn, 1) := by decide +kernel
theorem dX7_write_26 : decode cX7_write 26 = .ok (.aload_n 0, 1) := by decide +kernel
theorem dX7_write_27 : decode cX7_write 27 = .ok (.getfield 12, 3) := by decide +kernel
theorem dX7_write_30 : decode cX7_write 30 = .ok (.iload_n 1, 1) := by decide +kernel
theorem dX7_write_31 : decode cX7_write 31 = .ok (.i2c, 1) := by decide +kernel
theorem dX7_write_32 : decode cX7_write 32 = .ok (.invokevirtual 85, 3) := by decide +kernel
theorem dX7_write_35 : decode cX7_write 35 = .ok (.aload_n 0, 1) := by decide +kernel
theorem dX7_write_36 : decode cX7_write 36 = .ok (.getfield 12, 3) := by decide +kernel
theorem dX7_write_39 : decode cX7_write 39 = .ok (.invokevirtual 107, 3) := by decide +kernel
theorem dX7_write_42 : decode cX7_write 42 = .ok (.ireturn, 1) := by decide +kernel
theorem dX7_wipe_0 : decode cX7_wipe 0 = .ok (.aload_n 0, 1) := by decide +kernel
theorem dX7_wipe_1 : decode cX7_wipe 1 = .ok (.getfield 12, 3) := by decide +kernel
theorem dX7_wipe_4 : decode cX7_wipe 4 = .ok (.invokevirtual 107, 3) := by decide +kernel
theorem dX7_wipe_7 : decode cX7_wipe 7 = .ok (.istore_n 1, 1) := by decide +kernel
theorem dX7_wipe_8 : decode cX7_wipe 8 = .ok (.aload_n 0, 1) := by decide +kernel
theorem dX7_wipe_9 : decode cX7_wipe 9 = .ok (.getfield 12, 3) := by decide +kernel
theorem dX7_wipe_12 : decode cX7_wipe 12 = .ok (.invokevirtual 96, 3) := by decide +kernel
theorem dX7_wipe_15 : decode cX7_wipe 15 = .ok (.iload_n 1, 1) := by decide +kernel
theorem dX7_wipe_16 : decode cX7_wipe 16 = .ok (.ireturn, 1) := by decide +kernel
theorem dX7_fault_0 : decode cX7_fault 0 = .ok (.aload_n 0, 1) := by decide +kernel
theorem dX7_fault_1 : decode cX7_fault 1 = .ok (.getfield 12, 3) := by decide +kernel
theorem dX7_fault_4 : decode cX7_fault 4 = .ok (.aload_n 0, 1) := by decide +kernel
theorem dX7_fault_5 : decode cX7_fault 5 = .ok (.getfield 23, 3) := by decide +kernel
theorem dX7_fault_8 : decode cX7_fault 8 = .ok (.invokevirtual 89, 3) := by decide +kernel
theorem dX7_fault_11 : decode cX7_fault 11 = .ok (.ireturn, 1) := by decide +kernel
theorem dX7_lay_0 : decode cX7_lay 0 = .ok (.aload_n 0, 1) := by decide +kernel
theorem dX7_lay_1 : decode cX7_lay 1 = .ok (.getfield 12, 3) := by decide +kernel
theorem dX7_lay_4 : decode cX7_lay 4 = .ok (.aload_n 0, 1) := by decide +kernel
theorem dX7_lay_5 : decode cX7_lay 5 = .ok (.getfield 23, 3) := by decide +kernel
theorem dX7_lay_8 : decode cX7_lay 8 = .ok (.invokevirtual 89, 3) := by decide +kernel
theorem dX7_lay_11 : decode cX7_lay 11 = .ok (.bipush (-4), 2) := by decide +kernel
theorem dX7_lay_13 : decode cX7_lay 13 = .ok (.if_icmp .ne 13, 3) := by decide +kernel
theorem dX7_lay_16 : decode cX7_lay 16 = .ok (.aload_n 0, 1) := by decide +kernel
theorem dX7_lay_17 : decode cX7_lay 17 = .ok (.getfield 23, 3) := by decide +kernel
theorem dX7_lay_20 : decode cX7_lay 20 = .ok (.invokevirtual 110, 3) := by decide +kernel
theorem dX7_lay_23 : decode cX7_lay 23 = .ok (.ifCond .ne 6, 3) := by decide +kernel
theorem dX7_lay_26 : decode cX7_lay 26 = .ok (.bipush (-2), 2) := by decide +kernel
theorem dX7_lay_28 : decode cX7_lay 28 = .ok (.ireturn, 1) := by decide +kernel
theorem dX7_lay_29 : decode cX7_lay 29 = .ok (.aload_n 0, 1) := by decide +kernel
theorem dX7_lay_30 : decode cX7_lay 30 = .ok (.invokevirtual 93, 3) := by decide +kernel
theorem dX7_lay_33 : decode cX7_lay 33 = .ok (.aload_n 0, 1) := by decide +kernel
theorem dX7_lay_34 : decode cX7_lay 34 = .ok (.getfield 19, 3) := by decide +kernel
theorem dX7_lay_37 : decode cX7_lay 37 = .ok (.invokevirtual 113, 3) := by decide +kernel
theorem dX7_lay_40 : decode cX7_lay 40 = .ok (.ireturn, 1) := by decide +kernel
theorem dX7_cousin_0 : decode cX7_cousin 0 = .ok (.aload_n 0, 1) := by decide +kernel
theorem dX7_cousin_1 : decode cX7_cousin 1 = .ok (.iload_n 1, 1) := by decide +kernel
theorem dX7_cousin_2 : decode cX7_cousin 2 = .ok (.invokevirtual 116, 3) := by decide +kernel
theorem dX7_cousin_5 : decode cX7_cousin 5 = .ok (.ifCond .eq 12, 3) := by decide +kernel
theorem dX7_cousin_8 : decode cX7_cousin 8 = .ok (.iload_n 2, 1) := by decide +kernel
theorem dX7_cousin_9 : decode cX7_cousin 9 = .ok (.iconst 0, 1) := by decide +kernel
theorem dX7_cousin_10 : decode cX7_cousin 10 = .ok (.iconst 4, 1) := by decide +kernel
theorem dX7_cousin_11 : decode cX7_cousin 11 = .ok (.invokestatic 99, 3) := by decide +kernel
theorem dX7_cousin_14 : decode cX7_cousin 14 = .ok (.ifCond .ne 5, 3) := by decide +kernel
theorem dX7_cousin_17 : decode cX7_cousin 17 = .ok (.iconst (-1), 1) := by decide +kernel
theorem dX7_cousin_18 : decode cX7_cousin 18 = .ok (.ireturn, 1) := by decide +kernel
theorem dX7_cousin_19 : decode cX7_cousin 19 = .ok (.iload_n 2, 1) := by decide +kernel
theorem dX7_cousin_20 : decode cX7_cousin 20 = .ok (.tableswitch 68 0 3 #[32, 41, 50, 59], 32) := by decide +kernel
theorem dX7_cousin_52 : decode cX7_cousin 52 = .ok (.aload_n 0, 1) := by decide +kernel
theorem dX7_cousin_53 : decode cX7_cousin 53 = .ok (.getfield 19, 3) := by decide +kernel
theorem dX7_cousin_56 : decode cX7_cousin 56 = .ok (.iload_n 1, 1) := by decide +kernel
theorem dX7_cousin_57 : decode cX7_cousin 57 = .ok (.invokevirtual 120, 3) := by decide +kernel
theorem dX7_cousin_60 : decode cX7_cousin 60 = .ok (.ireturn, 1) := by decide +kernel
theorem dX7_cousin_61 : decode cX7_cousin 61 = .ok (.aload_n 0, 1) := by decide +kernel
theorem dX7_cousin_62 : decode cX7_cousin 62 = .ok (.getfield 29, 3) := by decide +kernel
theorem dX7_cousin_65 : decode cX7_cousin 65 = .ok (.iload_n 1, 1) := by decide +kernel
theorem dX7_cousin_66 : decode cX7_cousin 66 = .ok (.invokevirtual 124, 3) := by decide +kernel
theorem dX7_cousin_69 : decode cX7_cousin 69 = .ok (.ireturn, 1) := by decide +kernel
theorem dX7_cousin_70 : decode cX7_cousin 70 = .ok (.aload_n 0, 1) := by decide +kernel
theorem dX7_cousin_71 : decode cX7_cousin 71 = .ok (.getfield 19, 3) := by decide +kernel
theorem dX7_cousin_74 : decode cX7_cousin 74 = .ok (.iload_n 1, 1) := by decide +kernel
theorem dX7_cousin_75 : decode cX7_cousin 75 = .ok (.invokevirtual 127, 3) := by decide +kernel
theorem dX7_cousin_78 : decode cX7_cousin 78 = .ok (.ireturn, 1) := by decide +kernel
theorem dX7_cousin_79 : decode cX7_cousin 79 = .ok (.aload_n 0, 1) := by decide +kernel
theorem dX7_cousin_80 : decode cX7_cousin 80 = .ok (.getfield 29, 3) := by decide +kernel
theorem dX7_cousin_83 : decode cX7_cousin 83 = .ok (.iload_n 1, 1) := by decide +kernel
theorem dX7_cousin_84 : decode cX7_cousin 84 = .ok (.invokevirtual 130, 3) := by decide +kernel
theorem dX7_cousin_87 : decode cX7_cousin 87 = .ok (.ireturn, 1) := by decide +kernel
theorem dX7_cousin_88 : decode cX7_cousin 88 = .ok (.aload_n 0, 1) := by decide +kernel
theorem dX7_cousin_89 : decode cX7_cousin 89 = .ok (.getfield 60, 3) := by decide +kernel
theorem dX7_cousin_92 : decode cX7_cousin 92 = .ok (.aload_n 0, 1) := by decide +kernel
theorem dX7_cousin_93 : decode cX7_cousin 93 = .ok (.getfield 29, 3) := by decide +kernel
theorem dX7_cousin_96 : decode cX7_cousin 96 = .ok (.invokevirtual 133, 3) := by decide +kernel
theorem dX7_cousin_99 : decode cX7_cousin 99 = .ok (.aload_n 0, 1) := by decide +kernel
theorem dX7_cousin_100 : decode cX7_cousin 100 = .ok (.getfield 60, 3) := by decide +kernel
theorem dX7_cousin_103 : decode cX7_cousin 103 = .ok (.iload_n 1, 1) := by decide +kernel
theorem dX7_cousin_104 : decode cX7_cousin 104 = .ok (.invokevirtual 137, 3) := by decide +kernel
theorem dX7_cousin_107 : decode cX7_cousin 107 = .ok (.ireturn, 1) := by decide +kernel
theorem dX7_room_0 : decode cX7_room 0 = .ok (.aload_n 0, 1) := by decide +kernel
theorem dX7_room_1 : decode cX7_room 1 = .ok (.iload_n 1, 1) := by decide +kernel
theorem dX7_room_2 : decode cX7_room 2 = .ok (.invokevirtual 140, 3) := by decide +kernel
theorem dX7_room_5 : decode cX7_room 5 = .ok (.ifCond .eq 12, 3) := by decide +kernel
theorem dX7_room_8 : decode cX7_room 8 = .ok (.iload_n 2, 1) := by decide +kernel
theorem dX7_room_9 : decode cX7_room 9 = .ok (.iconst 0, 1) := by decide +kernel
theorem dX7_room_10 : decode cX7_room 10 = .ok (.iconst 2, 1) := by decide +kernel
theorem dX7_room_11 : decode cX7_room 11 = .ok (.invokestatic 99, 3) := by decide +kernel
theorem dX7_room_14 : decode cX7_room 14 = .ok (.ifCond .ne 5, 3) := by decide +kernel
theorem dX7_room_17 : decode cX7_room 17 = .ok (.iconst (-1), 1) := by decide +kernel
theorem dX7_room_18 : decode cX7_room 18 = .ok (.ireturn, 1) := by decide +kernel
theorem dX7_room_19 : decode cX7_room 19 = .ok (.iload_n 2, 1) := by decide +kernel
theorem dX7_room_20 : decode cX7_room 20 = .ok (.lookupswitch 46 #[(0, 28), (1, 37)], 28) := by decide +kernel
theorem dX7_room_48 : decode cX7_room 48 = .ok (.aload_n 0, 1) := by decide +kernel
theorem dX7_room_49 : decode cX7_room 49 = .ok (.getfield 19, 3) := by decide +kernel
theorem dX7_room_52 : decode cX7_room 52 = .ok (.iload_n 1, 1) := by decide +kernel
theorem dX7_room_53 : decode cX7_room 53 = .ok (.invokevirtual 143, 3) := by decide +kernel
theorem dX7_room_56 : decode cX7_room 56 = .ok (.ireturn, 1) := by decide +kernel
theorem dX7_room_57 : decode cX7_room 57 = .ok (.aload_n 0, 1) := by decide +kernel
theorem dX7_room_58 : decode cX7_room 58 = .ok (.getfield 19, 3) := by decide +kernel
theorem dX7_room_61 : decode cX7_room 61 = .ok (.iload_n 1, 1) := by decide +kernel
theorem dX7_room_62 : decode cX7_room 62 = .ok (.invokevirtual 146, 3) := by decide +kernel
theorem dX7_room_65 : decode cX7_room 65 = .ok (.ireturn, 1) := by decide +kernel
theorem dX7_room_66 : decode cX7_room 66 = .ok (.aload_n 0, 1) := by decide +kernel
theorem dX7_room_67 : decode cX7_room 67 = .ok (.getfield 29, 3) := by decide +kernel
theorem dX7_room_70 : decode cX7_room 70 = .ok (.iload_n 1, 1) := by decide +kernel
theorem dX7_room_71 : decode cX7_room 71 = .ok (.aload_n 0, 1) := by decide +kernel
theorem dX7_room_72 : decode cX7_room 72 = .ok (.getfield 19, 3) := by decide +kernel
theorem dX7_room_75 : decode cX7_room 75 = .ok (.invokevirtual 113, 3) := by decide +kernel
theorem dX7_room_78 : decode cX7_room 78 = .ok (.invokevirtual 149, 3) := by decide +kernel
theorem dX7_room_81 : decode cX7_room 81 = .ok (.ireturn, 1) := by decide +kernel
theorem dX7_pass_0 : decode cX7_pass 0 = .ok (.iload_n 1, 1) := by decide +kernel
theorem dX7_pass_1 : decode cX7_pass 1 = .ok (.iconst 1, 1) := by decide +kernel
theorem dX7_pass_2 : decode cX7_pass 2 = .ok (.bipush 120, 2) := by decide +kernel
theorem dX7_pass_4 : decode cX7_pass 4 = .ok (.invokestatic 99, 3) := by decide +kernel
theorem dX7_pass_7 : decode cX7_pass 7 = .ok (.ifCond .ne 5, 3) := by decide +kernel
theorem dX7_pass_10 : decode cX7_pass 10 = .ok (.iconst (-1), 1) := by decide +kernel
theorem dX7_pass_11 : decode cX7_pass 11 = .ok (.ireturn, 1) := by decide +kernel
theorem dX7_pass_12 : decode cX7_pass 12 = .ok (.aload_n 0, 1) := by decide +kernel
theorem dX7_pass_13 : decode cX7_pass 13 = .ok (.getfield 29, 3) := by decide +kernel
theorem dX7_pass_16 : decode cX7_pass 16 = .ok (.invokevirtual 153, 3) := by decide +kernel
theorem dX7_pass_19 : decode cX7_pass 19 = .ok (.iload_n 1, 1) := by decide +kernel
theorem dX7_pass_20 : decode cX7_pass 20 = .ok (.iadd, 1) := by decide +kernel
theorem dX7_pass_21 : decode cX7_pass 21 = .ok (.sipush 9999, 3) := by decide +kernel
theorem dX7_pass_24 : decode cX7_pass 24 = .ok (.if_icmp .le 6, 3) := by decide +kernel
theorem dX7_pass_27 : decode cX7_pass 27 = .ok (.bipush (-2), 2) := by decide +kernel
theorem dX7_pass_29 : decode cX7_pass 29 = .ok (.ireturn, 1) := by decide +kernel
theorem dX7_pass_30 : decode cX7_pass 30 = .ok (.aload_n 0, 1) := by decide +kernel
theorem dX7_pass_31 : decode cX7_pass 31 = .ok (.getfield 41, 3) := by decide +kernel
theorem dX7_pass_34 : decode cX7_pass 34 = .ok (.aload_n 0, 1) := by decide +kernel
theorem dX7_pass_35 : decode cX7_pass 35 = .ok (.getfield 29, 3) := by decide +kernel
theorem dX7_pass_38 : decode cX7_pass 38 = .ok (.invokevirtual 156, 3) := by decide +kernel
theorem dX7_pass_41 : decode cX7_pass 41 = .ok (.aload_n 0, 1) := by decide +kernel
theorem dX7_pass_42 : decode cX7_pass 42 = .ok (.getfield 60, 3) := by decide +kernel
theorem dX7_pass_45 : decode cX7_pass 45 = .ok (.aload_n 0, 1) := by decide +kernel
theorem dX7_pass_46 : decode cX7_pass 46 = .ok (.getfield 29, 3) := by decide +kernel
theorem dX7_pass_49 : decode cX7_pass 49 = .ok (.invokevirtual 133, 3) := by decide +kernel
theorem dX7_pass_52 : decode cX7_pass 52 = .ok (.aload_n 0, 1) := by decide +kernel
theorem dX7_pass_53 : decode cX7_pass 53 = .ok (.getfield 60, 3) := by decide +kernel
theorem dX7_pass_56 : decode cX7_pass 56 = .ok (.iload_n 1, 1) := by decide +kernel
theorem dX7_pass_57 : decode cX7_pass 57 = .ok (.invokevirtual 159, 3) := by decide +kernel
theorem dX7_pass_60 : decode cX7_pass 60 = .ok (.aload_n 0, 1) := by decide +kernel
theorem dX7_pass_61 : decode cX7_pass 61 = .ok (.getfield 29, 3) := by decide +kernel
theorem dX7_pass_64 : decode cX7_pass 64 = .ok (.aload_n 0, 1) := by decide +kernel
theorem dX7_pass_65 : decode cX7_pass 65 = .ok (.getfield 60, 3) := by decide +kernel
theorem dX7_pass_68 : decode cX7_pass 68 = .ok (.invokevirtual 162, 3) := by decide +kernel
theorem dX7_pass_71 : decode cX7_pass 71 = .ok (.invokevirtual 166, 3) := by decide +kernel
theorem dX7_pass_74 : decode cX7_pass 74 = .ok (.aload_n 0, 1) := by decide +kernel
theorem dX7_pass_75 : decode cX7_pass 75 = .ok (.getfield 29, 3) := by decide +kernel
theorem dX7_pass_78 : decode cX7_pass 78 = .ok (.invokevirtual 153, 3) := by decide +kernel
theorem dX7_pass_81 : decode cX7_pass 81 = .ok (.ireturn, 1) := by decide +kernel
theorem dX7_swap_0 : decode cX7_swap 0 = .ok (.aload_n 0, 1) := by decide +kernel
theorem dX7_swap_1 : decode cX7_swap 1 = .ok (.iload_n 1, 1) := by decide +kernel
theorem dX7_swap_2 : decode cX7_swap 2 = .ok (.invokevirtual 116, 3) := by decide +kernel
theorem dX7_swap_5 : decode cX7_swap 5 = .ok (.ifCond .eq 16, 3) := by decide +kernel
theorem dX7_swap_8 : decode cX7_swap 8 = .ok (.aload_n 0, 1) := by decide +kernel
theorem dX7_swap_9 : decode cX7_swap 9 = .ok (.iload_n 2, 1) := by decide +kernel
theorem dX7_swap_10 : decode cX7_swap 10 = .ok (.invokevirtual 116, 3) := by decide +kernel
theorem dX7_swap_13 : decode cX7_swap 13 = .ok (.ifCond .eq 8, 3) := by decide +kernel
theorem dX7_swap_16 : decode cX7_swap 16 = .ok (.iload_n 1, 1) := by decide +kernel
theorem dX7_swap_17 : decode cX7_swap 17 = .ok (.iload_n 2, 1) := by decide +kernel
theorem dX7_swap_18 : decode cX7_swap 18 = .ok (.if_icmp .ne 5, 3) := by decide +kernel
theorem dX7_swap_21 : decode cX7_swap 21 = .ok (.iconst (-1), 1) := by decide +kernel
theorem dX7_swap_22 : decode cX7_swap 22 = .ok (.ireturn, 1) := by decide +kernel
theorem dX7_swap_23 : decode cX7_swap 23 = .ok (.aload_n 0, 1) := by decide +kernel
theorem dX7_swap_24 : decode cX7_swap 24 = .ok (.getfield 41, 3) := by decide +kernel
theorem dX7_swap_27 : decode cX7_swap 27 = .ok (.aload_n 0, 1) := by decide +kernel
theorem dX7_swap_28 : decode cX7_swap 28 = .ok (.getfield 29, 3) := by decide +kernel
theorem dX7_swap_31 : decode cX7_swap 31 = .ok (.invokevirtual 156, 3) := by decide +kernel
theorem dX7_swap_34 : decode cX7_swap 34 = .ok (.aload_n 0, 1) := by decide +kernel
theorem dX7_swap_35 : decode cX7_swap 35 = .ok (.getfield 29, 3) := by decide +kernel
theorem dX7_swap_38 : decode cX7_swap 38 = .ok (.iload_n 1, 1) := by decide +kernel
theorem dX7_swap_39 : decode cX7_swap 39 = .ok (.iload_n 2, 1) := by decide +kernel
theorem dX7_swap_40 : decode cX7_swap 40 = .ok (.invokevirtual 169, 3) := by decide +kernel
theorem dX7_swap_43 : decode cX7_swap 43 = .ok (.aload_n 0, 1) := by decide +kernel
theorem dX7_swap_44 : decode cX7_swap 44 = .ok (.getfield 29, 3) := by decide +kernel
theorem dX7_swap_47 : decode cX7_swap 47 = .ok (.iload_n 1, 1) := by decide +kernel
theorem dX7_swap_48 : decode cX7_swap 48 = .ok (.invokevirtual 130, 3) := by decide +kernel
theorem dX7_swap_51 : decode cX7_swap 51 = .ok (.ireturn, 1) := by decide +kernel
theorem dX7_alter_0 : decode cX7_alter 0 = .ok (.aload_n 0, 1) := by decide +kernel
theorem dX7_alter_1 : decode cX7_alter 1 = .ok (.iload_n 1, 1) := by decide +kernel
theorem dX7_alter_2 : decode cX7_alter 2 = .ok (.invokevirtual 116, 3) := by decide +kernel
theorem dX7_alter_5 : decode cX7_alter 5 = .ok (.ifCond .eq 13, 3) := by decide +kernel
theorem dX7_alter_8 : decode cX7_alter 8 = .ok (.iload_n 2, 1) := by decide +kernel
theorem dX7_alter_9 : decode cX7_alter 9 = .ok (.iconst 0, 1) := by decide +kernel
theorem dX7_alter_10 : decode cX7_alter 10 = .ok (.bipush 59, 2) := by decide +kernel
theorem dX7_alter_12 : decode cX7_alter 12 = .ok (.invokestatic 99, 3) := by decide +kernel
theorem dX7_alter_15 : decode cX7_alter 15 = .ok (.ifCond .ne 5, 3) := by decide +kernel
theorem dX7_alter_18 : decode cX7_alter 18 = .ok (.iconst (-1), 1) := by decide +kernel
theorem dX7_alter_19 : decode cX7_alter 19 = .ok (.ireturn, 1) := by decide +kernel
theorem dX7_alter_20 : decode cX7_alter 20 = .ok (.aload_n 0, 1) := by decide +kernel
theorem dX7_alter_21 : decode cX7_alter 21 = .ok (.getfield 29, 3) := by decide +kernel
theorem dX7_alter_24 : decode cX7_alter 24 = .ok (.iload_n 1, 1) := by decide +kernel
theorem dX7_alter_25 : decode cX7_alter 25 = .ok (.invokevirtual 124, 3) := by decide +kernel
theorem dX7_alter_28 : decode cX7_alter 28 = .ok (.istore_n 3, 1) := by decide +kernel
theorem dX7_alter_29 : decode cX7_alter 29 = .ok (.aload_n 0, 1) := by decide +kernel
theorem dX7_alter_30 : decode cX7_alter 30 = .ok (.getfield 41, 3) := by decide +kernel
theorem dX7_alter_33 : decode cX7_alter 33 = .ok (.aload_n 0, 1) := by decide +kernel
theorem dX7_alter_34 : decode cX7_alter 34 = .ok (.getfield 29, 3) := by decide +kernel
theorem dX7_alter_37 : decode cX7_alter 37 = .ok (.invokevirtual 156, 3) := by decide +kernel
theorem dX7_alter_40 : decode cX7_alter 40 = .ok (.aload_n 0, 1) := by decide +kernel
theorem dX7_alter_41 : decode cX7_alter 41 = .ok (.getfield 29, 3) := by decide +kernel
theorem dX7_alter_44 : decode cX7_alter 44 = .ok (.iload_n 1, 1) := by decide +kernel
theorem dX7_alter_45 : decode cX7_alter 45 = .ok (.iload_n 2, 1) := by decide +kernel
theorem dX7_alter_46 : decode cX7_alter 46 = .ok (.invokevirtual 173, 3) := by decide +kernel
theorem dX7_alter_49 : decode cX7_alter 49 = .ok (.iload_n 3, 1) := by decide +kernel
theorem dX7_alter_50 : decode cX7_alter 50 = .ok (.ireturn, 1) := by decide +kernel
theorem dX7_undo_0 : decode cX7_undo 0 = .ok (.aload_n 0, 1) := by decide +kernel
theorem dX7_undo_1 : decode cX7_undo 1 = .ok (.getfield 41, 3) := by decide +kernel
theorem dX7_undo_4 : decode cX7_undo 4 = .ok (.aload_n 0, 1) := by decide +kernel
theorem dX7_undo_5 : decode cX7_undo 5 = .ok (.getfield 29, 3) := by decide +kernel
theorem dX7_undo_8 : decode cX7_undo 8 = .ok (.invokevirtual 176, 3) := by decide +kernel
theorem dX7_undo_11 : decode cX7_undo 11 = .ok (.ifCond .ne 6, 3) := by decide +kernel
theorem dX7_undo_14 : decode cX7_undo 14 = .ok (.bipush (-2), 2) := by decide +kernel
theorem dX7_undo_16 : decode cX7_undo 16 = .ok (.ireturn, 1) := by decide +kernel
theorem dX7_undo_17 : decode cX7_undo 17 = .ok (.aload_n 0, 1) := by decide +kernel
theorem dX7_undo_18 : decode cX7_undo 18 = .ok (.getfield 41, 3) := by decide +kernel
theorem dX7_undo_21 : decode cX7_undo 21 = .ok (.invokevirtual 180, 3) := by decide +kernel
theorem dX7_undo_24 : decode cX7_undo 24 = .ok (.ireturn, 1) := by decide +kernel
theorem dX7_has_0 : decode cX7_has 0 = .ok (.aload_n 0, 1) := by decide +kernel
theorem dX7_has_1 : decode cX7_has 1 = .ok (.iload_n 1, 1) := by decide +kernel
theorem dX7_has_2 : decode cX7_has 2 = .ok (.invokevirtual 116, 3) := by decide +kernel
theorem dX7_has_5 : decode cX7_has 5 = .ok (.ifCond .eq 13, 3) := by decide +kernel
theorem dX7_has_8 : decode cX7_has 8 = .ok (.iload_n 2, 1) := by decide +kernel
theorem dX7_has_9 : decode cX7_has 9 = .ok (.iconst 0, 1) := by decide +kernel
theorem dX7_has_10 : decode cX7_has 10 = .ok (.bipush 120, 2) := by decide +kernel
theorem dX7_has_12 : decode cX7_has 12 = .ok (.invokestatic 99, 3) := by decide +kernel
theorem dX7_has_15 : decode cX7_has 15 = .ok (.ifCond .ne 5, 3) := by decide +kernel
theorem dX7_has_18 : decode cX7_has 18 = .ok (.iconst (-1), 1) := by decide +kernel
theorem dX7_has_19 : decode cX7_has 19 = .ok (.ireturn, 1) := by decide +kernel
theorem dX7_has_20 : decode cX7_has 20 = .ok (.aload_n 0, 1) := by decide +kernel
theorem dX7_has_21 : decode cX7_has 21 = .ok (.getfield 60, 3) := by decide +kernel
theorem dX7_has_24 : decode cX7_has 24 = .ok (.aload_n 0, 1) := by decide +kernel
theorem dX7_has_25 : decode cX7_has 25 = .ok (.getfield 29, 3) := by decide +kernel
theorem dX7_has_28 : decode cX7_has 28 = .ok (.invokevirtual 133, 3) := by decide +kernel
theorem dX7_has_31 : decode cX7_has 31 = .ok (.aload_n 0, 1) := by decide +kernel
theorem dX7_has_32 : decode cX7_has 32 = .ok (.getfield 60, 3) := by decide +kernel
theorem dX7_has_35 : decode cX7_has 35 = .ok (.iload_n 2, 1) := by decide +kernel
theorem dX7_has_36 : decode cX7_has 36 = .ok (.iconst 1, 1) := by decide +kernel
theorem dX7_has_37 : decode cX7_has 37 = .ok (.iadd, 1) := by decide +kernel
theorem dX7_has_38 : decode cX7_has 38 = .ok (.invokevirtual 159, 3) := by decide +kernel
theorem dX7_has_41 : decode cX7_has 41 = .ok (.aload_n 0, 1) := by decide +kernel
theorem dX7_has_42 : decode cX7_has 42 = .ok (.getfield 60, 3) := by decide +kernel
theorem dX7_has_45 : decode cX7_has 45 = .ok (.invokevirtual 162, 3) := by decide +kernel
theorem dX7_has_48 : decode cX7_has 48 = .ok (.iload_n 1, 1) := by decide +kernel
theorem dX7_has_49 : decode cX7_has 49 = .ok (.invokevirtual 130, 3) := by decide +kernel
theorem dX7_has_52 : decode cX7_has 52 = .ok (.ireturn, 1) := by decide +kernel
theorem dX7_whose_0 : decode cX7_whose 0 = .ok (.aload_n 0, 1) := by decide +kernel
theorem dX7_whose_1 : decode cX7_whose 1 = .ok (.iload_n 1, 1) := by decide +kernel
theorem dX7_whose_2 : decode cX7_whose 2 = .ok (.invokevirtual 140, 3) := by decide +kernel
theorem dX7_whose_5 : decode cX7_whose 5 = .ok (.ifCond .eq 13, 3) := by decide +kernel
theorem dX7_whose_8 : decode cX7_whose 8 = .ok (.iload_n 2, 1) := by decide +kernel
theorem dX7_whose_9 : decode cX7_whose 9 = .ok (.iconst 0, 1) := by decide +kernel
theorem dX7_whose_10 : decode cX7_whose 10 = .ok (.bipush 120, 2) := by decide +kernel
theorem dX7_whose_12 : decode cX7_whose 12 = .ok (.invokestatic 99, 3) := by decide +kernel
theorem dX7_whose_15 : decode cX7_whose 15 = .ok (.ifCond .ne 5, 3) := by decide +kernel
theorem dX7_whose_18 : decode cX7_whose 18 = .ok (.iconst (-1), 1) := by decide +kernel
theorem dX7_whose_19 : decode cX7_whose 19 = .ok (.ireturn, 1) := by decide +kernel
theorem dX7_whose_20 : decode cX7_whose 20 = .ok (.aload_n 0, 1) := by decide +kernel
theorem dX7_whose_21 : decode cX7_whose 21 = .ok (.getfield 60, 3) := by decide +kernel
theorem dX7_whose_24 : decode cX7_whose 24 = .ok (.aload_n 0, 1) := by decide +kernel
theorem dX7_whose_25 : decode cX7_whose 25 = .ok (.getfield 29, 3) := by decide +kernel
theorem dX7_whose_28 : decode cX7_whose 28 = .ok (.invokevirtual 133, 3) := by decide +kernel
theorem dX7_whose_31 : decode cX7_whose 31 = .ok (.aload_n 0, 1) := by decide +kernel
theorem dX7_whose_32 : decode cX7_whose 32 = .ok (.getfield 60, 3) := by decide +kernel
theorem dX7_whose_35 : decode cX7_whose 35 = .ok (.iload_n 2, 1) := by decide +kernel
theorem dX7_whose_36 : decode cX7_whose 36 = .ok (.iconst 1, 1) := by decide +kernel
theorem dX7_whose_37 : decode cX7_whose 37 = .ok (.iadd, 1) := by decide +kernel
theorem dX7_whose_38 : decode cX7_whose 38 = .ok (.invokevirtual 159, 3) := by decide +kernel
theorem dX7_whose_41 : decode cX7_whose 41 = .ok (.aload_n 0, 1) := by decide +kernel
theorem dX7_whose_42 : decode cX7_whose 42 = .ok (.getfield 60, 3) := by decide +kernel
theorem dX7_whose_45 : decode cX7_whose 45 = .ok (.invokevirtual 162, 3) := by decide +kernel
theorem dX7_whose_48 : decode cX7_whose 48 = .ok (.iload_n 1, 1) := by decide +kernel
theorem dX7_whose_49 : decode cX7_whose 49 = .ok (.aload_n 0, 1) := by decide +kernel
theorem dX7_whose_50 : decode cX7_whose 50 = .ok (.getfield 19, 3) := by decide +kernel
theorem dX7_whose_53 : decode cX7_whose 53 = .ok (.invokevirtual 113, 3) := by decide +kernel
theorem dX7_whose_56 : decode cX7_whose 56 = .ok (.invokevirtual 149, 3) := by decide +kernel
theorem dX7_whose_59 : decode cX7_whose 59 = .ok (.ireturn, 1) := by decide +kernel
theorem dX7_sun_0 : decode cX7_sun 0 = .ok (.aload_n 0, 1) := by decide +kernel
theorem dX7_sun_1 : decode cX7_sun 1 = .ok (.iload_n 1, 1) := by decide +kernel
theorem dX7_sun_2 : decode cX7_sun 2 = .ok (.invokevirtual 116, 3) := by decide +kernel
theorem dX7_sun_5 : decode cX7_sun 5 = .ok (.ifCond .eq 13, 3) := by decide +kernel
theorem dX7_sun_8 : decode cX7_sun 8 = .ok (.iload_n 2, 1) := by decide +kernel
theorem dX7_sun_9 : decode cX7_sun 9 = .ok (.iconst 1, 1) := by decide +kernel
theorem dX7_sun_10 : decode cX7_sun 10 = .ok (.bipush 120, 2) := by decide +kernel
theorem dX7_sun_12 : decode cX7_sun 12 = .ok (.invokestatic 99, 3) := by decide +kernel
theorem dX7_sun_15 : decode cX7_sun 15 = .ok (.ifCond .ne 5, 3) := by decide +kernel
theorem dX7_sun_18 : decode cX7_sun 18 = .ok (.iconst (-1), 1) := by decide +kernel
theorem dX7_sun_19 : decode cX7_sun 19 = .ok (.ireturn, 1) := by decide +kernel
theorem dX7_sun_20 : decode cX7_sun 20 = .ok (.aload_n 0, 1) := by decide +kernel
theorem dX7_sun_21 : decode cX7_sun 21 = .ok (.getfield 60, 3) := by decide +kernel
theorem dX7_sun_24 : decode cX7_sun 24 = .ok (.aload_n 0, 1) := by decide +kernel
theorem dX7_sun_25 : decode cX7_sun 25 = .ok (.getfield 29, 3) := by decide +kernel
theorem dX7_sun_28 : decode cX7_sun 28 = .ok (.invokevirtual 133, 3) := by decide +kernel
theorem dX7_sun_31 : decode cX7_sun 31 = .ok (.aload_n 0, 1) := by decide +kernel
theorem dX7_sun_32 : decode cX7_sun 32 = .ok (.getfield 60, 3) := by decide +kernel
theorem dX7_sun_35 : decode cX7_sun 35 = .ok (.iload_n 2, 1) := by decide +kernel
theorem dX7_sun_36 : decode cX7_sun 36 = .ok (.invokevirtual 159, 3) := by decide +kernel
theorem dX7_sun_39 : decode cX7_sun 39 = .ok (.aload_n 0, 1) := by decide +kernel
theorem dX7_sun_40 : decode cX7_sun 40 = .ok (.getfield 60, 3) := by decide +kernel
theorem dX7_sun_43 : decode cX7_sun 43 = .ok (.iload_n 1, 1) := by decide +kernel
theorem dX7_sun_44 : decode cX7_sun 44 = .ok (.invokevirtual 181, 3) := by decide +kernel
theorem dX7_sun_47 : decode cX7_sun 47 = .ok (.ireturn, 1) := by decide +kernel
theorem dX7_cold_0 : decode cX7_cold 0 = .ok (.iload_n 1, 1) := by decide +kernel
theorem dX7_cold_1 : decode cX7_cold 1 = .ok (.iconst 0, 1) := by decide +kernel
theorem dX7_cold_2 : decode cX7_cold 2 = .ok (.bipush 120, 2) := by decide +kernel
theorem dX7_cold_4 : decode cX7_cold 4 = .ok (.invokestatic 99, 3) := by decide +kernel
theorem dX7_cold_7 : decode cX7_cold 7 = .ok (.ifCond .ne 5, 3) := by decide +kernel
theorem dX7_cold_10 : decode cX7_cold 10 = .ok (.iconst (-1), 1) := by decide +kernel
theorem dX7_cold_11 : decode cX7_cold 11 = .ok (.ireturn, 1) := by decide +kernel
theorem dX7_cold_12 : decode cX7_cold 12 = .ok (.aload_n 0, 1) := by decide +kernel
theorem dX7_cold_13 : decode cX7_cold 13 = .ok (.getfield 60, 3) := by decide +kernel
theorem dX7_cold_16 : decode cX7_cold 16 = .ok (.aload_n 0, 1) := by decide +kernel
theorem dX7_cold_17 : decode cX7_cold 17 = .ok (.getfield 29, 3) := by decide +kernel
theorem dX7_cold_20 : decode cX7_cold 20 = .ok (.invokevirtual 133, 3) := by decide +kernel
theorem dX7_cold_23 : decode cX7_cold 23 = .ok (.aload_n 0, 1) := by decide +kernel
theorem dX7_cold_24 : decode cX7_cold 24 = .ok (.getfield 60, 3) := by decide +kernel
theorem dX7_cold_27 : decode cX7_cold 27 = .ok (.iload_n 1, 1) := by decide +kernel
theorem dX7_cold_28 : decode cX7_cold 28 = .ok (.invokevirtual 184, 3) := by decide +kernel
theorem dX7_cold_31 : decode cX7_cold 31 = .ok (.aload_n 0, 1) := by decide +kernel
theorem dX7_cold_32 : decode cX7_cold 32 = .ok (.getfield 60, 3) := by decide +kernel
theorem dX7_cold_35 : decode cX7_cold 35 = .ok (.invokevirtual 187, 3) := by decide +kernel
theorem dX7_cold_38 : decode cX7_cold 38 = .ok (.ireturn, 1) := by decide +kernel
theorem dX7_want_0 : decode cX7_want 0 = .ok (.iload_n 1, 1) := by decide +kernel
theorem dX7_want_1 : decode cX7_want 1 = .ok (.iconst 1, 1) := by decide +kernel
theorem dX7_want_2 : decode cX7_want 2 = .ok (.bipush 120, 2) := by decide +kernel
theorem dX7_want_4 : decode cX7_want 4 = .ok (.invokestatic 99, 3) := by decide +kernel
theorem dX7_want_7 : decode cX7_want 7 = .ok (.ifCond .ne 5, 3) := by decide +kernel
theorem dX7_want_10 : decode cX7_want 10 = .ok (.iconst (-1), 1) := by decide +kernel
theorem dX7_want_11 : decode cX7_want 11 = .ok (.ireturn, 1) := by decide +kernel
theorem dX7_want_12 : decode cX7_want 12 = .ok (.aload_n 0, 1) := by decide +kernel
theorem dX7_want_13 : decode cX7_want 13 = .ok (.getfield 60, 3) := by decide +kernel
theorem dX7_want_16 : decode cX7_want 16 = .ok (.aload_n 0, 1) := by decide +kernel
theorem dX7_want_17 : decode cX7_want 17 = .ok (.getfield 29, 3) := by decide +kernel
theorem dX7_want_20 : decode cX7_want 20 = .ok (.invokevirtual 133, 3) := by decide +kernel
theorem dX7_want_23 : decode cX7_want 23 = .ok (.aload_n 0, 1) := by decide +kernel
theorem dX7_want_24 : decode cX7_want 24 = .ok (.getfield 60, 3) := by decide +kernel
theorem dX7_want_27 : decode cX7_want 27 = .ok (.iload_n 1, 1) := by decide +kernel
theorem dX7_want_28 : decode cX7_want 28 = .ok (.invokevirtual 159, 3) := by decide +kernel
theorem dX7_want_31 : decode cX7_want 31 = .ok (.aload_n 0, 1) := by decide +kernel
theorem dX7_want_32 : decode cX7_want 32 = .ok (.getfield 60, 3) := by decide +kernel
theorem dX7_want_35 : decode cX7_want 35 = .ok (.invokevirtual 190, 3) := by decide +kernel
theorem dX7_want_38 : decode cX7_want 38 = .ok (.ireturn, 1) := by decide +kernel
theorem dX7_swaps_0 : decode cX7_swaps 0 = .ok (.aload_n 0, 1) := by decide +kernel
theorem dX7_swaps_1 : decode cX7_swaps 1 = .ok (.iload_n 1, 1) := by decide +kernel
theorem dX7_swaps_2 : decode cX7_swaps 2 = .ok (.invokevirtual 116, 3) := by decide +kernel
theorem dX7_swaps_5 : decode cX7_swaps 5 = .ok (.ifCond .eq 22, 3) := by decide +kernel
theorem dX7_swaps_8 : decode cX7_swaps 8 = .ok (.iload_n 2, 1) := by decide +kernel
theorem dX7_swaps_9 : decode cX7_swaps 9 = .ok (.iconst 1, 1) := by decide +kernel
theorem dX7_swaps_10 : decode cX7_swaps 10 = .ok (.bipush 60, 2) := by decide +kernel
theorem dX7_swaps_12 : decode cX7_swaps 12 = .ok (.invokestatic 99, 3) := by decide +kernel
theorem dX7_swaps_15 : decode cX7_swaps 15 = .ok (.ifCond .eq 12, 3) := by decide +kernel
theorem dX7_swaps_18 : decode cX7_swaps 18 = .ok (.iload_n 3, 1) := by decide +kernel
theorem dX7_swaps_19 : decode cX7_swaps 19 = .ok (.iconst 0, 1) := by decide +kernel
theorem dX7_swaps_20 : decode cX7_swaps 20 = .ok (.iconst 2, 1) := by decide +kernel
theorem dX7_swaps_21 : decode cX7_swaps 21 = .ok (.invokestatic 99, 3) := by decide +kernel
theorem dX7_swaps_24 : decode cX7_swaps 24 = .ok (.ifCond .ne 5, 3) := by decide +kernel
theorem dX7_swaps_27 : decode cX7_swaps 27 = .ok (.iconst (-1), 1) := by decide +kernel
theorem dX7_swaps_28 : decode cX7_swaps 28 = .ok (.ireturn, 1) := by decide +kernel
theorem dX7_swaps_29 : decode cX7_swaps 29 = .ok (.aload_n 0, 1) := by decide +kernel
theorem dX7_swaps_30 : decode cX7_swaps 30 = .ok (.getfield 69, 3) := by decide +kernel
theorem dX7_swaps_33 : decode cX7_swaps 33 = .ok (.aload_n 0, 1) := by decide +kernel
theorem dX7_swaps_34 : decode cX7_swaps 34 = .ok (.getfield 29, 3) := by decide +kernel
theorem dX7_swaps_37 : decode cX7_swaps 37 = .ok (.iload_n 1, 1) := by decide +kernel
theorem dX7_swaps_38 : decode cX7_swaps 38 = .ok (.iload_n 2, 1) := by decide +kernel
theorem dX7_swaps_39 : decode cX7_swaps 39 = .ok (.invokevirtual 193, 3) := by decide +kernel
theorem dX7_swaps_42 : decode cX7_swaps 42 = .ok (.iload_n 3, 1) := by decide +kernel
theorem dX7_swaps_43 : decode cX7_swaps 43 = .ok (.lookupswitch 41 #[(0, 25), (1, 33)], 25) := by decide +kernel
theorem dX7_swaps_68 : decode cX7_swaps 68 = .ok (.aload_n 0, 1) := by decide +kernel
theorem dX7_swaps_69 : decode cX7_swaps 69 = .ok (.getfield 69, 3) := by decide +kernel
theorem dX7_swaps_72 : decode cX7_swaps 72 = .ok (.invokevirtual 197, 3) := by decide +kernel
theorem dX7_swaps_75 : decode cX7_swaps 75 = .ok (.ireturn, 1) := by decide +kernel
theorem dX7_swaps_76 : decode cX7_swaps 76 = .ok (.aload_n 0, 1) := by decide +kernel
theorem dX7_swaps_77 : decode cX7_swaps 77 = .ok (.getfield 69, 3) := by decide +kernel
theorem dX7_swaps_80 : decode cX7_swaps 80 = .ok (.invokevirtual 200, 3) := by decide +kernel
theorem dX7_swaps_83 : decode cX7_swaps 83 = .ok (.ireturn, 1) := by decide +kernel
theorem dX7_swaps_84 : decode cX7_swaps 84 = .ok (.aload_n 0, 1) := by decide +kernel
theorem dX7_swaps_85 : decode cX7_swaps 85 = .ok (.getfield 69, 3) := by decide +kernel
theorem dX7_swaps_88 : decode cX7_swaps 88 = .ok (.invokevirtual 203, 3) := by decide +kernel
theorem dX7_swaps_91 : decode cX7_swaps 91 = .ok (.ireturn, 1) := by decide +kernel
theorem dX7_warm_0 : decode cX7_warm 0 = .ok (.iload_n 1, 1) := by decide +kernel
theorem dX7_warm_1 : decode cX7_warm 1 = .ok (.iconst 1, 1) := by decide +kernel
theorem dX7_warm_2 : decode cX7_warm 2 = .ok (.bipush 60, 2) := by decide +kernel
theorem dX7_warm_4 : decode cX7_warm 4 = .ok (.invokestatic 99, 3) := by decide +kernel
theorem dX7_warm_7 : decode cX7_warm 7 = .ok (.ifCond .eq 12, 3) := by decide +kernel
theorem dX7_warm_10 : decode cX7_warm 10 = .ok (.iload_n 2, 1) := by decide +kernel
theorem dX7_warm_11 : decode cX7_warm 11 = .ok (.iconst 0, 1) := by decide +kernel
theorem dX7_warm_12 : decode cX7_warm 12 = .ok (.iconst 1, 1) := by decide +kernel
theorem dX7_warm_13 : decode cX7_warm 13 = .ok (.invokestatic 99, 3) := by decide +kernel
theorem dX7_warm_16 : decode cX7_warm 16 = .ok (.ifCond .ne 5, 3) := by decide +kernel
theorem dX7_warm_19 : decode cX7_warm 19 = .ok (.iconst (-1), 1) := by decide +kernel
theorem dX7_warm_20 : decode cX7_warm 20 = .ok (.ireturn, 1) := by decide +kernel
theorem dX7_warm_21 : decode cX7_warm 21 = .ok (.aload_n 0, 1) := by decide +kernel
theorem dX7_warm_22 : decode cX7_warm 22 = .ok (.getfield 69, 3) := by decide +kernel
theorem dX7_warm_25 : decode cX7_warm 25 = .ok (.aload_n 0, 1) := by decide +kernel
theorem dX7_warm_26 : decode cX7_warm 26 = .ok (.getfield 29, 3) := by decide +kernel
theorem dX7_warm_29 : decode cX7_warm 29 = .ok (.iload_n 1, 1) := by decide +kernel
theorem dX7_warm_30 : decode cX7_warm 30 = .ok (.invokevirtual 206, 3) := by decide +kernel
theorem dX7_warm_33 : decode cX7_warm 33 = .ok (.iload_n 2, 1) := by decide +kernel
theorem dX7_warm_34 : decode cX7_warm 34 = .ok (.ifCond .ne 13, 3) := by decide +kernel
theorem dX7_warm_37 : decode cX7_warm 37 = .ok (.aload_n 0, 1) := by decide +kernel
theorem dX7_warm_38 : decode cX7_warm 38 = .ok (.getfield 69, 3) := by decide +kernel
theorem dX7_warm_41 : decode cX7_warm 41 = .ok (.invokevirtual 197, 3) := by decide +kernel
theorem dX7_warm_44 : decode cX7_warm 44 = .ok (.goto 10, 3) := by decide +kernel
theorem dX7_warm_47 : decode cX7_warm 47 = .ok (.aload_n 0, 1) := by decide +kernel
theorem dX7_warm_48 : decode cX7_warm 48 = .ok (.getfield 69, 3) := by decide +kernel
theorem dX7_warm_51 : decode cX7_warm 51 = .ok (.invokevirtual 200, 3) := by decide +kernel
theorem dX7_warm_54 : decode cX7_warm 54 = .ok (.ireturn, 1) := by decide +kernel
theorem dX7_canHave_0 : decode cX7_canHave 0 = .ok (.aload_n 0, 1) := by decide +kernel
theorem dX7_canHave_1 : decode cX7_canHave 1 = .ok (.iload_n 1, 1) := by decide +kernel
theorem dX7_canHave_2 : decode cX7_canHave 2 = .ok (.invokevirtual 140, 3) := by decide +kernel
theorem dX7_canHave_5 : decode cX7_canHave 5 = .ok (.ifCond .eq 13, 3) := by decide +kernel
theorem dX7_canHave_8 : decode cX7_canHave 8 = .ok (.iload_n 2, 1) := by decide +kernel
theorem dX7_canHave_9 : decode cX7_canHave 9 = .ok (.iconst 0, 1) := by decide +kernel
theorem dX7_canHave_10 : decode cX7_canHave 10 = .ok (.bipush 120, 2) := by decide +kernel
