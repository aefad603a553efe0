theorem dX7_canHave_12 : decode cX7_canHave 12 = .ok (.invokestatic 99, 3) := by decide +kernel
theorem dX7_canHave_15 : decode cX7_canHave 15 = .ok (.ifCond .ne 5, 3) := by decide +kernel
theorem dX7_canHave_18 : decode cX7_canHave 18 = .ok (.iconst (-1), 1) := by decide +kernel
theorem dX7_canHave_19 : decode cX7_canHave 19 = .ok (.ireturn, 1) := by decide +kernel
theorem dX7_canHave_20 : decode cX7_canHave 20 = .ok (.aload_n 0, 1) := by decide +kernel
theorem dX7_canHave_21 : decode cX7_canHave 21 = .ok (.getfield 69, 3) := by decide +kernel
theorem dX7_canHave_24 : decode cX7_canHave 24 = .ok (.aload_n 0, 1) := by decide +kernel
theorem dX7_canHave_25 : decode cX7_canHave 25 = .ok (.getfield 29, 3) := by decide +kernel
theorem dX7_canHave_28 : decode cX7_canHave 28 = .ok (.iload_n 1, 1) := by decide +kernel
theorem dX7_canHave_29 : decode cX7_canHave 29 = .ok (.iload_n 2, 1) := by decide +kernel
theorem dX7_canHave_30 : decode cX7_canHave 30 = .ok (.invokevirtual 210, 3) := by decide +kernel
theorem dX7_canHave_33 : decode cX7_canHave 33 = .ok (.ireturn, 1) := by decide +kernel
theorem dX7_round_0 : decode cX7_round 0 = .ok (.sipush 240, 3) := by decide +kernel
theorem dX7_round_3 : decode cX7_round 3 = .ok (.istore_n 1, 1) := by decide +kernel
theorem dX7_round_4 : decode cX7_round 4 = .ok (.aload_n 0, 1) := by decide +kernel
theorem dX7_round_5 : decode cX7_round 5 = .ok (.getfield 60, 3) := by decide +kernel
theorem dX7_round_8 : decode cX7_round 8 = .ok (.aload_n 0, 1) := by decide +kernel
theorem dX7_round_9 : decode cX7_round 9 = .ok (.getfield 29, 3) := by decide +kernel
theorem dX7_round_12 : decode cX7_round 12 = .ok (.invokevirtual 133, 3) := by decide +kernel
theorem dX7_round_15 : decode cX7_round 15 = .ok (.iload_n 1, 1) := by decide +kernel
theorem dX7_round_16 : decode cX7_round 16 = .ok (.istore_n 2, 1) := by decide +kernel
theorem dX7_round_17 : decode cX7_round 17 = .ok (.iload_n 2, 1) := by decide +kernel
theorem dX7_round_18 : decode cX7_round 18 = .ok (.iconst 4, 1) := by decide +kernel
theorem dX7_round_19 : decode cX7_round 19 = .ok (.iload_n 1, 1) := by decide +kernel
theorem dX7_round_20 : decode cX7_round 20 = .ok (.imul, 1) := by decide +kernel
theorem dX7_round_21 : decode cX7_round 21 = .ok (.if_icmp .gt 44, 3) := by decide +kernel
theorem dX7_round_24 : decode cX7_round 24 = .ok (.aload_n 0, 1) := by decide +kernel
theorem dX7_round_25 : decode cX7_round 25 = .ok (.getfield 60, 3) := by decide +kernel
theorem dX7_round_28 : decode cX7_round 28 = .ok (.iload_n 1, 1) := by decide +kernel
theorem dX7_round_29 : decode cX7_round 29 = .ok (.invokevirtual 159, 3) := by decide +kernel
theorem dX7_round_32 : decode cX7_round 32 = .ok (.aload_n 0, 1) := by decide +kernel
theorem dX7_round_33 : decode cX7_round 33 = .ok (.getfield 60, 3) := by decide +kernel
theorem dX7_round_36 : decode cX7_round 36 = .ok (.invokevirtual 162, 3) := by decide +kernel
theorem dX7_round_39 : decode cX7_round 39 = .ok (.aload_n 0, 1) := by decide +kernel
theorem dX7_round_40 : decode cX7_round 40 = .ok (.getfield 29, 3) := by decide +kernel
theorem dX7_round_43 : decode cX7_round 43 = .ok (.aload_n 0, 1) := by decide +kernel
theorem dX7_round_44 : decode cX7_round 44 = .ok (.getfield 19, 3) := by decide +kernel
theorem dX7_round_47 : decode cX7_round 47 = .ok (.invokevirtual 113, 3) := by decide +kernel
theorem dX7_round_50 : decode cX7_round 50 = .ok (.invokevirtual 214, 3) := by decide +kernel
theorem dX7_round_53 : decode cX7_round 53 = .ok (.ifCond .eq 5, 3) := by decide +kernel
theorem dX7_round_56 : decode cX7_round 56 = .ok (.iload_n 2, 1) := by decide +kernel
theorem dX7_round_57 : decode cX7_round 57 = .ok (.ireturn, 1) := by decide +kernel
theorem dX7_round_58 : decode cX7_round 58 = .ok (.iload_n 2, 1) := by decide +kernel
theorem dX7_round_59 : decode cX7_round 59 = .ok (.iload_n 1, 1) := by decide +kernel
theorem dX7_round_60 : decode cX7_round 60 = .ok (.iadd, 1) := by decide +kernel
theorem dX7_round_61 : decode cX7_round 61 = .ok (.istore_n 2, 1) := by decide +kernel
theorem dX7_round_62 : decode cX7_round 62 = .ok (.goto (-45), 3) := by decide +kernel
theorem dX7_round_65 : decode cX7_round 65 = .ok (.bipush (-4), 2) := by decide +kernel
theorem dX7_round_67 : decode cX7_round 67 = .ok (.ireturn, 1) := by decide +kernel
theorem dX7_way_0 : decode cX7_way 0 = .ok (.aload_n 0, 1) := by decide +kernel
theorem dX7_way_1 : decode cX7_way 1 = .ok (.iload_n 1, 1) := by decide +kernel
theorem dX7_way_2 : decode cX7_way 2 = .ok (.invokevirtual 116, 3) := by decide +kernel
theorem dX7_way_5 : decode cX7_way 5 = .ok (.ifCond .eq 20, 3) := by decide +kernel
theorem dX7_way_8 : decode cX7_way 8 = .ok (.aload_n 0, 1) := by decide +kernel
theorem dX7_way_9 : decode cX7_way 9 = .ok (.iload_n 2, 1) := by decide +kernel
theorem dX7_way_10 : decode cX7_way 10 = .ok (.invokevirtual 140, 3) := by decide +kernel
theorem dX7_way_13 : decode cX7_way 13 = .ok (.ifCond .eq 12, 3) := by decide +kernel
theorem dX7_way_16 : decode cX7_way 16 = .ok (.iload_n 3, 1) := by decide +kernel
theorem dX7_way_17 : decode cX7_way 17 = .ok (.iconst 0, 1) := by decide +kernel
theorem dX7_way_18 : decode cX7_way 18 = .ok (.iconst 1, 1) := by decide +kernel
theorem dX7_way_19 : decode cX7_way 19 = .ok (.invokestatic 99, 3) := by decide +kernel
theorem dX7_way_22 : decode cX7_way 22 = .ok (.ifCond .ne 5, 3) := by decide +kernel
theorem dX7_way_25 : decode cX7_way 25 = .ok (.iconst (-1), 1) := by decide +kernel
theorem dX7_way_26 : decode cX7_way 26 = .ok (.ireturn, 1) := by decide +kernel
theorem dX7_way_27 : decode cX7_way 27 = .ok (.aload_n 0, 1) := by decide +kernel
theorem dX7_way_28 : decode cX7_way 28 = .ok (.aload_n 0, 1) := by decide +kernel
theorem dX7_way_29 : decode cX7_way 29 = .ok (.getfield 29, 3) := by decide +kernel
theorem dX7_way_32 : decode cX7_way 32 = .ok (.iload_n 1, 1) := by decide +kernel
theorem dX7_way_33 : decode cX7_way 33 = .ok (.invokevirtual 130, 3) := by decide +kernel
theorem dX7_way_36 : decode cX7_way 36 = .ok (.iload_n 2, 1) := by decide +kernel
theorem dX7_way_37 : decode cX7_way 37 = .ok (.invokevirtual 218, 3) := by decide +kernel
theorem dX7_way_40 : decode cX7_way 40 = .ok (.istore 4, 2) := by decide +kernel
theorem dX7_way_42 : decode cX7_way 42 = .ok (.aload_n 0, 1) := by decide +kernel
theorem dX7_way_43 : decode cX7_way 43 = .ok (.iload_n 2, 1) := by decide +kernel
theorem dX7_way_44 : decode cX7_way 44 = .ok (.aload_n 0, 1) := by decide +kernel
theorem dX7_way_45 : decode cX7_way 45 = .ok (.getfield 29, 3) := by decide +kernel
theorem dX7_way_48 : decode cX7_way 48 = .ok (.iload_n 1, 1) := by decide +kernel
theorem dX7_way_49 : decode cX7_way 49 = .ok (.invokevirtual 130, 3) := by decide +kernel
theorem dX7_way_52 : decode cX7_way 52 = .ok (.invokevirtual 218, 3) := by decide +kernel
theorem dX7_way_55 : decode cX7_way 55 = .ok (.istore 5, 2) := by decide +kernel
theorem dX7_way_57 : decode cX7_way 57 = .ok (.iload_n 3, 1) := by decide +kernel
theorem dX7_way_58 : decode cX7_way 58 = .ok (.ifCond .ne 11, 3) := by decide +kernel
theorem dX7_way_61 : decode cX7_way 61 = .ok (.iload 4, 2) := by decide +kernel
theorem dX7_way_63 : decode cX7_way 63 = .ok (.iload 5, 2) := by decide +kernel
theorem dX7_way_65 : decode cX7_way 65 = .ok (.invokestatic 221, 3) := by decide +kernel
theorem dX7_way_68 : decode cX7_way 68 = .ok (.ireturn, 1) := by decide +kernel
theorem dX7_way_69 : decode cX7_way 69 = .ok (.iload 5, 2) := by decide +kernel
theorem dX7_way_71 : decode cX7_way 71 = .ok (.iload 4, 2) := by decide +kernel
theorem dX7_way_73 : decode cX7_way 73 = .ok (.if_icmp .ge 7, 3) := by decide +kernel
theorem dX7_way_76 : decode cX7_way 76 = .ok (.iconst 1, 1) := by decide +kernel
theorem dX7_way_77 : decode cX7_way 77 = .ok (.goto 4, 3) := by decide +kernel
theorem dX7_way_80 : decode cX7_way 80 = .ok (.iconst 0, 1) := by decide +kernel
theorem dX7_way_81 : decode cX7_way 81 = .ok (.ireturn, 1) := by decide +kernel
theorem dX7_seen_0 : decode cX7_seen 0 = .ok (.aload_n 0, 1) := by decide +kernel
theorem dX7_seen_1 : decode cX7_seen 1 = .ok (.iload_n 1, 1) := by decide +kernel
theorem dX7_seen_2 : decode cX7_seen 2 = .ok (.invokevirtual 116, 3) := by decide +kernel
theorem dX7_seen_5 : decode cX7_seen 5 = .ok (.ifCond .eq 21, 3) := by decide +kernel
theorem dX7_seen_8 : decode cX7_seen 8 = .ok (.aload_n 0, 1) := by decide +kernel
theorem dX7_seen_9 : decode cX7_seen 9 = .ok (.iload_n 2, 1) := by decide +kernel
theorem dX7_seen_10 : decode cX7_seen 10 = .ok (.invokevirtual 140, 3) := by decide +kernel
theorem dX7_seen_13 : decode cX7_seen 13 = .ok (.ifCond .eq 13, 3) := by decide +kernel
theorem dX7_seen_16 : decode cX7_seen 16 = .ok (.iload_n 3, 1) := by decide +kernel
theorem dX7_seen_17 : decode cX7_seen 17 = .ok (.iconst 0, 1) := by decide +kernel
theorem dX7_seen_18 : decode cX7_seen 18 = .ok (.bipush 120, 2) := by decide +kernel
theorem dX7_seen_20 : decode cX7_seen 20 = .ok (.invokestatic 99, 3) := by decide +kernel
theorem dX7_seen_23 : decode cX7_seen 23 = .ok (.ifCond .ne 5, 3) := by decide +kernel
theorem dX7_seen_26 : decode cX7_seen 26 = .ok (.iconst (-1), 1) := by decide +kernel
theorem dX7_seen_27 : decode cX7_seen 27 = .ok (.ireturn, 1) := by decide +kernel
theorem dX7_seen_28 : decode cX7_seen 28 = .ok (.aload_n 0, 1) := by decide +kernel
theorem dX7_seen_29 : decode cX7_seen 29 = .ok (.getfield 51, 3) := by decide +kernel
theorem dX7_seen_32 : decode cX7_seen 32 = .ok (.invokevirtual 226, 3) := by decide +kernel
theorem dX7_seen_35 : decode cX7_seen 35 = .ok (.ifCond .eq 6, 3) := by decide +kernel
theorem dX7_seen_38 : decode cX7_seen 38 = .ok (.bipush (-3), 2) := by decide +kernel
theorem dX7_seen_40 : decode cX7_seen 40 = .ok (.ireturn, 1) := by decide +kernel
theorem dX7_seen_41 : decode cX7_seen 41 = .ok (.aload_n 0, 1) := by decide +kernel
theorem dX7_seen_42 : decode cX7_seen 42 = .ok (.getfield 51, 3) := by decide +kernel
theorem dX7_seen_45 : decode cX7_seen 45 = .ok (.iload_n 1, 1) := by decide +kernel
theorem dX7_seen_46 : decode cX7_seen 46 = .ok (.iload_n 2, 1) := by decide +kernel
theorem dX7_seen_47 : decode cX7_seen 47 = .ok (.iload_n 3, 1) := by decide +kernel
theorem dX7_seen_48 : decode cX7_seen 48 = .ok (.invokevirtual 227, 3) := by decide +kernel
theorem dX7_seen_51 : decode cX7_seen 51 = .ok (.aload_n 0, 1) := by decide +kernel
theorem dX7_seen_52 : decode cX7_seen 52 = .ok (.getfield 51, 3) := by decide +kernel
theorem dX7_seen_55 : decode cX7_seen 55 = .ok (.invokevirtual 230, 3) := by decide +kernel
theorem dX7_seen_58 : decode cX7_seen 58 = .ok (.ireturn, 1) := by decide +kernel
theorem dX7_forget_0 : decode cX7_forget 0 = .ok (.aload_n 0, 1) := by decide +kernel
theorem dX7_forget_1 : decode cX7_forget 1 = .ok (.getfield 51, 3) := by decide +kernel
theorem dX7_forget_4 : decode cX7_forget 4 = .ok (.invokevirtual 230, 3) := by decide +kernel
theorem dX7_forget_7 : decode cX7_forget 7 = .ok (.istore_n 1, 1) := by decide +kernel
theorem dX7_forget_8 : decode cX7_forget 8 = .ok (.aload_n 0, 1) := by decide +kernel
theorem dX7_forget_9 : decode cX7_forget 9 = .ok (.getfield 51, 3) := by decide +kernel
theorem dX7_forget_12 : decode cX7_forget 12 = .ok (.invokevirtual 231, 3) := by decide +kernel
theorem dX7_forget_15 : decode cX7_forget 15 = .ok (.iload_n 1, 1) := by decide +kernel
theorem dX7_forget_16 : decode cX7_forget 16 = .ok (.ireturn, 1) := by decide +kernel
theorem dX7_register_0 : decode cX7_register 0 = .ok (.aload_n 0, 1) := by decide +kernel
theorem dX7_register_1 : decode cX7_register 1 = .ok (.iload_n 1, 1) := by decide +kernel
theorem dX7_register_2 : decode cX7_register 2 = .ok (.invokevirtual 116, 3) := by decide +kernel
theorem dX7_register_5 : decode cX7_register 5 = .ok (.ifCond .eq 12, 3) := by decide +kernel
theorem dX7_register_8 : decode cX7_register 8 = .ok (.iload_n 2, 1) := by decide +kernel
theorem dX7_register_9 : decode cX7_register 9 = .ok (.iconst 0, 1) := by decide +kernel
theorem dX7_register_10 : decode cX7_register 10 = .ok (.iconst 1, 1) := by decide +kernel
theorem dX7_register_11 : decode cX7_register 11 = .ok (.invokestatic 99, 3) := by decide +kernel
theorem dX7_register_14 : decode cX7_register 14 = .ok (.ifCond .ne 5, 3) := by decide +kernel
theorem dX7_register_17 : decode cX7_register 17 = .ok (.iconst (-1), 1) := by decide +kernel
theorem dX7_register_18 : decode cX7_register 18 = .ok (.ireturn, 1) := by decide +kernel
theorem dX7_register_19 : decode cX7_register 19 = .ok (.iconst 0, 1) := by decide +kernel
theorem dX7_register_20 : decode cX7_register 20 = .ok (.istore_n 3, 1) := by decide +kernel
theorem dX7_register_21 : decode cX7_register 21 = .ok (.bipush (-4), 2) := by decide +kernel
theorem dX7_register_23 : decode cX7_register 23 = .ok (.istore 4, 2) := by decide +kernel
theorem dX7_register_25 : decode cX7_register 25 = .ok (.iconst 0, 1) := by decide +kernel
theorem dX7_register_26 : decode cX7_register 26 = .ok (.istore 5, 2) := by decide +kernel
theorem dX7_register_28 : decode cX7_register 28 = .ok (.iload 5, 2) := by decide +kernel
theorem dX7_register_30 : decode cX7_register 30 = .ok (.bipush 59, 2) := by decide +kernel
theorem dX7_register_32 : decode cX7_register 32 = .ok (.if_icmp .gt 56, 3) := by decide +kernel
theorem dX7_register_35 : decode cX7_register 35 = .ok (.aload_n 0, 1) := by decide +kernel
theorem dX7_register_36 : decode cX7_register 36 = .ok (.getfield 60, 3) := by decide +kernel
theorem dX7_register_39 : decode cX7_register 39 = .ok (.aload_n 0, 1) := by decide +kernel
theorem dX7_register_40 : decode cX7_register 40 = .ok (.getfield 33, 3) := by decide +kernel
theorem dX7_register_43 : decode cX7_register 43 = .ok (.iload_n 1, 1) := by decide +kernel
theorem dX7_register_44 : decode cX7_register 44 = .ok (.iload 5, 2) := by decide +kernel
theorem dX7_register_46 : decode cX7_register 46 = .ok (.invokevirtual 232, 3) := by decide +kernel
theorem dX7_register_49 : decode cX7_register 49 = .ok (.aload_n 0, 1) := by decide +kernel
theorem dX7_register_50 : decode cX7_register 50 = .ok (.getfield 51, 3) := by decide +kernel
theorem dX7_register_53 : decode cX7_register 53 = .ok (.aload_n 0, 1) := by decide +kernel
theorem dX7_register_54 : decode cX7_register 54 = .ok (.getfield 60, 3) := by decide +kernel
theorem dX7_register_57 : decode cX7_register 57 = .ok (.invokevirtual 235, 3) := by decide +kernel
theorem dX7_register_60 : decode cX7_register 60 = .ok (.ifCond .eq 22, 3) := by decide +kernel
theorem dX7_register_63 : decode cX7_register 63 = .ok (.iinc 3 1, 3) := by decide +kernel
theorem dX7_register_66 : decode cX7_register 66 = .ok (.iload 4, 2) := by decide +kernel
theorem dX7_register_68 : decode cX7_register 68 = .ok (.bipush (-4), 2) := by decide +kernel
theorem dX7_register_70 : decode cX7_register 70 = .ok (.if_icmp .ne 8, 3) := by decide +kernel
theorem dX7_register_73 : decode cX7_register 73 = .ok (.iload 5, 2) := by decide +kernel
theorem dX7_register_75 : decode cX7_register 75 = .ok (.goto 5, 3) := by decide +kernel
theorem dX7_register_78 : decode cX7_register 78 = .ok (.iload 4, 2) := by decide +kernel
theorem dX7_register_80 : decode cX7_register 80 = .ok (.istore 4, 2) := by decide +kernel
theorem dX7_register_82 : decode cX7_register 82 = .ok (.iinc 5 1, 3) := by decide +kernel
theorem dX7_register_85 : decode cX7_register 85 = .ok (.goto (-57), 3) := by decide +kernel
theorem dX7_register_88 : decode cX7_register 88 = .ok (.iload_n 2, 1) := by decide +kernel
theorem dX7_register_89 : decode cX7_register 89 = .ok (.ifCond .ne 7, 3) := by decide +kernel
theorem dX7_register_92 : decode cX7_register 92 = .ok (.iload_n 3, 1) := by decide +kernel
theorem dX7_register_93 : decode cX7_register 93 = .ok (.goto 5, 3) := by decide +kernel
theorem dX7_register_96 : decode cX7_register 96 = .ok (.iload 4, 2) := by decide +kernel
theorem dX7_register_98 : decode cX7_register 98 = .ok (.ireturn, 1) := by decide +kernel
theorem dX7_foundling_0 : decode cX7_foundling 0 = .ok (.aload_n 0, 1) := by decide +kernel
theorem dX7_foundling_1 : decode cX7_foundling 1 = .ok (.iload_n 1, 1) := by decide +kernel
theorem dX7_foundling_2 : decode cX7_foundling 2 = .ok (.invokevirtual 116, 3) := by decide +kernel
theorem dX7_foundling_5 : decode cX7_foundling 5 = .ok (.ifCond .eq 31, 3) := by decide +kernel
theorem dX7_foundling_8 : decode cX7_foundling 8 = .ok (.aload_n 0, 1) := by decide +kernel
theorem dX7_foundling_9 : decode cX7_foundling 9 = .ok (.iload_n 2, 1) := by decide +kernel
theorem dX7_foundling_10 : decode cX7_foundling 10 = .ok (.invokevirtual 140, 3) := by decide +kernel
theorem dX7_foundling_13 : decode cX7_foundling 13 = .ok (.ifCond .eq 23, 3) := by decide +kernel
theorem dX7_foundling_16 : decode cX7_foundling 16 = .ok (.iload_n 3, 1) := by decide +kernel
theorem dX7_foundling_17 : decode cX7_foundling 17 = .ok (.iconst 0, 1) := by decide +kernel
theorem dX7_foundling_18 : decode cX7_foundling 18 = .ok (.bipush 120, 2) := by decide +kernel
theorem dX7_foundling_20 : decode cX7_foundling 20 = .ok (.invokestatic 99, 3) := by decide +kernel
theorem dX7_foundling_23 : decode cX7_foundling 23 = .ok (.ifCond .eq 13, 3) := by decide +kernel
theorem dX7_foundling_26 : decode cX7_foundling 26 = .ok (.iload 4, 2) := by decide +kernel
theorem dX7_foundling_28 : decode cX7_foundling 28 = .ok (.iconst 0, 1) := by decide +kernel
theorem dX7_foundling_29 : decode cX7_foundling 29 = .ok (.iconst 1, 1) := by decide +kernel
theorem dX7_foundling_30 : decode cX7_foundling 30 = .ok (.invokestatic 99, 3) := by decide +kernel
theorem dX7_foundling_33 : decode cX7_foundling 33 = .ok (.ifCond .ne 5, 3) := by decide +kernel
theorem dX7_foundling_36 : decode cX7_foundling 36 = .ok (.iconst (-1), 1) := by decide +kernel
theorem dX7_foundling_37 : decode cX7_foundling 37 = .ok (.ireturn, 1) := by decide +kernel
theorem dX7_foundling_38 : decode cX7_foundling 38 = .ok (.iconst 0, 1) := by decide +kernel
theorem dX7_foundling_39 : decode cX7_foundling 39 = .ok (.istore 5, 2) := by decide +kernel
theorem dX7_foundling_41 : decode cX7_foundling 41 = .ok (.iconst 0, 1) := by decide +kernel
theorem dX7_foundling_42 : decode cX7_foundling 42 = .ok (.istore 6, 2) := by decide +kernel
theorem dX7_foundling_44 : decode cX7_foundling 44 = .ok (.iload 6, 2) := by decide +kernel
theorem dX7_foundling_46 : decode cX7_foundling 46 = .ok (.bipush 59, 2) := by decide +kernel
theorem dX7_foundling_48 : decode cX7_foundling 48 = .ok (.if_icmp .gt 51, 3) := by decide +kernel
theorem dX7_foundling_51 : decode cX7_foundling 51 = .ok (.aload_n 0, 1) := by decide +kernel
theorem dX7_foundling_52 : decode cX7_foundling 52 = .ok (.getfield 60, 3) := by decide +kernel
theorem dX7_foundling_55 : decode cX7_foundling 55 = .ok (.aload_n 0, 1) := by decide +kernel
theorem dX7_foundling_56 : decode cX7_foundling 56 = .ok (.getfield 29, 3) := by decide +kernel
theorem dX7_foundling_59 : decode cX7_foundling 59 = .ok (.iload_n 1, 1) := by decide +kernel
theorem dX7_foundling_60 : decode cX7_foundling 60 = .ok (.iload 6, 2) := by decide +kernel
theorem dX7_foundling_62 : decode cX7_foundling 62 = .ok (.invokevirtual 232, 3) := by decide +kernel
theorem dX7_foundling_65 : decode cX7_foundling 65 = .ok (.aload_n 0, 1) := by decide +kernel
theorem dX7_foundling_66 : decode cX7_foundling 66 = .ok (.getfield 60, 3) := by decide +kernel
theorem dX7_foundling_69 : decode cX7_foundling 69 = .ok (.iload_n 3, 1) := by decide +kernel
theorem dX7_foundling_70 : decode cX7_foundling 70 = .ok (.iconst 1, 1) := by decide +kernel
theorem dX7_foundling_71 : decode cX7_foundling 71 = .ok (.iadd, 1) := by decide +kernel
theorem dX7_foundling_72 : decode cX7_foundling 72 = .ok (.invokevirtual 159, 3) := by decide +kernel
theorem dX7_foundling_75 : decode cX7_foundling 75 = .ok (.aload_n 0, 1) := by decide +kernel
theorem dX7_foundling_76 : decode cX7_foundling 76 = .ok (.getfield 60, 3) := by decide +kernel
theorem dX7_foundling_79 : decode cX7_foundling 79 = .ok (.invokevirtual 162, 3) := by decide +kernel
theorem dX7_foundling_82 : decode cX7_foundling 82 = .ok (.iload_n 1, 1) := by decide +kernel
theorem dX7_foundling_83 : decode cX7_foundling 83 = .ok (.invokevirtual 130, 3) := by decide +kernel
theorem dX7_foundling_86 : decode cX7_foundling 86 = .ok (.iload_n 2, 1) := by decide +kernel
theorem dX7_foundling_87 : decode cX7_foundling 87 = .ok (.if_icmp .ne 6, 3) := by decide +kernel
theorem dX7_foundling_90 : decode cX7_foundling 90 = .ok (.iinc 5 1, 3) := by decide +kernel
theorem dX7_foundling_93 : decode cX7_foundling 93 = .ok (.iinc 6 1, 3) := by decide +kernel
theorem dX7_foundling_96 : decode cX7_foundling 96 = .ok (.goto (-52), 3) := by decide +kernel
theorem dX7_foundling_99 : decode cX7_foundling 99 = .ok (.bipush 60, 2) := by decide +kernel
theorem dX7_foundling_101 : decode cX7_foundling 101 = .ok (.iload 5, 2) := by decide +kernel
theorem dX7_foundling_103 : decode cX7_foundling 103 = .ok (.invokestatic 239, 3) := by decide +kernel
theorem dX7_foundling_106 : decode cX7_foundling 106 = .ok (.istore 6, 2) := by decide +kernel
theorem dX7_foundling_108 : decode cX7_foundling 108 = .ok (.iload 4, 2) := by decide +kernel
theorem dX7_foundling_110 : decode cX7_foundling 110 = .ok (.ifCond .ne 8, 3) := by decide +kernel
theorem dX7_foundling_113 : decode cX7_foundling 113 = .ok (.iload 5, 2) := by decide +kernel
theorem dX7_foundling_115 : decode cX7_foundling 115 = .ok (.goto 5, 3) := by decide +kernel
theorem dX7_foundling_118 : decode cX7_foundling 118 = .ok (.bipush 60, 2) := by decide +kernel
theorem dX7_foundling_120 : decode cX7_foundling 120 = .ok (.iload 6, 2) := by decide +kernel
theorem dX7_foundling_122 : decode cX7_foundling 122 = .ok (.idiv, 1) := by decide +kernel
theorem dX7_foundling_123 : decode cX7_foundling 123 = .ok (.ireturn, 1) := by decide +kernel
theorem dX7_loses_0 : decode cX7_loses 0 = .ok (.iload_n 1, 1) := by decide +kernel
theorem dX7_loses_1 : decode cX7_loses 1 = .ok (.iconst 0, 1) := by decide +kernel
theorem dX7_loses_2 : decode cX7_loses 2 = .ok (.iconst 1, 1) := by decide +kernel
theorem dX7_loses_3 : decode cX7_loses 3 = .ok (.invokestatic 99, 3) := by decide +kernel
theorem dX7_loses_6 : decode cX7_loses 6 = .ok (.ifCond .ne 5, 3) := by decide +kernel
theorem dX7_loses_9 : decode cX7_loses 9 = .ok (.iconst (-1), 1) := by decide +kernel
theorem dX7_loses_10 : decode cX7_loses 10 = .ok (.ireturn, 1) := by decide +kernel
theorem dX7_loses_11 : decode cX7_loses 11 = .ok (.aload_n 0, 1) := by decide +kernel
theorem dX7_loses_12 : decode cX7_loses 12 = .ok (.getfield 60, 3) := by decide +kernel
theorem dX7_loses_15 : decode cX7_loses 15 = .ok (.aload_n 0, 1) := by decide +kernel
theorem dX7_loses_16 : decode cX7_loses 16 = .ok (.getfield 29, 3) := by decide +kernel
theorem dX7_loses_19 : decode cX7_loses 19 = .ok (.invokevirtual 133, 3) := by decide +kernel
theorem dX7_loses_22 : decode cX7_loses 22 = .ok (.aload_n 0, 1) := by decide +kernel
theorem dX7_loses_23 : decode cX7_loses 23 = .ok (.getfield 60, 3) := by decide +kernel
theorem dX7_loses_26 : decode cX7_loses 26 = .ok (.bipush 60, 2) := by decide +kernel
theorem dX7_loses_28 : decode cX7_loses 28 = .ok (.invokevirtual 159, 3) := by decide +kernel
theorem dX7_loses_31 : decode cX7_loses 31 = .ok (.iconst 0, 1) := by decide +kernel
theorem dX7_loses_32 : decode cX7_loses 32 = .ok (.istore_n 2, 1) := by decide +kernel
theorem dX7_loses_33 : decode cX7_loses 33 = .ok (.iconst 1, 1) := by decide +kernel
theorem dX7_loses_34 : decode cX7_loses 34 = .ok (.istore_n 3, 1) := by decide +kernel
theorem dX7_loses_35 : decode cX7_loses 35 = .ok (.iload_n 3, 1) := by decide +kernel
theorem dX7_loses_36 : decode cX7_loses 36 = .ok (.aload_n 0, 1) := by decide +kernel
theorem dX7_loses_37 : decode cX7_loses 37 = .ok (.getfield 19, 3) := by decide +kernel
theorem dX7_loses_40 : decode cX7_loses 40 = .ok (.invokevirtual 113, 3) := by decide +kernel
theorem dX7_loses_43 : decode cX7_loses 43 = .ok (.if_icmp .ge 30, 3) := by decide +kernel
theorem dX7_loses_46 : decode cX7_loses 46 = .ok (.aload_n 0, 1) := by decide +kernel
theorem dX7_loses_47 : decode cX7_loses 47 = .ok (.getfield 60, 3) := by decide +kernel
theorem dX7_loses_50 : decode cX7_loses 50 = .ok (.iload_n 3, 1) := by decide +kernel
theorem dX7_loses_51 : decode cX7_loses 51 = .ok (.invokevirtual 181, 3) := by decide +kernel
theorem dX7_loses_54 : decode cX7_loses 54 = .ok (.aload_n 0, 1) := by decide +kernel
theorem dX7_loses_55 : decode cX7_loses 55 = .ok (.getfield 60, 3) := by decide +kernel
theorem dX7_loses_58 : decode cX7_loses 58 = .ok (.iload_n 2, 1) := by decide +kernel
theorem dX7_loses_59 : decode cX7_loses 59 = .ok (.invokevirtual 181, 3) := by decide +kernel
theorem dX7_loses_62 : decode cX7_loses 62 = .ok (.if_icmp .ge 5, 3) := by decide +kernel
theorem dX7_loses_65 : decode cX7_loses 65 = .ok (.iload_n 3, 1) := by decide +kernel
theorem dX7_loses_66 : decode cX7_loses 66 = .ok (.istore_n 2, 1) := by decide +kernel
theorem dX7_loses_67 : decode cX7_loses 67 = .ok (.iinc 3 1, 3) := by decide +kernel
theorem dX7_loses_70 : decode cX7_loses 70 = .ok (.goto (-35), 3) := by decide +kernel
theorem dX7_loses_73 : decode cX7_loses 73 = .ok (.iload_n 1, 1) := by decide +kernel
theorem dX7_loses_74 : decode cX7_loses 74 = .ok (.ifCond .ne 7, 3) := by decide +kernel
theorem dX7_loses_77 : decode cX7_loses 77 = .ok (.iload_n 2, 1) := by decide +kernel
theorem dX7_loses_78 : decode cX7_loses 78 = .ok (.goto 11, 3) := by decide +kernel
theorem dX7_loses_81 : decode cX7_loses 81 = .ok (.aload_n 0, 1) := by decide +kernel
theorem dX7_loses_82 : decode cX7_loses 82 = .ok (.getfield 60, 3) := by decide +kernel
theorem dX7_loses_85 : decode cX7_loses 85 = .ok (.iload_n 2, 1) := by decide +kernel
theorem dX7_loses_86 : decode cX7_loses 86 = .ok (.invokevirtual 181, 3) := by decide +kernel
theorem dX7_loses_89 : decode cX7_loses 89 = .ok (.ireturn, 1) := by decide +kernel
theorem dX7_next_0 : decode cX7_next 0 = .ok (.iload_n 1, 1) := by decide +kernel
theorem dX7_next_1 : decode cX7_next 1 = .ok (.iconst 0, 1) := by decide +kernel
theorem dX7_next_2 : decode cX7_next 2 = .ok (.iconst 1, 1) := by decide +kernel
theorem dX7_next_3 : decode cX7_next 3 = .ok (.invokestatic 99, 3) := by decide +kernel
theorem dX7_next_6 : decode cX7_next 6 = .ok (.ifCond .ne 5, 3) := by decide +kernel
theorem dX7_next_9 : decode cX7_next 9 = .ok (.iconst (-1), 1) := by decide +kernel
theorem dX7_next_10 : decode cX7_next 10 = .ok (.ireturn, 1) := by decide +kernel
theorem dX7_next_11 : decode cX7_next 11 = .ok (.aload_n 0, 1) := by decide +kernel
theorem dX7_next_12 : decode cX7_next 12 = .ok (.getfield 60, 3) := by decide +kernel
theorem dX7_next_15 : decode cX7_next 15 = .ok (.aload_n 0, 1) := by decide +kernel
theorem dX7_next_16 : decode cX7_next 16 = .ok (.getfield 29, 3) := by decide +kernel
theorem dX7_next_19 : decode cX7_next 19 = .ok (.invokevirtual 133, 3) := by decide +kernel
theorem dX7_next_22 : decode cX7_next 22 = .ok (.aload_n 0, 1) := by decide +kernel
theorem dX7_next_23 : decode cX7_next 23 = .ok (.getfield 60, 3) := by decide +kernel
theorem dX7_next_26 : decode cX7_next 26 = .ok (.iconst 0, 1) := by decide +kernel
theorem dX7_next_27 : decode cX7_next 27 = .ok (.invokevirtual 242, 3) := by decide +kernel
theorem dX7_next_30 : decode cX7_next 30 = .ok (.istore_n 2, 1) := by decide +kernel
theorem dX7_next_31 : decode cX7_next 31 = .ok (.iconst 1, 1) := by decide +kernel
theorem dX7_next_32 : decode cX7_next 32 = .ok (.istore_n 3, 1) := by decide +kernel
theorem dX7_next_33 : decode cX7_next 33 = .ok (.iload_n 3, 1) := by decide +kernel
theorem dX7_next_34 : decode cX7_next 34 = .ok (.aload_n 0, 1) := by decide +kernel
theorem dX7_next_35 : decode cX7_next 35 = .ok (.getfield 19, 3) := by decide +kernel
theorem dX7_next_38 : decode cX7_next 38 = .ok (.invokevirtual 113, 3) := by decide +kernel
theorem dX7_next_41 : decode cX7_next 41 = .ok (.if_icmp .ge 42, 3) := by decide +kernel
theorem dX7_next_44 : decode cX7_next 44 = .ok (.aload_n 0, 1) := by decide +kernel
theorem dX7_next_45 : decode cX7_next 45 = .ok (.getfield 60, 3) := by decide +kernel
theorem dX7_next_48 : decode cX7_next 48 = .ok (.iload_n 3, 1) := by decide +kernel
theorem dX7_next_49 : decode cX7_next 49 = .ok (.invokevirtual 242, 3) := by decide +kernel
theorem dX7_next_52 : decode cX7_next 52 = .ok (.istore 4, 2) := by decide +kernel
theorem dX7_next_54 : decode cX7_next 54 = .ok (.aload_n 0, 1) := by decide +kernel
theorem dX7_next_55 : decode cX7_next 55 = .ok (.getfield 29, 3) := by decide +kernel
theorem dX7_next_58 : decode cX7_next 58 = .ok (.iload 4, 2) := by decide +kernel
theorem dX7_next_60 : decode cX7_next 60 = .ok (.invokevirtual 245, 3) := by decide +kernel
theorem dX7_next_63 : decode cX7_next 63 = .ok (.aload_n 0, 1) := by decide +kernel
theorem dX7_next_64 : decode cX7_next 64 = .ok (.getfield 29, 3) := by decide +kernel
theorem dX7_next_67 : decode cX7_next 67 = .ok (.iload_n 2, 1) := by decide +kernel
theorem dX7_next_68 : decode cX7_next 68 = .ok (.invokevirtual 245, 3) := by decide +kernel
theorem dX7_next_71 : decode cX7_next 71 = .ok (.if_icmp .ge 6, 3) := by decide +kernel
theorem dX7_next_74 : decode cX7_next 74 = .ok (.iload 4, 2) := by decide +kernel
theorem dX7_next_76 : decode cX7_next 76 = .ok (.istore_n 2, 1) := by decide +kernel
theorem dX7_next_77 : decode cX7_next 77 = .ok (.iinc 3 1, 3) := by decide +kernel
theorem dX7_next_80 : decode cX7_next 80 = .ok (.goto (-47), 3) := by decide +kernel
theorem dX7_next_83 : decode cX7_next 83 = .ok (.iload_n 1, 1) := by decide +kernel
theorem dX7_next_84 : decode cX7_next 84 = .ok (.ifCond .ne 7, 3) := by decide +kernel
theorem dX7_next_87 : decode cX7_next 87 = .ok (.iload_n 2, 1) := by decide +kernel
theorem dX7_next_88 : decode cX7_next 88 = .ok (.goto 11, 3) := by decide +kernel
theorem dX7_next_91 : decode cX7_next 91 = .ok (.aload_n 0, 1) := by decide +kernel
theorem dX7_next_92 : decode cX7_next 92 = .ok (.getfield 29, 3) := by decide +kernel
theorem dX7_next_95 : decode cX7_next 95 = .ok (.iload_n 2, 1) := by decide +kernel
theorem dX7_next_96 : decode cX7_next 96 = .ok (.invokevirtual 245, 3) := by decide +kernel
theorem dX7_next_99 : decode cX7_next 99 = .ok (.ireturn, 1) := by decide +kernel
theorem dX7_year_0 : decode cX7_year 0 = .ok (.iload_n 1, 1) := by decide +kernel
theorem dX7_year_1 : decode cX7_year 1 = .ok (.iconst 0, 1) := by decide +kernel
theorem dX7_year_2 : decode cX7_year 2 = .ok (.sipush 9999, 3) := by decide +kernel
theorem dX7_year_5 : decode cX7_year 5 = .ok (.invokestatic 99, 3) := by decide +kernel
theorem dX7_year_8 : decode cX7_year 8 = .ok (.ifCond .eq 22, 3) := by decide +kernel
theorem dX7_year_11 : decode cX7_year 11 = .ok (.iload_n 2, 1) := by decide +kernel
theorem dX7_year_12 : decode cX7_year 12 = .ok (.iconst 1, 1) := by decide +kernel
theorem dX7_year_13 : decode cX7_year 13 = .ok (.bipush 120, 2) := by decide +kernel
theorem dX7_year_15 : decode cX7_year 15 = .ok (.invokestatic 99, 3) := by decide +kernel
theorem dX7_year_18 : decode cX7_year 18 = .ok (.ifCond .eq 12, 3) := by decide +kernel
theorem dX7_year_21 : decode cX7_year 21 = .ok (.iload_n 3, 1) := by decide +kernel
theorem dX7_year_22 : decode cX7_year 22 = .ok (.iconst 0, 1) := by decide +kernel
theorem dX7_year_23 : decode cX7_year 23 = .ok (.iconst 1, 1) := by decide +kernel
theorem dX7_year_24 : decode cX7_year 24 = .ok (.invokestatic 99, 3) := by decide +kernel
theorem dX7_year_27 : decode cX7_year 27 = .ok (.ifCond .ne 5, 3) := by decide +kernel
theorem dX7_year_30 : decode cX7_year 30 = .ok (.iconst (-1), 1) := by decide +kernel
theorem dX7_year_31 : decode cX7_year 31 = .ok (.ireturn, 1) := by decide +kernel
theorem dX7_year_32 : decode cX7_year 32 = .ok (.aload_n 0, 1) := by decide +kernel
theorem dX7_year_33 : decode cX7_year 33 = .ok (.getfield 60, 3) := by decide +kernel
theorem dX7_year_36 : decode cX7_year 36 = .ok (.aload_n 0, 1) := by decide +kernel
theorem dX7_year_37 : decode cX7_year 37 = .ok (.getfield 29, 3) := by decide +kernel
theorem dX7_year_40 : decode cX7_year 40 = .ok (.invokevirtual 133, 3) := by decide +kernel
theorem dX7_year_43 : decode cX7_year 43 = .ok (.iconst 0, 1) := by decide +kernel
theorem dX7_year_44 : decode cX7_year 44 = .ok (.istore 4, 2) := by decide +kernel
theorem dX7_year_46 : decode cX7_year 46 = .ok (.iload 4, 2) := by decide +kernel
theorem dX7_year_48 : decode cX7_year 48 = .ok (.iload_n 2, 1) := by decide +kernel
theorem dX7_year_49 : decode cX7_year 49 = .ok (.if_icmp .ge 27, 3) := by decide +kernel
theorem dX7_year_52 : decode cX7_year 52 = .ok (.aload_n 0, 1) := by decide +kernel
theorem dX7_year_53 : decode cX7_year 53 = .ok (.iload_n 1, 1) := by decide +kernel
theorem dX7_year_54 : decode cX7_year 54 = .ok (.iload 4, 2) := by decide +kernel
theorem dX7_year_56 : decode cX7_year 56 = .ok (.invokestatic 248, 3) := by decide +kernel
theorem dX7_year_59 : decode cX7_year 59 = .ok (.invokevirtual 251, 3) := by decide +kernel
theorem dX7_year_62 : decode cX7_year 62 = .ok (.aload_n 0, 1) := by decide +kernel
theorem dX7_year_63 : decode cX7_year 63 = .ok (.getfield 60, 3) := by decide +kernel
theorem dX7_year_66 : decode cX7_year 66 = .ok (.iconst 1, 1) := by decide +kernel
theorem dX7_year_67 : decode cX7_year 67 = .ok (.invokevirtual 159, 3) := by decide +kernel
theorem dX7_year_70 : decode cX7_year 70 = .ok (.iinc 4 1, 3) := by decide +kernel
theorem dX7_year_73 : decode cX7_year 73 = .ok (.goto (-27), 3) := by decide +kernel
theorem dX7_year_76 : decode cX7_year 76 = .ok (.iload_n 3, 1) := by decide +kernel
theorem dX7_year_77 : decode cX7_year 77 = .ok (.ifCond .ne 13, 3) := by decide +kernel
theorem dX7_year_80 : decode cX7_year 80 = .ok (.aload_n 0, 1) := by decide +kernel
theorem dX7_year_81 : decode cX7_year 81 = .ok (.getfield 60, 3) := by decide +kernel
theorem dX7_year_84 : decode cX7_year 84 = .ok (.invokevirtual 190, 3) := by decide +kernel
theorem dX7_year_87 : decode cX7_year 87 = .ok (.goto 21, 3) := by decide +kernel
theorem dX7_year_90 : decode cX7_year 90 = .ok (.aload_n 0, 1) := by decide +kernel
theorem dX7_year_91 : decode cX7_year 91 = .ok (.getfield 60, 3) := by decide +kernel
theorem dX7_year_94 : decode cX7_year 94 = .ok (.invokevirtual 162, 3) := by decide +kernel
theorem dX7_year_97 : decode cX7_year 97 = .ok (.iconst 0, 1) := by decide +kernel
theorem dX7_year_98 : decode cX7_year 98 = .ok (.aload_n 0, 1) := by decide +kernel
theorem dX7_year_99 : decode cX7_year 99 = .ok (.getfield 19, 3) := by decide +kernel
theorem dX7_year_102 : decode cX7_year 102 = .ok (.invokevirtual 113, 3) := by decide +kernel
theorem dX7_year_105 : decode cX7_year 105 = .ok (.invokevirtual 149, 3) := by decide +kernel
theorem dX7_year_108 : decode cX7_year 108 = .ok (.ireturn, 1) := by decide +kernel
theorem dX7_keep_0 : decode cX7_keep 0 = .ok (.aload_n 0, 1) := by decide +kernel
theorem dX7_keep_1 : decode cX7_keep 1 = .ok (.getfield 45, 3) := by decide +kernel
theorem dX7_keep_4 : decode cX7_keep 4 = .ok (.invokevirtual 254, 3) := by decide +kernel
theorem dX7_keep_7 : decode cX7_keep 7 = .ok (.ifCond .eq 6, 3) := by decide +kernel
theorem dX7_keep_10 : decode cX7_keep 10 = .ok (.bipush (-3), 2) := by decide +kernel
theorem dX7_keep_12 : decode cX7_keep 12 = .ok (.ireturn, 1) := by decide +kernel
theorem dX7_keep_13 : decode cX7_keep 13 = .ok (.aload_n 0, 1) := by decide +kernel
theorem dX7_keep_14 : decode cX7_keep 14 = .ok (.getfield 45, 3) := by decide +kernel
theorem dX7_keep_17 : decode cX7_keep 17 = .ok (.aload_n 0, 1) := by decide +kernel
theorem dX7_keep_18 : decode cX7_keep 18 = .ok (.getfield 29, 3) := by decide +kernel
theorem dX7_keep_21 : decode cX7_keep 21 = .ok (.invokevirtual 156, 3) := by decide +kernel
theorem dX7_keep_24 : decode cX7_keep 24 = .ok (.aload_n 0, 1) := by decide +kernel
theorem dX7_keep_25 : decode cX7_keep 25 = .ok (.getfield 45, 3) := by decide +kernel
theorem dX7_keep_28 : decode cX7_keep 28 = .ok (.invokevirtual 180, 3) := by decide +kernel
theorem dX7_keep_31 : decode cX7_keep 31 = .ok (.ireturn, 1) := by decide +kernel
theorem dX7_back_0 : decode cX7_back 0 = .ok (.aload_n 0, 1) := by decide +kernel
theorem dX7_back_1 : decode cX7_back 1 = .ok (.getfield 45, 3) := by decide +kernel
theorem dX7_back_4 : decode cX7_back 4 = .ok (.aload_n 0, 1) := by decide +kernel
theorem dX7_back_5 : decode cX7_back 5 = .ok (.getfield 29, 3) := by decide +kernel
theorem dX7_back_8 : decode cX7_back 8 = .ok (.invokevirtual 176, 3) := by decide +kernel
theorem dX7_back_11 : decode cX7_back 11 = .ok (.ifCond .ne 6, 3) := by decide +kernel
theorem dX7_back_14 : decode cX7_back 14 = .ok (.bipush (-2), 2) := by decide +kernel
theorem dX7_back_16 : decode cX7_back 16 = .ok (.ireturn, 1) := by decide +kernel
theorem dX7_back_17 : decode cX7_back 17 = .ok (.aload_n 0, 1) := by decide +kernel
theorem dX7_back_18 : decode cX7_back 18 = .ok (.getfield 41, 3) := by decide +kernel
theorem dX7_back_21 : decode cX7_back 21 = .ok (.invokevirtual 255, 3) := by decide +kernel
theorem dX7_back_24 : decode cX7_back 24 = .ok (.aload_n 0, 1) := by decide +kernel
theorem dX7_back_25 : decode cX7_back 25 = .ok (.getfield 45, 3) := by decide +kernel
theorem dX7_back_28 : decode cX7_back 28 = .ok (.invokevirtual 180, 3) := by decide +kernel
theorem dX7_back_31 : decode cX7_back 31 = .ok (.ireturn, 1) := by decide +kernel
theorem dX7_count_0 : decode cX7_count 0 = .ok (.iload_n 1, 1) := by decide +kernel
theorem dX7_count_1 : decode cX7_count 1 = .ok (.tableswitch 87 0 5 #[39, 47, 55, 63, 71, 79], 39) := by decide +kernel
theorem dX7_count_40 : decode cX7_count 40 = .ok (.aload_n 0, 1) := by decide +kernel
theorem dX7_count_41 : decode cX7_count 41 = .ok (.getfield 19, 3) := by decide +kernel
theorem dX7_count_44 : decode cX7_count 44 = .ok (.invokevirtual 113, 3) := by decide +kernel
theorem dX7_count_47 : decode cX7_count 47 = .ok (.ireturn, 1) := by decide +kernel
theorem dX7_count_48 : decode cX7_count 48 = .ok (.aload_n 0, 1) := by decide +kernel
theorem dX7_count_49 : decode cX7_count 49 = .ok (.getfield 29, 3) := by decide +kernel
theorem dX7_count_52 : decode cX7_count 52 = .ok (.invokevirtual 153, 3) := by decide +kernel
theorem dX7_count_55 : decode cX7_count 55 = .ok (.ireturn, 1) := by decide +kernel
theorem dX7_count_56 : decode cX7_count 56 = .ok (.aload_n 0, 1) := by decide +kernel
theorem dX7_count_57 : decode cX7_count 57 = .ok (.getfield 51, 3) := by decide +kernel
theorem dX7_count_60 : decode cX7_count 60 = .ok (.invokevirtual 230, 3) := by decide +kernel
theorem dX7_count_63 : decode cX7_count 63 = .ok (.ireturn, 1) := by decide +kernel
theorem dX7_count_64 : decode cX7_count 64 = .ok (.aload_n 0, 1) := by decide +kernel
theorem dX7_count_65 : decode cX7_count 65 = .ok (.getfield 41, 3) := by decide +kernel
theorem dX7_count_68 : decode cX7_count 68 = .ok (.invokevirtual 180, 3) := by decide +kernel
theorem dX7_count_71 : decode cX7_count 71 = .ok (.ireturn, 1) := by decide +kernel
theorem dX7_count_72 : decode cX7_count 72 = .ok (.aload_n 0, 1) := by decide +kernel
theorem dX7_count_73 : decode cX7_count 73 = .ok (.getfield 45, 3) := by decide +kernel
theorem dX7_count_76 : decode cX7_count 76 = .ok (.invokevirtual 180, 3) := by decide +kernel
theorem dX7_count_79 : decode cX7_count 79 = .ok (.ireturn, 1) := by decide +kernel
theorem dX7_count_80 : decode cX7_count 80 = .ok (.aload_n 0, 1) := by decide +kernel
theorem dX7_count_81 : decode cX7_count 81 = .ok (.getfield 12, 3) := by decide +kernel
theorem dX7_count_84 : decode cX7_count 84 = .ok (.invokevirtual 107, 3) := by decide +kernel
theorem dX7_count_87 : decode cX7_count 87 = .ok (.ireturn, 1) := by decide +kernel
theorem dX7_count_88 : decode cX7_count 88 = .ok (.iconst (-1), 1) := by decide +kernel
theorem dX7_count_89 : decode cX7_count 89 = .ok (.ireturn, 1) := by decide +kernel
theorem dX7_moveIn_0 : decode cX7_moveIn 0 = .ok (.aload_n 0, 1) := by decide +kernel
theorem dX7_moveIn_1 : decode cX7_moveIn 1 = .ok (.getfield 19, 3) := by decide +kernel
theorem dX7_moveIn_4 : decode cX7_moveIn 4 = .ok (.aload_n 0, 1) := by decide +kernel
theorem dX7_moveIn_5 : decode cX7_moveIn 5 = .ok (.getfield 23, 3) := by decide +kernel
theorem dX7_moveIn_8 : decode cX7_moveIn 8 = .ok (.invokevirtual 256, 3) := by decide +kernel
theorem dX7_moveIn_11 : decode cX7_moveIn 11 = .ok (.aload_n 0, 1) := by decide +kernel
theorem dX7_moveIn_12 : decode cX7_moveIn 12 = .ok (.getfield 33, 3) := by decide +kernel
theorem dX7_moveIn_15 : decode cX7_moveIn 15 = .ok (.aload_n 0, 1) := by decide +kernel
theorem dX7_moveIn_16 : decode cX7_moveIn 16 = .ok (.getfield 19, 3) := by decide +kernel
theorem dX7_moveIn_19 : decode cX7_moveIn 19 = .ok (.invokevirtual 258, 3) := by decide +kernel
theorem dX7_moveIn_22 : decode cX7_moveIn 22 = .ok (.aload_n 0, 1) := by decide +kernel
theorem dX7_moveIn_23 : decode cX7_moveIn 23 = .ok (.getfield 29, 3) := by decide +kernel
theorem dX7_moveIn_26 : decode cX7_moveIn 26 = .ok (.aload_n 0, 1) := by decide +kernel
theorem dX7_moveIn_27 : decode cX7_moveIn 27 = .ok (.getfield 33, 3) := by decide +kernel
theorem dX7_moveIn_30 : decode cX7_moveIn 30 = .ok (.invokevirtual 166, 3) := by decide +kernel
theorem dX7_moveIn_33 : decode cX7_moveIn 33 = .ok (.aload_n 0, 1) := by decide +kernel
theorem dX7_moveIn_34 : decode cX7_moveIn 34 = .ok (.getfield 51, 3) := by decide +kernel
theorem dX7_moveIn_37 : decode cX7_moveIn 37 = .ok (.invokevirtual 231, 3) := by decide +kernel
theorem dX7_moveIn_40 : decode cX7_moveIn 40 = .ok (.aload_n 0, 1) := by decide +kernel
theorem dX7_moveIn_41 : decode cX7_moveIn 41 = .ok (.getfield 41, 3) := by decide +kernel
theorem dX7_moveIn_44 : decode cX7_moveIn 44 = .ok (.invokevirtual 255, 3) := by decide +kernel
theorem dX7_moveIn_47 : decode cX7_moveIn 47 = .ok (.aload_n 0, 1) := by decide +kernel
theorem dX7_moveIn_48 : decode cX7_moveIn 48 = .ok (.getfield 45, 3) := by decide +kernel
theorem dX7_moveIn_51 : decode cX7_moveIn 51 = .ok (.invokevirtual 255, 3) := by decide +kernel
theorem dX7_moveIn_54 : decode cX7_moveIn 54 = .ok (.return_, 1) := by decide +kernel
theorem dX7_isCousin_0 : decode cX7_isCousin 0 = .ok (.iload_n 1, 1) := by decide +kernel
theorem dX7_isCousin_1 : decode cX7_isCousin 1 = .ok (.iconst 0, 1) := by decide +kernel
theorem dX7_isCousin_2 : decode cX7_isCousin 2 = .ok (.aload_n 0, 1) := by decide +kernel
theorem dX7_isCousin_3 : decode cX7_isCousin 3 = .ok (.getfield 19, 3) := by decide +kernel
theorem dX7_isCousin_6 : decode cX7_isCousin 6 = .ok (.invokevirtual 113, 3) := by decide +kernel
theorem dX7_isCousin_9 : decode cX7_isCousin 9 = .ok (.iconst 1, 1) := by decide +kernel
theorem dX7_isCousin_10 : decode cX7_isCousin 10 = .ok (.isub, 1) := by decide +kernel
theorem dX7_isCousin_11 : decode cX7_isCousin 11 = .ok (.invokestatic 99, 3) := by decide +kernel
theorem dX7_isCousin_14 : decode cX7_isCousin 14 = .ok (.ireturn, 1) := by decide +kernel
theorem dX7_isRoom_0 : decode cX7_isRoom 0 = .ok (.iload_n 1, 1) := by decide +kernel
theorem dX7_isRoom_1 : decode cX7_isRoom 1 = .ok (.iconst 0, 1) := by decide +kernel
theorem dX7_isRoom_2 : decode cX7_isRoom 2 = .ok (.aload_n 0, 1) := by decide +kernel
theorem dX7_isRoom_3 : decode cX7_isRoom 3 = .ok (.getfield 19, 3) := by decide +kernel
theorem dX7_isRoom_6 : decode cX7_isRoom 6 = .ok (.invokevirtual 261, 3) := by decide +kernel
theorem dX7_isRoom_9 : decode cX7_isRoom 9 = .ok (.iconst 1, 1) := by decide +kernel
theorem dX7_isRoom_10 : decode cX7_isRoom 10 = .ok (.isub, 1) := by decide +kernel
theorem dX7_isRoom_11 : decode cX7_isRoom 11 = .ok (.invokestatic 99, 3) := by decide +kernel
theorem dX7_isRoom_14 : decode cX7_isRoom 14 = .ok (.ireturn, 1) := by decide +kernel
theorem dX7_wantsBetween_0 : decode cX7_wantsBetween 0 = .ok (.aload_n 0, 1) := by decide +kernel
theorem dX7_wantsBetween_1 : decode cX7_wantsBetween 1 = .ok (.getfield 19, 3) := by decide +kernel
theorem dX7_wantsBetween_4 : decode cX7_wantsBetween 4 = .ok (.invokevirtual 261, 3) := by decide +kernel
theorem dX7_wantsBetween_7 : decode cX7_wantsBetween 7 = .ok (.istore_n 3, 1) := by decide +kernel
theorem dX7_wantsBetween_8 : decode cX7_wantsBetween 8 = .ok (.iload_n 2, 1) := by decide +kernel
theorem dX7_wantsBetween_9 : decode cX7_wantsBetween 9 = .ok (.iload_n 1, 1) := by decide +kernel
theorem dX7_wantsBetween_10 : decode cX7_wantsBetween 10 = .ok (.isub, 1) := by decide +kernel
theorem dX7_wantsBetween_11 : decode cX7_wantsBetween 11 = .ok (.iload_n 3, 1) := by decide +kernel
theorem dX7_wantsBetween_12 : decode cX7_wantsBetween 12 = .ok (.invokestatic 264, 3) := by decide +kernel
theorem dX7_wantsBetween_15 : decode cX7_wantsBetween 15 = .ok (.iconst 1, 1) := by decide +kernel
theorem dX7_wantsBetween_16 : decode cX7_wantsBetween 16 = .ok (.isub, 1) := by decide +kernel
theorem dX7_wantsBetween_17 : decode cX7_wantsBetween 17 = .ok (.istore 4, 2) := by decide +kernel
theorem dX7_wantsBetween_19 : decode cX7_wantsBetween 19 = .ok (.iconst 0, 1) := by decide +kernel
theorem dX7_wantsBetween_20 : decode cX7_wantsBetween 20 = .ok (.istore 5, 2) := by decide +kernel
theorem dX7_wantsBetween_22 : decode cX7_wantsBetween 22 = .ok (.iconst 1, 1) := by decide +kernel
theorem dX7_wantsBetween_23 : decode cX7_wantsBetween 23 = .ok (.istore 6, 2) := by decide +kernel
theorem dX7_wantsBetween_25 : decode cX7_wantsBetween 25 = .ok (.iload 6, 2) := by decide +kernel
theorem dX7_wantsBetween_27 : decode cX7_wantsBetween 27 = .ok (.iload 4, 2) := by decide +kernel
theorem dX7_wantsBetween_29 : decode cX7_wantsBetween 29 = .ok (.if_icmp .gt 50, 3) := by decide +kernel
theorem dX7_wantsBetween_32 : decode cX7_wantsBetween 32 = .ok (.iload 6, 2) := by decide +kernel
theorem dX7_wantsBetween_34 : decode cX7_wantsBetween 34 = .ok (.bipush 8, 2) := by decide +kernel
theorem dX7_wantsBetween_36 : decode cX7_wantsBetween 36 = .ok (.if_icmp .ge 43, 3) := by decide +kernel
theorem dX7_wantsBetween_39 : decode cX7_wantsBetween 39 = .ok (.iload 5, 2) := by decide +kernel
theorem dX7_wantsBetween_41 : decode cX7_wantsBetween 41 = .ok (.aload_n 0, 1) := by decide +kernel
theorem dX7_wantsBetween_42 : decode cX7_wantsBetween 42 = .ok (.getfield 19, 3) := by decide +kernel
theorem dX7_wantsBetween_45 : decode cX7_wantsBetween 45 = .ok (.aload_n 0, 1) := by decide +kernel
theorem dX7_wantsBetween_46 : decode cX7_wantsBetween 46 = .ok (.getfield 29, 3) := by decide +kernel
theorem dX7_wantsBetween_49 : decode cX7_wantsBetween 49 = .ok (.iload_n 1, 1) := by decide +kernel
theorem dX7_wantsBetween_50 : decode cX7_wantsBetween 50 = .ok (.iload 6, 2) := by decide +kernel
theorem dX7_wantsBetween_52 : decode cX7_wantsBetween 52 = .ok (.iadd, 1) := by decide +kernel
theorem dX7_wantsBetween_53 : decode cX7_wantsBetween 53 = .ok (.iload_n 3, 1) := by decide +kernel
theorem dX7_wantsBetween_54 : decode cX7_wantsBetween 54 = .ok (.invokestatic 264, 3) := by decide +kernel
theorem dX7_wantsBetween_57 : decode cX7_wantsBetween 57 = .ok (.aload_n 0, 1) := by decide +kernel
theorem dX7_wantsBetween_58 : decode cX7_wantsBetween 58 = .ok (.getfield 19, 3) := by decide +kernel
theorem dX7_wantsBetween_61 : decode cX7_wantsBetween 61 = .ok (.invokevirtual 113, 3) := by decide +kernel
theorem dX7_wantsBetween_64 : decode cX7_wantsBetween 64 = .ok (.invokevirtual 149, 3) := by decide +kernel
theorem dX7_wantsBetween_67 : decode cX7_wantsBetween 67 = .ok (.invokevirtual 127, 3) := by decide +kernel
theorem dX7_wantsBetween_70 : decode cX7_wantsBetween 70 = .ok (.iadd, 1) := by decide +kernel
theorem dX7_wantsBetween_71 : decode cX7_wantsBetween 71 = .ok (.istore 5, 2) := by decide +kernel
theorem dX7_wantsBetween_73 : decode cX7_wantsBetween 73 = .ok (.iinc 6 1, 3) := by decide +kernel
theorem dX7_wantsBetween_76 : decode cX7_wantsBetween 76 = .ok (.goto (-51), 3) := by decide +kernel
theorem dX7_wantsBetween_79 : decode cX7_wantsBetween 79 = .ok (.iload 5, 2) := by decide +kernel
theorem dX7_wantsBetween_81 : decode cX7_wantsBetween 81 = .ok (.ireturn, 1) := by decide +kernel
theorem dX7_drawOf_0 : decode cX7_drawOf 0 = .ok (.ldc2_w 267, 3) := by decide +kernel
theorem dX7_drawOf_3 : decode cX7_drawOf 3 = .ok (.iload_n 0, 1) := by decide +kernel
theorem dX7_drawOf_4 : decode cX7_drawOf 4 = .ok (.i2l, 1) := by decide +kernel
theorem dX7_drawOf_5 : decode cX7_drawOf 5 = .ok (.lmul, 1) := by decide +kernel
theorem dX7_drawOf_6 : decode cX7_drawOf 6 = .ok (.ldc2_w 269, 3) := by decide +kernel
theorem dX7_drawOf_9 : decode cX7_drawOf 9 = .ok (.iload_n 1, 1) := by decide +kernel
theorem dX7_drawOf_10 : decode cX7_drawOf 10 = .ok (.i2l, 1) := by decide +kernel
theorem dX7_drawOf_11 : decode cX7_drawOf 11 = .ok (.lmul, 1) := by decide +kernel
theorem dX7_drawOf_12 : decode cX7_drawOf 12 = .ok (.ladd, 1) := by decide +kernel
theorem dX7_drawOf_13 : decode cX7_drawOf 13 = .ok (.lconst 1, 1) := by decide +kernel
theorem dX7_drawOf_14 : decode cX7_drawOf 14 = .ok (.ladd, 1) := by decide +kernel
theorem dX7_drawOf_15 : decode cX7_drawOf 15 = .ok (.lstore_n 2, 1) := by decide +kernel
theorem dX7_drawOf_16 : decode cX7_drawOf 16 = .ok (.lload_n 2, 1) := by decide +kernel
theorem dX7_drawOf_17 : decode cX7_drawOf 17 = .ok (.lload_n 2, 1) := by decide +kernel
theorem dX7_drawOf_18 : decode cX7_drawOf 18 = .ok (.lmul, 1) := by decide +kernel
theorem dX7_drawOf_19 : decode cX7_drawOf 19 = .ok (.ldc2_w 271, 3) := by decide +kernel
theorem dX7_drawOf_22 : decode cX7_drawOf 22 = .ok (.lrem, 1) := by decide +kernel
theorem dX7_drawOf_23 : decode cX7_drawOf 23 = .ok (.ldc2_w 273, 3) := by decide +kernel
theorem dX7_drawOf_26 : decode cX7_drawOf 26 = .ok (.ldiv, 1) := by decide +kernel
theorem dX7_drawOf_27 : decode cX7_drawOf 27 = .ok (.l2i, 1) := by decide +kernel
theorem dX7_drawOf_28 : decode cX7_drawOf 28 = .ok (.ireturn, 1) := by decide +kernel
theorem dX7_exchangeByDraw_0 : decode cX7_exchangeByDraw 0 = .ok (.iload_n 1, 1) := by decide +kernel
theorem dX7_exchangeByDraw_1 : decode cX7_exchangeByDraw 1 = .ok (.aload_n 0, 1) := by decide +kernel
theorem dX7_exchangeByDraw_2 : decode cX7_exchangeByDraw 2 = .ok (.getfield 19, 3) := by decide +kernel
theorem dX7_exchangeByDraw_5 : decode cX7_exchangeByDraw 5 = .ok (.invokevirtual 113, 3) := by decide +kernel
theorem dX7_exchangeByDraw_8 : decode cX7_exchangeByDraw 8 = .ok (.invokestatic 264, 3) := by decide +kernel
theorem dX7_exchangeByDraw_11 : decode cX7_exchangeByDraw 11 = .ok (.istore_n 2, 1) := by decide +kernel
theorem dX7_exchangeByDraw_12 : decode cX7_exchangeByDraw 12 = .ok (.iload_n 1, 1) := by decide +kernel
theorem dX7_exchangeByDraw_13 : decode cX7_exchangeByDraw 13 = .ok (.bipush 8, 2) := by decide +kernel
theorem dX7_exchangeByDraw_15 : decode cX7_exchangeByDraw 15 = .ok (.idiv, 1) := by decide +kernel
theorem dX7_exchangeByDraw_16 : decode cX7_exchangeByDraw 16 = .ok (.aload_n 0, 1) := by decide +kernel
theorem dX7_exchangeByDraw_17 : decode cX7_exchangeByDraw 17 = .ok (.getfield 19, 3) := by decide +kernel
theorem dX7_exchangeByDraw_20 : decode cX7_exchangeByDraw 20 = .ok (.invokevirtual 113, 3) := by decide +kernel
theorem dX7_exchangeByDraw_23 : decode cX7_exchangeByDraw 23 = .ok (.invokestatic 264, 3) := by decide +kernel
theorem dX7_exchangeByDraw_26 : decode cX7_exchangeByDraw 26 = .ok (.istore_n 3, 1) := by decide +kernel
theorem dX7_exchangeByDraw_27 : decode cX7_exchangeByDraw 27 = .ok (.iload_n 2, 1) := by decide +kernel
theorem dX7_exchangeByDraw_28 : decode cX7_exchangeByDraw 28 = .ok (.iload_n 3, 1) := by decide +kernel
theorem dX7_exchangeByDraw_29 : decode cX7_exchangeByDraw 29 = .ok (.if_icmp .eq 24, 3) := by decide +kernel
theorem dX7_exchangeByDraw_32 : decode cX7_exchangeByDraw 32 = .ok (.iload_n 1, 1) := by decide +kernel
theorem dX7_exchangeByDraw_33 : decode cX7_exchangeByDraw 33 = .ok (.bipush 64, 2) := by decide +kernel
theorem dX7_exchangeByDraw_35 : decode cX7_exchangeByDraw 35 = .ok (.idiv, 1) := by decide +kernel
theorem dX7_exchangeByDraw_36 : decode cX7_exchangeByDraw 36 = .ok (.iconst 5, 1) := by decide +kernel
theorem dX7_exchangeByDraw_37 : decode cX7_exchangeByDraw 37 = .ok (.irem, 1) := by decide +kernel
theorem dX7_exchangeByDraw_38 : decode cX7_exchangeByDraw 38 = .ok (.ifCond .ne 15, 3) := by decide +kernel
theorem dX7_exchangeByDraw_41 : decode cX7_exchangeByDraw 41 = .ok (.aload_n 0, 1) := by decide +kernel
theorem dX7_exchangeByDraw_42 : decode cX7_exchangeByDraw 42 = .ok (.getfield 60, 3) := by decide +kernel
theorem dX7_exchangeByDraw_45 : decode cX7_exchangeByDraw 45 = .ok (.invokevirtual 162, 3) := by decide +kernel
theorem dX7_exchangeByDraw_48 : decode cX7_exchangeByDraw 48 = .ok (.iload_n 2, 1) := by decide +kernel
theorem dX7_exchangeByDraw_49 : decode cX7_exchangeByDraw 49 = .ok (.iload_n 3, 1) := by decide +kernel
theorem dX7_exchangeByDraw_50 : decode cX7_exchangeByDraw 50 = .ok (.invokevirtual 169, 3) := by decide +kernel
theorem dX7_exchangeByDraw_53 : decode cX7_exchangeByDraw 53 = .ok (.return_, 1) := by decide +kernel
theorem dX7_within_0 : decode cX7_within 0 = .ok (.iload_n 0, 1) := by decide +kernel
theorem dX7_within_1 : decode cX7_within 1 = .ok (.iload_n 1, 1) := by decide +kernel
theorem dX7_within_2 : decode cX7_within 2 = .ok (.if_icmp .lt 12, 3) := by decide +kernel
theorem dX7_within_5 : decode cX7_within 5 = .ok (.iload_n 0, 1) := by decide +kernel
theorem dX7_within_6 : decode cX7_within 6 = .ok (.iload_n 2, 1) := by decide +kernel
theorem dX7_within_7 : decode cX7_within 7 = .ok (.if_icmp .gt 7, 3) := by decide +kernel
theorem dX7_within_10 : decode cX7_within 10 = .ok (.iconst 1, 1) := by decide +kernel
theorem dX7_within_11 : decode cX7_within 11 = .ok (.goto 4, 3) := by decide +kernel
theorem dX7_within_14 : decode cX7_within 14 = .ok (.iconst 0, 1) := by decide +kernel
theorem dX7_within_15 : decode cX7_within 15 = .ok (.ireturn, 1) := by decide +kernel
theorem dX7_wrapped_0 : decode cX7_wrapped 0 = .ok (.iload_n 1, 1) := by decide +kernel
theorem dX7_wrapped_1 : decode cX7_wrapped 1 = .ok (.ifCond .gt 7, 3) := by decide +kernel
theorem dX7_wrapped_4 : decode cX7_wrapped 4 = .ok (.iconst 0, 1) := by decide +kernel
theorem dX7_wrapped_5 : decode cX7_wrapped 5 = .ok (.goto 8, 3) := by decide +kernel
theorem dX7_wrapped_8 : decode cX7_wrapped 8 = .ok (.iload_n 0, 1) := by decide +kernel
theorem dX7_wrapped_9 : decode cX7_wrapped 9 = .ok (.iload_n 1, 1) := by decide +kernel
theorem dX7_wrapped_10 : decode cX7_wrapped 10 = .ok (.invokestatic 275, 3) := by decide +kernel
theorem dX7_wrapped_13 : decode cX7_wrapped 13 = .ok (.ireturn, 1) := by decide +kernel
theorem dX7_commonDivisor_0 : decode cX7_commonDivisor 0 = .ok (.iload_n 0, 1) := by decide +kernel
theorem dX7_commonDivisor_1 : decode cX7_commonDivisor 1 = .ok (.istore_n 2, 1) := by decide +kernel
theorem dX7_commonDivisor_2 : decode cX7_commonDivisor 2 = .ok (.iload_n 1, 1) := by decide +kernel
theorem dX7_commonDivisor_3 : decode cX7_commonDivisor 3 = .ok (.istore_n 3, 1) := by decide +kernel
theorem dX7_commonDivisor_4 : decode cX7_commonDivisor 4 = .ok (.iconst 0, 1) := by decide +kernel
theorem dX7_commonDivisor_5 : decode cX7_commonDivisor 5 = .ok (.istore 4, 2) := by decide +kernel
theorem dX7_commonDivisor_7 : decode cX7_commonDivisor 7 = .ok (.iload 4, 2) := by decide +kernel
theorem dX7_commonDivisor_9 : decode cX7_commonDivisor 9 = .ok (.bipush 64, 2) := by decide +kernel
theorem dX7_commonDivisor_11 : decode cX7_commonDivisor 11 = .ok (.if_icmp .ge 23, 3) := by decide +kernel
theorem dX7_commonDivisor_14 : decode cX7_commonDivisor 14 = .ok (.iload_n 3, 1) := by decide +kernel
theorem dX7_commonDivisor_15 : decode cX7_commonDivisor 15 = .ok (.ifCond .eq 19, 3) := by decide +kernel
theorem dX7_commonDivisor_18 : decode cX7_commonDivisor 18 = .ok (.iload_n 2, 1) := by decide +kernel
theorem dX7_commonDivisor_19 : decode cX7_commonDivisor 19 = .ok (.iload_n 3, 1) := by decide +kernel
theorem dX7_commonDivisor_20 : decode cX7_commonDivisor 20 = .ok (.irem, 1) := by decide +kernel
theorem dX7_commonDivisor_21 : decode cX7_commonDivisor 21 = .ok (.istore 5, 2) := by decide +kernel
theorem dX7_commonDivisor_23 : decode cX7_commonDivisor 23 = .ok (.iload_n 3, 1) := by decide +kernel
theorem dX7_commonDivisor_24 : decode cX7_commonDivisor 24 = .ok (.istore_n 2, 1) := by decide +kernel
theorem dX7_commonDivisor_25 : decode cX7_commonDivisor 25 = .ok (.iload 5, 2) := by decide +kernel
theorem dX7_commonDivisor_27 : decode cX7_commonDivisor 27 = .ok (.istore_n 3, 1) := by decide +kernel
theorem dX7_commonDivisor_28 : decode cX7_commonDivisor 28 = .ok (.iinc 4 1, 3) := by decide +kernel
theorem dX7_commonDivisor_31 : decode cX7_commonDivisor 31 = .ok (.goto (-24), 3) := by decide +kernel
theorem dX7_commonDivisor_34 : decode cX7_commonDivisor 34 = .ok (.iconst 1, 1) := by decide +kernel
theorem dX7_commonDivisor_35 : decode cX7_commonDivisor 35 = .ok (.iload_n 2, 1) := by decide +kernel
theorem dX7_commonDivisor_36 : decode cX7_commonDivisor 36 = .ok (.invokestatic 278, 3) := by decide +kernel
theorem dX7_commonDivisor_39 : decode cX7_commonDivisor 39 = .ok (.ireturn, 1) := by decide +kernel
theorem dX7_at_0 : decode cX7_at 0 = .ok (.iload_n 1, 1) := by decide +kernel
theorem dX7_at_1 : decode cX7_at 1 = .ok (.ifCond .lt 15, 3) := by decide +kernel
theorem dX7_at_4 : decode cX7_at 4 = .ok (.iload_n 1, 1) := by decide +kernel
theorem dX7_at_5 : decode cX7_at 5 = .ok (.aload_n 0, 1) := by decide +kernel
theorem dX7_at_6 : decode cX7_at 6 = .ok (.arraylength, 1) := by decide +kernel
theorem dX7_at_7 : decode cX7_at 7 = .ok (.if_icmp .ge 9, 3) := by decide +kernel
theorem dX7_at_10 : decode cX7_at 10 = .ok (.aload_n 0, 1) := by decide +kernel
theorem dX7_at_11 : decode cX7_at 11 = .ok (.iload_n 1, 1) := by decide +kernel
theorem dX7_at_12 : decode cX7_at 12 = .ok (.iaload, 1) := by decide +kernel
theorem dX7_at_13 : decode cX7_at 13 = .ok (.goto 4, 3) := by decide +kernel
theorem dX7_at_16 : decode cX7_at 16 = .ok (.iconst 0, 1) := by decide +kernel
theorem dX7_at_17 : decode cX7_at 17 = .ok (.ireturn, 1) := by decide +kernel
theorem dX7_put_0 : decode cX7_put 0 = .ok (.iload_n 1, 1) := by decide +kernel
theorem dX7_put_1 : decode cX7_put 1 = .ok (.ifCond .lt 13, 3) := by decide +kernel
theorem dX7_put_4 : decode cX7_put 4 = .ok (.iload_n 1, 1) := by decide +kernel
theorem dX7_put_5 : decode cX7_put 5 = .ok (.aload_n 0, 1) := by decide +kernel
theorem dX7_put_6 : decode cX7_put 6 = .ok (.arraylength, 1) := by decide +kernel
theorem dX7_put_7 : decode cX7_put 7 = .ok (.if_icmp .ge 7, 3) := by decide +kernel
theorem dX7_put_10 : decode cX7_put 10 = .ok (.aload_n 0, 1) := by decide +kernel
theorem dX7_put_11 : decode cX7_put 11 = .ok (.iload_n 1, 1) := by decide +kernel
theorem dX7_put_12 : decode cX7_put 12 = .ok (.iload_n 2, 1) := by decide +kernel
theorem dX7_put_13 : decode cX7_put 13 = .ok (.iastore, 1) := by decide +kernel
theorem dX7_put_14 : decode cX7_put 14 = .ok (.return_, 1) := by decide +kernel
theorem dX7_copyRow_0 : decode cX7_copyRow 0 = .ok (.iconst 0, 1) := by decide +kernel
theorem dX7_copyRow_1 : decode cX7_copyRow 1 = .ok (.istore_n 2, 1) := by decide +kernel
theorem dX7_copyRow_2 : decode cX7_copyRow 2 = .ok (.iload_n 2, 1) := by decide +kernel
theorem dX7_copyRow_3 : decode cX7_copyRow 3 = .ok (.aload_n 0, 1) := by decide +kernel
theorem dX7_copyRow_4 : decode cX7_copyRow 4 = .ok (.arraylength, 1) := by decide +kernel
theorem dX7_copyRow_5 : decode cX7_copyRow 5 = .ok (.if_icmp .ge 21, 3) := by decide +kernel
theorem dX7_copyRow_8 : decode cX7_copyRow 8 = .ok (.iload_n 2, 1) := by decide +kernel
theorem dX7_copyRow_9 : decode cX7_copyRow 9 = .ok (.aload_n 1, 1) := by decide +kernel
theorem dX7_copyRow_10 : decode cX7_copyRow 10 = .ok (.arraylength, 1) := by decide +kernel
theorem dX7_copyRow_11 : decode cX7_copyRow 11 = .ok (.if_icmp .ge 15, 3) := by decide +kernel
theorem dX7_copyRow_14 : decode cX7_copyRow 14 = .ok (.aload_n 1, 1) := by decide +kernel
theorem dX7_copyRow_15 : decode cX7_copyRow 15 = .ok (.iload_n 2, 1) := by decide +kernel
theorem dX7_copyRow_16 : decode cX7_copyRow 16 = .ok (.aload_n 0, 1) := by decide +kernel
theorem dX7_copyRow_17 : decode cX7_copyRow 17 = .ok (.iload_n 2, 1) := by decide +kernel
theorem dX7_copyRow_18 : decode cX7_copyRow 18 = .ok (.iaload, 1) := by decide +kernel
theorem dX7_copyRow_19 : decode cX7_copyRow 19 = .ok (.iastore, 1) := by decide +kernel
theorem dX7_copyRow_20 : decode cX7_copyRow 20 = .ok (.iinc 2 1, 3) := by decide +kernel
theorem dX7_copyRow_23 : decode cX7_copyRow 23 = .ok (.goto (-21), 3) := by decide +kernel
theorem dX7_copyRow_26 : decode cX7_copyRow 26 = .ok (.return_, 1) := by decide +kernel
theorem dX8_init_0 : decode cX8_init 0 = .ok (.aload_n 0, 1) := by decide +kernel
theorem dX8_init_1 : decode cX8_init 1 = .ok (.invokespecial 1, 3) := by decide +kernel
theorem dX8_init_4 : decode cX8_init 4 = .ok (.aload_n 0, 1) := by decide +kernel
theorem dX8_init_5 : decode cX8_init 5 = .ok (.bipush 16, 2) := by decide +kernel
theorem dX8_init_7 : decode cX8_init 7 = .ok (.newarray .int, 2) := by decide +kernel
theorem dX8_init_9 : decode cX8_init 9 = .ok (.putfield 7, 3) := by decide +kernel
theorem dX8_init_12 : decode cX8_init 12 = .ok (.aload_n 0, 1) := by decide +kernel
theorem dX8_init_13 : decode cX8_init 13 = .ok (.bipush 16, 2) := by decide +kernel
theorem dX8_init_15 : decode cX8_init 15 = .ok (.newarray .int, 2) := by decide +kernel
theorem dX8_init_17 : decode cX8_init 17 = .ok (.putfield 13, 3) := by decide +kernel
theorem dX8_init_20 : decode cX8_init 20 = .ok (.aload_n 0, 1) := by decide +kernel
theorem dX8_init_21 : decode cX8_init 21 = .ok (.bipush 17, 2) := by decide +kernel
theorem dX8_init_23 : decode cX8_init 23 = .ok (.newarray .int, 2) := by decide +kernel
theorem dX8_init_25 : decode cX8_init 25 = .ok (.putfield 16, 3) := by decide +kernel
theorem dX8_init_28 : decode cX8_init 28 = .ok (.aload_n 0, 1) := by decide +kernel
theorem dX8_init_29 : decode cX8_init 29 = .ok (.bipush 17, 2) := by decide +kernel
theorem dX8_init_31 : decode cX8_init 31 = .ok (.newarray .int, 2) := by decide +kernel
theorem dX8_init_33 : decode cX8_init 33 = .ok (.putfield 19, 3) := by decide +kernel
theorem dX8_init_36 : decode cX8_init 36 = .ok (.aload_n 0, 1) := by decide +kernel
theorem dX8_init_37 : decode cX8_init 37 = .ok (.sipush 136, 3) := by decide +kernel
theorem dX8_init_40 : decode cX8_init 40 = .ok (.newarray .int, 2) := by decide +kernel
theorem dX8_init_42 : decode cX8_init 42 = .ok (.putfield 22, 3) := by decide +kernel
theorem dX8_init_45 : decode cX8_init 45 = .ok (.aload_n 0, 1) := by decide +kernel
theorem dX8_init_46 : decode cX8_init 46 = .ok (.bipush 34, 2) := by decide +kernel
theorem dX8_init_48 : decode cX8_init 48 = .ok (.newarray .int, 2) := by decide +kernel
theorem dX8_init_50 : decode cX8_init 50 = .ok (.putfield 25, 3) := by decide +kernel
theorem dX8_init_53 : decode cX8_init 53 = .ok (.aload_n 0, 1) := by decide +kernel
theorem dX8_init_54 : decode cX8_init 54 = .ok (.bipush 24, 2) := by decide +kernel
theorem dX8_init_56 : decode cX8_init 56 = .ok (.newarray .int, 2) := by decide +kernel
theorem dX8_init_58 : decode cX8_init 58 = .ok (.putfield 28, 3) := by decide +kernel
theorem dX8_init_61 : decode cX8_init 61 = .ok (.aload_n 0, 1) := by decide +kernel
theorem dX8_init_62 : decode cX8_init 62 = .ok (.sipush 200, 3) := by decide +kernel
theorem dX8_init_65 : decode cX8_init 65 = .ok (.newarray .int, 2) := by decide +kernel
theorem dX8_init_67 : decode cX8_init 67 = .ok (.putfield 31, 3) := by decide +kernel
theorem dX8_init_70 : decode cX8_init 70 = .ok (.aload_n 0, 1) := by decide +kernel
theorem dX8_init_71 : decode cX8_init 71 = .ok (.iconst 3, 1) := by decide +kernel
theorem dX8_init_72 : decode cX8_init 72 = .ok (.newarray .int, 2) := by decide +kernel
theorem dX8_init_74 : decode cX8_init 74 = .ok (.putfield 34, 3) := by decide +kernel
theorem dX8_init_77 : decode cX8_init 77 = .ok (.aload_n 0, 1) := by decide +kernel
theorem dX8_init_78 : decode cX8_init 78 = .ok (.bipush 16, 2) := by decide +kernel
theorem dX8_init_80 : decode cX8_init 80 = .ok (.newarray .int, 2) := by decide +kernel
theorem dX8_init_82 : decode cX8_init 82 = .ok (.putfield 37, 3) := by decide +kernel
theorem dX8_init_85 : decode cX8_init 85 = .ok (.aload_n 0, 1) := by decide +kernel
theorem dX8_init_86 : decode cX8_init 86 = .ok (.bipush 16, 2) := by decide +kernel
theorem dX8_init_88 : decode cX8_init 88 = .ok (.newarray .int, 2) := by decide +kernel
theorem dX8_init_90 : decode cX8_init 90 = .ok (.putfield 40, 3) := by decide +kernel
theorem dX8_init_93 : decode cX8_init 93 = .ok (.aload_n 0, 1) := by decide +kernel
theorem dX8_init_94 : decode cX8_init 94 = .ok (.bipush 17, 2) := by decide +kernel
theorem dX8_init_96 : decode cX8_init 96 = .ok (.newarray .int, 2) := by decide +kernel
theorem dX8_init_98 : decode cX8_init 98 = .ok (.putfield 43, 3) := by decide +kernel
theorem dX8_init_101 : decode cX8_init 101 = .ok (.aload_n 0, 1) := by decide +kernel
theorem dX8_init_102 : decode cX8_init 102 = .ok (.bipush 17, 2) := by decide +kernel
theorem dX8_init_104 : decode cX8_init 104 = .ok (.newarray .int, 2) := by decide +kernel
theorem dX8_init_106 : decode cX8_init 106 = .ok (.putfield 46, 3) := by decide +kernel
theorem dX8_init_109 : decode cX8_init 109 = .ok (.aload_n 0, 1) := by decide +kernel
theorem dX8_init_110 : decode cX8_init 110 = .ok (.bipush 8, 2) := by decide +kernel
theorem dX8_init_112 : decode cX8_init 112 = .ok (.newarray .int, 2) := by decide +kernel
theorem dX8_init_114 : decode cX8_init 114 = .ok (.putfield 49, 3) := by decide +kernel
theorem dX8_init_117 : decode cX8_init 117 = .ok (.aload_n 0, 1) := by decide +kernel
theorem dX8_init_118 : decode cX8_init 118 = .ok (.invokevirtual 52, 3) := by decide +kernel
theorem dX8_init_121 : decode cX8_init 121 = .ok (.aload_n 0, 1) := by decide +kernel
theorem dX8_init_122 : decode cX8_init 122 = .ok (.iconst 0, 1) := by decide +kernel
theorem dX8_init_123 : decode cX8_init 123 = .ok (.iconst 5, 1) := by decide +kernel
theorem dX8_init_124 : decode cX8_init 124 = .ok (.iconst 4, 1) := by decide +kernel
theorem dX8_init_125 : decode cX8_init 125 = .ok (.invokevirtual 55, 3) := by decide +kernel
theorem dX8_init_128 : decode cX8_init 128 = .ok (.aload_n 0, 1) := by decide +kernel
theorem dX8_init_129 : decode cX8_init 129 = .ok (.iconst 1, 1) := by decide +kernel
theorem dX8_init_130 : decode cX8_init 130 = .ok (.bipush 17, 2) := by decide +kernel
theorem dX8_init_132 : decode cX8_init 132 = .ok (.iconst 3, 1) := by decide +kernel
theorem dX8_init_133 : decode cX8_init 133 = .ok (.invokevirtual 55, 3) := by decide +kernel
theorem dX8_init_136 : decode cX8_init 136 = .ok (.aload_n 0, 1) := by decide +kernel
theorem dX8_init_137 : decode cX8_init 137 = .ok (.iconst 2, 1) := by decide +kernel
theorem dX8_init_138 : decode cX8_init 138 = .ok (.bipush 30, 2) := by decide +kernel
theorem dX8_init_140 : decode cX8_init 140 = .ok (.bipush 6, 2) := by decide +kernel
theorem dX8_init_142 : decode cX8_init 142 = .ok (.invokevirtual 55, 3) := by decide +kernel
theorem dX8_init_145 : decode cX8_init 145 = .ok (.aload_n 0, 1) := by decide +kernel
theorem dX8_init_146 : decode cX8_init 146 = .ok (.iconst 0, 1) := by decide +kernel
theorem dX8_init_147 : decode cX8_init 147 = .ok (.bipush 44, 2) := by decide +kernel
theorem dX8_init_149 : decode cX8_init 149 = .ok (.iconst 2, 1) := by decide +kernel
theorem dX8_init_150 : decode cX8_init 150 = .ok (.invokevirtual 55, 3) := by decide +kernel
theorem dX8_init_153 : decode cX8_init 153 = .ok (.aload_n 0, 1) := by decide +kernel
theorem dX8_init_154 : decode cX8_init 154 = .ok (.iconst 3, 1) := by decide +kernel
theorem dX8_init_155 : decode cX8_init 155 = .ok (.bipush 52, 2) := by decide +kernel
theorem dX8_init_157 : decode cX8_init 157 = .ok (.iconst 5, 1) := by decide +kernel
theorem dX8_init_158 : decode cX8_init 158 = .ok (.invokevirtual 55, 3) := by decide +kernel
theorem dX8_init_161 : decode cX8_init 161 = .ok (.aload_n 0, 1) := by decide +kernel
theorem dX8_init_162 : decode cX8_init 162 = .ok (.iconst 0, 1) := by decide +kernel
theorem dX8_init_163 : decode cX8_init 163 = .ok (.bipush 30, 2) := by decide +kernel
theorem dX8_init_165 : decode cX8_init 165 = .ok (.iconst 1, 1) := by decide +kernel
theorem dX8_init_166 : decode cX8_init 166 = .ok (.invokevirtual 55, 3) := by decide +kernel
theorem dX8_init_169 : decode cX8_init 169 = .ok (.aload_n 0, 1) := by decide +kernel
theorem dX8_init_170 : decode cX8_init 170 = .ok (.iconst 2, 1) := by decide +kernel
theorem dX8_init_171 : decode cX8_init 171 = .ok (.bipush 8, 2) := by decide +kernel
theorem dX8_init_173 : decode cX8_init 173 = .ok (.invokevirtual 59, 3) := by decide +kernel
theorem dX8_init_176 : decode cX8_init 176 = .ok (.aload_n 0, 1) := by decide +kernel
theorem dX8_init_177 : decode cX8_init 177 = .ok (.iconst 5, 1) := by decide +kernel
theorem dX8_init_178 : decode cX8_init 178 = .ok (.iconst 5, 1) := by decide +kernel
theorem dX8_init_179 : decode cX8_init 179 = .ok (.invokevirtual 59, 3) := by decide +kernel
theorem dX8_init_182 : decode cX8_init 182 = .ok (.aload_n 0, 1) := by decide +kernel
theorem dX8_init_183 : decode cX8_init 183 = .ok (.iconst 1, 1) := by decide +kernel
theorem dX8_init_184 : decode cX8_init 184 = .ok (.bipush 9, 2) := by decide +kernel
theorem dX8_init_186 : decode cX8_init 186 = .ok (.invokevirtual 59, 3) := by decide +kernel
theorem dX8_init_189 : decode cX8_init 189 = .ok (.aload_n 0, 1) := by decide +kernel
theorem dX8_init_190 : decode cX8_init 190 = .ok (.bipush 6, 2) := by decide +kernel
theorem dX8_init_192 : decode cX8_init 192 = .ok (.iconst 3, 1) := by decide +kernel
theorem dX8_init_193 : decode cX8_init 193 = .ok (.invokevirtual 59, 3) := by decide +kernel
theorem dX8_init_196 : decode cX8_init 196 = .ok (.aload_n 0, 1) := by decide +kernel
theorem dX8_init_197 : decode cX8_init 197 = .ok (.iconst 3, 1) := by decide +kernel
theorem dX8_init_198 : decode cX8_init 198 = .ok (.iconst 4, 1) := by decide +kernel
theorem dX8_init_199 : decode cX8_init 199 = .ok (.invokevirtual 59, 3) := by decide +kernel
theorem dX8_init_202 : decode cX8_init 202 = .ok (.aload_n 0, 1) := by decide +kernel
theorem dX8_init_203 : decode cX8_init 203 = .ok (.iconst 0, 1) := by decide +kernel
theorem dX8_init_204 : decode cX8_init 204 = .ok (.bipush 7, 2) := by decide +kernel
theorem dX8_init_206 : decode cX8_init 206 = .ok (.invokevirtual 59, 3) := by decide +kernel
theorem dX8_init_209 : decode cX8_init 209 = .ok (.aload_n 0, 1) := by decide +kernel
theorem dX8_init_210 : decode cX8_init 210 = .ok (.invokevirtual 63, 3) := by decide +kernel
theorem dX8_init_213 : decode cX8_init 213 = .ok (.return_, 1) := by decide +kernel
theorem dX8_tellsCousin_0 : decode cX8_tellsCousin 0 = .ok (.aload_n 0, 1) := by decide +kernel
theorem dX8_tellsCousin_1 : decode cX8_tellsCousin 1 = .ok (.getfield 37, 3) := by decide +kernel
theorem dX8_tellsCousin_4 : decode cX8_tellsCousin 4 = .ok (.iconst 2, 1) := by decide +kernel
theorem dX8_tellsCousin_5 : decode cX8_tellsCousin 5 = .ok (.aload_n 0, 1) := by decide +kernel
theorem dX8_tellsCousin_6 : decode cX8_tellsCousin 6 = .ok (.getfield 66, 3) := by decide +kernel
theorem dX8_tellsCousin_9 : decode cX8_tellsCousin 9 = .ok (.imul, 1) := by decide +kernel
theorem dX8_tellsCousin_10 : decode cX8_tellsCousin 10 = .ok (.iload_n 1, 1) := by decide +kernel
theorem dX8_tellsCousin_11 : decode cX8_tellsCousin 11 = .ok (.iastore, 1) := by decide +kernel
theorem dX8_tellsCousin_12 : decode cX8_tellsCousin 12 = .ok (.aload_n 0, 1) := by decide +kernel
theorem dX8_tellsCousin_13 : decode cX8_tellsCousin 13 = .ok (.getfield 37, 3) := by decide +kernel
theorem dX8_tellsCousin_16 : decode cX8_tellsCousin 16 = .ok (.iconst 2, 1) := by decide +kernel
theorem dX8_tellsCousin_17 : decode cX8_tellsCousin 17 = .ok (.aload_n 0, 1) := by decide +kernel
theorem dX8_tellsCousin_18 : decode cX8_tellsCousin 18 = .ok (.getfield 66, 3) := by decide +kernel
theorem dX8_tellsCousin_21 : decode cX8_tellsCousin 21 = .ok (.imul, 1) := by decide +kernel
theorem dX8_tellsCousin_22 : decode cX8_tellsCousin 22 = .ok (.iconst 1, 1) := by decide +kernel
theorem dX8_tellsCousin_23 : decode cX8_tellsCousin 23 = .ok (.iadd, 1) := by decide +kernel
theorem dX8_tellsCousin_24 : decode cX8_tellsCousin 24 = .ok (.iload_n 3, 1) := by decide +kernel
theorem dX8_tellsCousin_25 : decode cX8_tellsCousin 25 = .ok (.iastore, 1) := by decide +kernel
theorem dX8_tellsCousin_26 : decode cX8_tellsCousin 26 = .ok (.aload_n 0, 1) := by decide +kernel
theorem dX8_tellsCousin_27 : decode cX8_tellsCousin 27 = .ok (.getfield 43, 3) := by decide +kernel
theorem dX8_tellsCousin_30 : decode cX8_tellsCousin 30 = .ok (.bipush 9, 2) := by decide +kernel
theorem dX8_tellsCousin_32 : decode cX8_tellsCousin 32 = .ok (.aload_n 0, 1) := by decide +kernel
theorem dX8_tellsCousin_33 : decode cX8_tellsCousin 33 = .ok (.getfield 66, 3) := by decide +kernel
theorem dX8_tellsCousin_36 : decode cX8_tellsCousin 36 = .ok (.iadd, 1) := by decide +kernel
theorem dX8_tellsCousin_37 : decode cX8_tellsCousin 37 = .ok (.iload_n 2, 1) := by decide +kernel
theorem dX8_tellsCousin_38 : decode cX8_tellsCousin 38 = .ok (.iastore, 1) := by decide +kernel
theorem dX8_tellsCousin_39 : decode cX8_tellsCousin 39 = .ok (.aload_n 0, 1) := by decide +kernel
theorem dX8_tellsCousin_40 : decode cX8_tellsCousin 40 = .ok (.dup, 1) := by decide +kernel
theorem dX8_tellsCousin_41 : decode cX8_tellsCousin 41 = .ok (.getfield 66, 3) := by decide +kernel
theorem dX8_tellsCousin_44 : decode cX8_tellsCousin 44 = .ok (.iconst 1, 1) := by decide +kernel
theorem dX8_tellsCousin_45 : decode cX8_tellsCousin 45 = .ok (.iadd, 1) := by decide +kernel
theorem dX8_tellsCousin_46 : decode cX8_tellsCousin 46 = .ok (.putfield 66, 3) := by decide +kernel
theorem dX8_tellsCousin_49 : decode cX8_tellsCousin 49 = .ok (.return_, 1) := by decide +kernel
theorem dX8_tellsRoom_0 : decode cX8_tellsRoom 0 = .ok (.aload_n 0, 1) := by decide +kernel
theorem dX8_tellsRoom_1 : decode cX8_tellsRoom 1 = .ok (.getfield 40, 3) := by decide +kernel
theorem dX8_tellsRoom_4 : decode cX8_tellsRoom 4 = .ok (.iconst 2, 1) := by decide +kernel
theorem dX8_tellsRoom_5 : decode cX8_tellsRoom 5 = .ok (.aload_n 0, 1) := by decide +kernel
theorem dX8_tellsRoom_6 : decode cX8_tellsRoom 6 = .ok (.getfield 70, 3) := by decide +kernel
theorem dX8_tellsRoom_9 : decode cX8_tellsRoom 9 = .ok (.imul, 1) := by decide +kernel
theorem dX8_tellsRoom_10 : decode cX8_tellsRoom 10 = .ok (.iload_n 1, 1) := by decide +kernel
theorem dX8_tellsRoom_11 : decode cX8_tellsRoom 11 = .ok (.iastore, 1) := by decide +kernel
theorem dX8_tellsRoom_12 : decode cX8_tellsRoom 12 = .ok (.aload_n 0, 1) := by decide +kernel
theorem dX8_tellsRoom_13 : decode cX8_tellsRoom 13 = .ok (.getfield 40, 3) := by decide +kernel
theorem dX8_tellsRoom_16 : decode cX8_tellsRoom 16 = .ok (.iconst 2, 1) := by decide +kernel
theorem dX8_tellsRoom_17 : decode cX8_tellsRoom 17 = .ok (.aload_n 0, 1) := by decide +kernel
theorem dX8_tellsRoom_18 : decode cX8_tellsRoom 18 = .ok (.getfield 70, 3) := by decide +kernel
theorem dX8_tellsRoom_21 : decode cX8_tellsRoom 21 = .ok (.imul, 1) := by decide +kernel
theorem dX8_tellsRoom_22 : decode cX8_tellsRoom 22 = .ok (.iconst 1, 1) := by decide +kernel
theorem dX8_tellsRoom_23 : decode cX8_tellsRoom 23 = .ok (.iadd, 1) := by decide +kernel
theorem dX8_tellsRoom_24 : decode cX8_tellsRoom 24 = .ok (.iload_n 2, 1) := by decide +kernel
theorem dX8_tellsRoom_25 : decode cX8_tellsRoom 25 = .ok (.iastore, 1) := by decide +kernel
theorem dX8_tellsRoom_26 : decode cX8_tellsRoom 26 = .ok (.aload_n 0, 1) := by decide +kernel
theorem dX8_tellsRoom_27 : decode cX8_tellsRoom 27 = .ok (.dup, 1) := by decide +kernel
theorem dX8_tellsRoom_28 : decode cX8_tellsRoom 28 = .ok (.getfield 70, 3) := by decide +kernel
theorem dX8_tellsRoom_31 : decode cX8_tellsRoom 31 = .ok (.iconst 1, 1) := by decide +kernel
theorem dX8_tellsRoom_32 : decode cX8_tellsRoom 32 = .ok (.iadd, 1) := by decide +kernel
theorem dX8_tellsRoom_33 : decode cX8_tellsRoom 33 = .ok (.putfield 70, 3) := by decide +kernel
theorem dX8_tellsRoom_36 : decode cX8_tellsRoom 36 = .ok (.return_, 1) := by decide +kernel
theorem dX8_in_0 : decode cX8_in 0 = .ok (.iload_n 0, 1) := by decide +kernel
theorem dX8_in_1 : decode cX8_in 1 = .ok (.iload_n 1, 1) := by decide +kernel
theorem dX8_in_2 : decode cX8_in 2 = .ok (.if_icmp .lt 12, 3) := by decide +kernel
theorem dX8_in_5 : decode cX8_in 5 = .ok (.iload_n 0, 1) := by decide +kernel
theorem dX8_in_6 : decode cX8_in 6 = .ok (.iload_n 2, 1) := by decide +kernel
theorem dX8_in_7 : decode cX8_in 7 = .ok (.if_icmp .gt 7, 3) := by decide +kernel
theorem dX8_in_10 : decode cX8_in 10 = .ok (.iconst 1, 1) := by decide +kernel
theorem dX8_in_11 : decode cX8_in 11 = .ok (.goto 4, 3) := by decide +kernel
theorem dX8_in_14 : decode cX8_in 14 = .ok (.iconst 0, 1) := by decide +kernel
theorem dX8_in_15 : decode cX8_in 15 = .ok (.ireturn, 1) := by decide +kernel
theorem dX8_bits_0 : decode cX8_bits 0 = .ok (.iconst 0, 1) := by decide +kernel
theorem dX8_bits_1 : decode cX8_bits 1 = .ok (.istore_n 1, 1) := by decide +kernel
theorem dX8_bits_2 : decode cX8_bits 2 = .ok (.iconst 0, 1) := by decide +kernel
theorem dX8_bits_3 : decode cX8_bits 3 = .ok (.istore_n 2, 1) := by decide +kernel
theorem dX8_bits_4 : decode cX8_bits 4 = .ok (.iload_n 2, 1) := by decide +kernel
theorem dX8_bits_5 : decode cX8_bits 5 = .ok (.bipush 8, 2) := by decide +kernel
theorem dX8_bits_7 : decode cX8_bits 7 = .ok (.if_icmp .ge 17, 3) := by decide +kernel
theorem dX8_bits_10 : decode cX8_bits 10 = .ok (.iload_n 1, 1) := by decide +kernel
theorem dX8_bits_11 : decode cX8_bits 11 = .ok (.iload_n 0, 1) := by decide +kernel
theorem dX8_bits_12 : decode cX8_bits 12 = .ok (.iload_n 2, 1) := by decide +kernel
theorem dX8_bits_13 : decode cX8_bits 13 = .ok (.ishr, 1) := by decide +kernel
theorem dX8_bits_14 : decode cX8_bits 14 = .ok (.iconst 1, 1) := by decide +kernel
theorem dX8_bits_15 : decode cX8_bits 15 = .ok (.iand, 1) := by decide +kernel
theorem dX8_bits_16 : decode cX8_bits 16 = .ok (.iadd, 1) := by decide +kernel
theorem dX8_bits_17 : decode cX8_bits 17 = .ok (.istore_n 1, 1) := by decide +kernel
theorem dX8_bits_18 : decode cX8_bits 18 = .ok (.iinc 2 1, 3) := by decide +kernel
theorem dX8_bits_21 : decode cX8_bits 21 = .ok (.goto (-17), 3) := by decide +kernel
theorem dX8_bits_24 : decode cX8_bits 24 = .ok (.iload_n 1, 1) := by decide +kernel
theorem dX8_bits_25 : decode cX8_bits 25 = .ok (.ireturn, 1) := by decide +kernel
theorem dX8_isOne_0 : decode cX8_isOne 0 = .ok (.iload_n 1, 1) := by decide +kernel
theorem dX8_isOne_1 : decode cX8_isOne 1 = .ok (.iconst 0, 1) := by decide +kernel
theorem dX8_isOne_2 : decode cX8_isOne 2 = .ok (.aload_n 0, 1) := by decide +kernel
theorem dX8_isOne_3 : decode cX8_isOne 3 = .ok (.getfield 73, 3) := by decide +kernel
theorem dX8_isOne_6 : decode cX8_isOne 6 = .ok (.iconst 1, 1) := by decide +kernel
theorem dX8_isOne_7 : decode cX8_isOne 7 = .ok (.isub, 1) := by decide +kernel
theorem dX8_isOne_8 : decode cX8_isOne 8 = .ok (.invokestatic 76, 3) := by decide +kernel
theorem dX8_isOne_11 : decode cX8_isOne 11 = .ok (.ireturn, 1) := by decide +kernel
theorem dX8_write_0 : decode cX8_write 0 = .ok (.iload_n 1, 1) := by decide +kernel
theorem dX8_write_1 : decode cX8_write 1 = .ok (.bipush 32, 2) := by decide +kernel
theorem dX8_write_3 : decode cX8_write 3 = .ok (.bipush 126, 2) := by decide +kernel
theorem dX8_write_5 : decode cX8_write 5 = .ok (.invokestatic 76, 3) := by decide +kernel
theorem dX8_write_8 : decode cX8_write 8 = .ok (.ifCond .ne 5, 3) := by decide +kernel
theorem dX8_write_11 : decode cX8_write 11 = .ok (.iconst (-1), 1) := by decide +kernel
theorem dX8_write_12 : decode cX8_write 12 = .ok (.ireturn, 1) := by decide +kernel
theorem dX8_write_13 : decode cX8_write 13 = .ok (.aload_n 0, 1) := by decide +kernel
theorem dX8_write_14 : decode cX8_write 14 = .ok (.getfield 80, 3) := by decide +kernel
theorem dX8_write_17 : decode cX8_write 17 = .ok (.sipush 200, 3) := by decide +kernel
theorem dX8_write_20 : decode cX8_write 20 = .ok (.if_icmp .ne 6, 3) := by decide +kernel
theorem dX8_write_23 : decode cX8_write 23 = .ok (.bipush (-3), 2) := by decide +kernel
theorem dX8_write_25 : decode cX8_write 25 = .ok (.ireturn, 1) := by decide +kernel
theorem dX8_write_26 : decode cX8_write 26 = .ok (.aload_n 0, 1) := by decide +kernel
theorem dX8_write_27 : decode cX8_write 27 = .ok (.getfield 31, 3) := by decide +kernel
theorem dX8_write_30 : decode cX8_write 30 = .ok (.aload_n 0, 1) := by decide +kernel
theorem dX8_write_31 : decode cX8_write 31 = .ok (.getfield 80, 3) := by decide +kernel
theorem dX8_write_34 : decode cX8_write 34 = .ok (.iload_n 1, 1) := by decide +kernel
theorem dX8_write_35 : decode cX8_write 35 = .ok (.iastore, 1) := by decide +kernel
theorem dX8_write_36 : decode cX8_write 36 = .ok (.aload_n 0, 1) := by decide +kernel
theorem dX8_write_37 : decode cX8_write 37 = .ok (.dup, 1) := by decide +kernel
theorem dX8_write_38 : decode cX8_write 38 = .ok (.getfield 80, 3) := by decide +kernel
theorem dX8_write_41 : decode cX8_write 41 = .ok (.iconst 1, 1) := by decide +kernel
theorem dX8_write_42 : decode cX8_write 42 = .ok (.iadd, 1) := by decide +kernel
theorem dX8_write_43 : decode cX8_write 43 = .ok (.putfield 80, 3) := by decide +kernel
theorem dX8_write_46 : decode cX8_write 46 = .ok (.aload_n 0, 1) := by decide +kernel
theorem dX8_write_47 : decode cX8_write 47 = .ok (.getfield 80, 3) := by decide +kernel
theorem dX8_write_50 : decode cX8_write 50 = .ok (.ireturn, 1) := by decide +kernel
theorem dX8_wipe_0 : decode cX8_wipe 0 = .ok (.aload_n 0, 1) := by decide +kernel
theorem dX8_wipe_1 : decode cX8_wipe 1 = .ok (.getfield 80, 3) := by decide +kernel
theorem dX8_wipe_4 : decode cX8_wipe 4 = .ok (.istore_n 1, 1) := by decide +kernel
theorem dX8_wipe_5 : decode cX8_wipe 5 = .ok (.aload_n 0, 1) := by decide +kernel
theorem dX8_wipe_6 : decode cX8_wipe 6 = .ok (.iconst 0, 1) := by decide +kernel
theorem dX8_wipe_7 : decode cX8_wipe 7 = .ok (.putfield 80, 3) := by decide +kernel
theorem dX8_wipe_10 : decode cX8_wipe 10 = .ok (.iload_n 1, 1) := by decide +kernel
theorem dX8_wipe_11 : decode cX8_wipe 11 = .ok (.ireturn, 1) := by decide +kernel
theorem dX8_letterAt_0 : decode cX8_letterAt 0 = .ok (.iload_n 1, 1) := by decide +kernel
theorem dX8_letterAt_1 : decode cX8_letterAt 1 = .ok (.aload_n 0, 1) := by decide +kernel
theorem dX8_letterAt_2 : decode cX8_letterAt 2 = .ok (.getfield 80, 3) := by decide +kernel
theorem dX8_letterAt_5 : decode cX8_letterAt 5 = .ok (.if_icmp .ge 12, 3) := by decide +kernel
theorem dX8_letterAt_8 : decode cX8_letterAt 8 = .ok (.aload_n 0, 1) := by decide +kernel
theorem dX8_letterAt_9 : decode cX8_letterAt 9 = .ok (.getfield 31, 3) := by decide +kernel
theorem dX8_letterAt_12 : decode cX8_letterAt 12 = .ok (.iload_n 1, 1) := by decide +kernel
theorem dX8_letterAt_13 : decode cX8_letterAt 13 = .ok (.iaload, 1) := by decide +kernel
theorem dX8_letterAt_14 : decode cX8_letterAt 14 = .ok (.goto 4, 3) := by decide +kernel
theorem dX8_letterAt_17 : decode cX8_letterAt 17 = .ok (.iconst (-1), 1) := by decide +kernel
theorem dX8_letterAt_18 : decode cX8_letterAt 18 = .ok (.ireturn, 1) := by decide +kernel
theorem dX8_isFigure_0 : decode cX8_isFigure 0 = .ok (.iload_n 0, 1) := by decide +kernel
theorem dX8_isFigure_1 : decode cX8_isFigure 1 = .ok (.bipush 48, 2) := by decide +kernel
theorem dX8_isFigure_3 : decode cX8_isFigure 3 = .ok (.bipush 57, 2) := by decide +kernel
theorem dX8_isFigure_5 : decode cX8_isFigure 5 = .ok (.invokestatic 76, 3) := by decide +kernel
theorem dX8_isFigure_8 : decode cX8_isFigure 8 = .ok (.ireturn, 1) := by decide +kernel
theorem dX8_readNumbers_0 : decode cX8_readNumbers 0 = .ok (.iconst 0, 1) := by decide +kernel
theorem dX8_readNumbers_1 : decode cX8_readNumbers 1 = .ok (.istore_n 2, 1) := by decide +kernel
theorem dX8_readNumbers_2 : decode cX8_readNumbers 2 = .ok (.iload_n 2, 1) := by decide +kernel
theorem dX8_readNumbers_3 : decode cX8_readNumbers 3 = .ok (.iload_n 1, 1) := by decide +kernel
theorem dX8_readNumbers_4 : decode cX8_readNumbers 4 = .ok (.if_icmp .ge 140, 3) := by decide +kernel
theorem dX8_readNumbers_7 : decode cX8_readNumbers 7 = .ok (.aload_n 0, 1) := by decide +kernel
theorem dX8_readNumbers_8 : decode cX8_readNumbers 8 = .ok (.aload_n 0, 1) := by decide +kernel
theorem dX8_readNumbers_9 : decode cX8_readNumbers 9 = .ok (.getfield 83, 3) := by decide +kernel
theorem dX8_readNumbers_12 : decode cX8_readNumbers 12 = .ok (.invokevirtual 86, 3) := by decide +kernel
theorem dX8_readNumbers_15 : decode cX8_readNumbers 15 = .ok (.invokestatic 90, 3) := by decide +kernel
theorem dX8_readNumbers_18 : decode cX8_readNumbers 18 = .ok (.ifCond .ne 5, 3) := by decide +kernel
theorem dX8_readNumbers_21 : decode cX8_readNumbers 21 = .ok (.iconst 0, 1) := by decide +kernel
theorem dX8_readNumbers_22 : decode cX8_readNumbers 22 = .ok (.ireturn, 1) := by decide +kernel
theorem dX8_readNumbers_23 : decode cX8_readNumbers 23 = .ok (.aload_n 0, 1) := by decide +kernel
theorem dX8_readNumbers_24 : decode cX8_readNumbers 24 = .ok (.getfield 34, 3) := by decide +kernel
theorem dX8_readNumbers_27 : decode cX8_readNumbers 27 = .ok (.iload_n 2, 1) := by decide +kernel
theorem dX8_readNumbers_28 : decode cX8_readNumbers 28 = .ok (.aload_n 0, 1) := by decide +kernel
theorem dX8_readNumbers_29 : decode cX8_readNumbers 29 = .ok (.aload_n 0, 1) := by decide +kernel
theorem dX8_readNumbers_30 : decode cX8_readNumbers 30 = .ok (.getfield 83, 3) := by decide +kernel
theorem dX8_readNumbers_33 : decode cX8_readNumbers 33 = .ok (.invokevirtual 86, 3) := by decide +kernel
theorem dX8_readNumbers_36 : decode cX8_readNumbers 36 = .ok (.bipush 48, 2) := by decide +kernel
theorem dX8_readNumbers_38 : decode cX8_readNumbers 38 = .ok (.isub, 1) := by decide +kernel
theorem dX8_readNumbers_39 : decode cX8_readNumbers 39 = .ok (.iastore, 1) := by decide +kernel
theorem dX8_readNumbers_40 : decode cX8_readNumbers 40 = .ok (.aload_n 0, 1) := by decide +kernel
theorem dX8_readNumbers_41 : decode cX8_readNumbers 41 = .ok (.dup, 1) := by decide +kernel
theorem dX8_readNumbers_42 : decode cX8_readNumbers 42 = .ok (.getfield 83, 3) := by decide +kernel
theorem dX8_readNumbers_45 : decode cX8_readNumbers 45 = .ok (.iconst 1, 1) := by decide +kernel
theorem dX8_readNumbers_46 : decode cX8_readNumbers 46 = .ok (.iadd, 1) := by decide +kernel
theorem dX8_readNumbers_47 : decode cX8_readNumbers 47 = .ok (.putfield 83, 3) := by decide +kernel
theorem dX8_readNumbers_50 : decode cX8_readNumbers 50 = .ok (.aload_n 0, 1) := by decide +kernel
theorem dX8_readNumbers_51 : decode cX8_readNumbers 51 = .ok (.aload_n 0, 1) := by decide +kernel
theorem dX8_readNumbers_52 : decode cX8_readNumbers 52 = .ok (.getfield 83, 3) := by decide +kernel
theorem dX8_readNumbers_55 : decode cX8_readNumbers 55 = .ok (.invokevirtual 86, 3) := by decide +kernel
theorem dX8_readNumbers_58 : decode cX8_readNumbers 58 = .ok (.invokestatic 90, 3) := by decide +kernel
theorem dX8_readNumbers_61 : decode cX8_readNumbers 61 = .ok (.ifCond .eq 40, 3) := by decide +kernel
theorem dX8_readNumbers_64 : decode cX8_readNumbers 64 = .ok (.aload_n 0, 1) := by decide +kernel
theorem dX8_readNumbers_65 : decode cX8_readNumbers 65 = .ok (.getfield 34, 3) := by decide +kernel
theorem dX8_readNumbers_68 : decode cX8_readNumbers 68 = .ok (.iload_n 2, 1) := by decide +kernel
theorem dX8_readNumbers_69 : decode cX8_readNumbers 69 = .ok (.bipush 10, 2) := by decide +kernel
theorem dX8_readNumbers_71 : decode cX8_readNumbers 71 = .ok (.aload_n 0, 1) := by decide +kernel
theorem dX8_readNumbers_72 : decode cX8_readNumbers 72 = .ok (.getfield 34, 3) := by decide +kernel
theorem dX8_readNumbers_75 : decode cX8_readNumbers 75 = .ok (.iload_n 2, 1) := by decide +kernel
theorem dX8_readNumbers_76 : decode cX8_readNumbers 76 = .ok (.iaload, 1) := by decide +kernel
theorem dX8_readNumbers_77 : decode cX8_readNumbers 77 = .ok (.imul, 1) := by decide +kernel
theorem dX8_readNumbers_78 : decode cX8_readNumbers 78 = .ok (.aload_n 0, 1) := by decide +kernel
theorem dX8_readNumbers_79 : decode cX8_readNumbers 79 = .ok (.aload_n 0, 1) := by decide +kernel
theorem dX8_readNumbers_80 : decode cX8_readNumbers 80 = .ok (.getfield 83, 3) := by decide +kernel
theorem dX8_readNumbers_83 : decode cX8_readNumbers 83 = .ok (.invokevirtual 86, 3) := by decide +kernel
theorem dX8_readNumbers_86 : decode cX8_readNumbers 86 = .ok (.iadd, 1) := by decide +kernel
theorem dX8_readNumbers_87 : decode cX8_readNumbers 87 = .ok (.bipush 48, 2) := by decide +kernel
theorem dX8_readNumbers_89 : decode cX8_readNumbers 89 = .ok (.isub, 1) := by decide +kernel
theorem dX8_readNumbers_90 : decode cX8_readNumbers 90 = .ok (.iastore, 1) := by decide +kernel
theorem dX8_readNumbers_91 : decode cX8_readNumbers 91 = .ok (.aload_n 0, 1) := by decide +kernel
theorem dX8_readNumbers_92 : decode cX8_readNumbers 92 = .ok (.dup, 1) := by decide +kernel
theorem dX8_readNumbers_93 : decode cX8_readNumbers 93 = .ok (.getfield 83, 3) := by decide +kernel
theorem dX8_readNumbers_96 : decode cX8_readNumbers 96 = .ok (.iconst 1, 1) := by decide +kernel
theorem dX8_readNumbers_97 : decode cX8_readNumbers 97 = .ok (.iadd, 1) := by decide +kernel
theorem dX8_readNumbers_98 : decode cX8_readNumbers 98 = .ok (.putfield 83, 3) := by decide +kernel
theorem dX8_readNumbers_101 : decode cX8_readNumbers 101 = .ok (.aload_n 0, 1) := by decide +kernel
theorem dX8_readNumbers_102 : decode cX8_readNumbers 102 = .ok (.aload_n 0, 1) := by decide +kernel
theorem dX8_readNumbers_103 : decode cX8_readNumbers 103 = .ok (.getfield 83, 3) := by decide +kernel
