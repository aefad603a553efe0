theorem dX8_readNumbers_106 : decode cX8_readNumbers 106 = .ok (.invokevirtual 86, 3) := by decide +kernel
theorem dX8_readNumbers_109 : decode cX8_readNumbers 109 = .ok (.iload_n 2, 1) := by decide +kernel
theorem dX8_readNumbers_110 : decode cX8_readNumbers 110 = .ok (.iload_n 1, 1) := by decide +kernel
theorem dX8_readNumbers_111 : decode cX8_readNumbers 111 = .ok (.iconst 1, 1) := by decide +kernel
theorem dX8_readNumbers_112 : decode cX8_readNumbers 112 = .ok (.isub, 1) := by decide +kernel
theorem dX8_readNumbers_113 : decode cX8_readNumbers 113 = .ok (.if_icmp .ge 8, 3) := by decide +kernel
theorem dX8_readNumbers_116 : decode cX8_readNumbers 116 = .ok (.bipush 44, 2) := by decide +kernel
theorem dX8_readNumbers_118 : decode cX8_readNumbers 118 = .ok (.goto 5, 3) := by decide +kernel
theorem dX8_readNumbers_121 : decode cX8_readNumbers 121 = .ok (.bipush 59, 2) := by decide +kernel
theorem dX8_readNumbers_123 : decode cX8_readNumbers 123 = .ok (.if_icmp .eq 5, 3) := by decide +kernel
theorem dX8_readNumbers_126 : decode cX8_readNumbers 126 = .ok (.iconst 0, 1) := by decide +kernel
theorem dX8_readNumbers_127 : decode cX8_readNumbers 127 = .ok (.ireturn, 1) := by decide +kernel
theorem dX8_readNumbers_128 : decode cX8_readNumbers 128 = .ok (.aload_n 0, 1) := by decide +kernel
theorem dX8_readNumbers_129 : decode cX8_readNumbers 129 = .ok (.dup, 1) := by decide +kernel
theorem dX8_readNumbers_130 : decode cX8_readNumbers 130 = .ok (.getfield 83, 3) := by decide +kernel
theorem dX8_readNumbers_133 : decode cX8_readNumbers 133 = .ok (.iconst 1, 1) := by decide +kernel
theorem dX8_readNumbers_134 : decode cX8_readNumbers 134 = .ok (.iadd, 1) := by decide +kernel
theorem dX8_readNumbers_135 : decode cX8_readNumbers 135 = .ok (.putfield 83, 3) := by decide +kernel
theorem dX8_readNumbers_138 : decode cX8_readNumbers 138 = .ok (.iinc 2 1, 3) := by decide +kernel
theorem dX8_readNumbers_141 : decode cX8_readNumbers 141 = .ok (.goto (-139), 3) := by decide +kernel
theorem dX8_readNumbers_144 : decode cX8_readNumbers 144 = .ok (.iconst 1, 1) := by decide +kernel
theorem dX8_readNumbers_145 : decode cX8_readNumbers 145 = .ok (.ireturn, 1) := by decide +kernel
theorem dX8_isTold_0 : decode cX8_isTold 0 = .ok (.aload_n 0, 1) := by decide +kernel
theorem dX8_isTold_1 : decode cX8_isTold 1 = .ok (.getfield 34, 3) := by decide +kernel
theorem dX8_isTold_4 : decode cX8_isTold 4 = .ok (.iload_n 1, 1) := by decide +kernel
theorem dX8_isTold_5 : decode cX8_isTold 5 = .ok (.iaload, 1) := by decide +kernel
theorem dX8_isTold_6 : decode cX8_isTold 6 = .ok (.iload_n 2, 1) := by decide +kernel
theorem dX8_isTold_7 : decode cX8_isTold 7 = .ok (.iload_n 3, 1) := by decide +kernel
theorem dX8_isTold_8 : decode cX8_isTold 8 = .ok (.invokestatic 76, 3) := by decide +kernel
theorem dX8_isTold_11 : decode cX8_isTold 11 = .ok (.ireturn, 1) := by decide +kernel
theorem dX8_put_0 : decode cX8_put 0 = .ok (.iconst 0, 1) := by decide +kernel
theorem dX8_put_1 : decode cX8_put 1 = .ok (.istore 4, 2) := by decide +kernel
theorem dX8_put_3 : decode cX8_put 3 = .ok (.iload 4, 2) := by decide +kernel
theorem dX8_put_5 : decode cX8_put 5 = .ok (.iload_n 3, 1) := by decide +kernel
theorem dX8_put_6 : decode cX8_put 6 = .ok (.if_icmp .ge 19, 3) := by decide +kernel
theorem dX8_put_9 : decode cX8_put 9 = .ok (.aload_n 0, 1) := by decide +kernel
theorem dX8_put_10 : decode cX8_put 10 = .ok (.iload_n 1, 1) := by decide +kernel
theorem dX8_put_11 : decode cX8_put 11 = .ok (.iload 4, 2) := by decide +kernel
theorem dX8_put_13 : decode cX8_put 13 = .ok (.iadd, 1) := by decide +kernel
theorem dX8_put_14 : decode cX8_put 14 = .ok (.aload_n 2, 1) := by decide +kernel
theorem dX8_put_15 : decode cX8_put 15 = .ok (.iload 4, 2) := by decide +kernel
theorem dX8_put_17 : decode cX8_put 17 = .ok (.iaload, 1) := by decide +kernel
theorem dX8_put_18 : decode cX8_put 18 = .ok (.iastore, 1) := by decide +kernel
theorem dX8_put_19 : decode cX8_put 19 = .ok (.iinc 4 1, 3) := by decide +kernel
theorem dX8_put_22 : decode cX8_put 22 = .ok (.goto (-19), 3) := by decide +kernel
theorem dX8_put_25 : decode cX8_put 25 = .ok (.return_, 1) := by decide +kernel
theorem dX8_clearTold_0 : decode cX8_clearTold 0 = .ok (.aload_n 0, 1) := by decide +kernel
theorem dX8_clearTold_1 : decode cX8_clearTold 1 = .ok (.iconst 0, 1) := by decide +kernel
theorem dX8_clearTold_2 : decode cX8_clearTold 2 = .ok (.putfield 66, 3) := by decide +kernel
theorem dX8_clearTold_5 : decode cX8_clearTold 5 = .ok (.aload_n 0, 1) := by decide +kernel
theorem dX8_clearTold_6 : decode cX8_clearTold 6 = .ok (.iconst 0, 1) := by decide +kernel
theorem dX8_clearTold_7 : decode cX8_clearTold 7 = .ok (.putfield 70, 3) := by decide +kernel
theorem dX8_clearTold_10 : decode cX8_clearTold 10 = .ok (.iconst 0, 1) := by decide +kernel
theorem dX8_clearTold_11 : decode cX8_clearTold 11 = .ok (.istore_n 1, 1) := by decide +kernel
theorem dX8_clearTold_12 : decode cX8_clearTold 12 = .ok (.iload_n 1, 1) := by decide +kernel
theorem dX8_clearTold_13 : decode cX8_clearTold 13 = .ok (.bipush 17, 2) := by decide +kernel
theorem dX8_clearTold_15 : decode cX8_clearTold 15 = .ok (.if_icmp .ge 32, 3) := by decide +kernel
theorem dX8_clearTold_18 : decode cX8_clearTold 18 = .ok (.aload_n 0, 1) := by decide +kernel
theorem dX8_clearTold_19 : decode cX8_clearTold 19 = .ok (.getfield 43, 3) := by decide +kernel
theorem dX8_clearTold_22 : decode cX8_clearTold 22 = .ok (.iload_n 1, 1) := by decide +kernel
theorem dX8_clearTold_23 : decode cX8_clearTold 23 = .ok (.iload_n 1, 1) := by decide +kernel
theorem dX8_clearTold_24 : decode cX8_clearTold 24 = .ok (.iconst 1, 1) := by decide +kernel
theorem dX8_clearTold_25 : decode cX8_clearTold 25 = .ok (.bipush 8, 2) := by decide +kernel
theorem dX8_clearTold_27 : decode cX8_clearTold 27 = .ok (.invokestatic 76, 3) := by decide +kernel
theorem dX8_clearTold_30 : decode cX8_clearTold 30 = .ok (.ifCond .eq 9, 3) := by decide +kernel
theorem dX8_clearTold_33 : decode cX8_clearTold 33 = .ok (.iload_n 1, 1) := by decide +kernel
theorem dX8_clearTold_34 : decode cX8_clearTold 34 = .ok (.iconst 1, 1) := by decide +kernel
theorem dX8_clearTold_35 : decode cX8_clearTold 35 = .ok (.isub, 1) := by decide +kernel
theorem dX8_clearTold_36 : decode cX8_clearTold 36 = .ok (.goto 4, 3) := by decide +kernel
theorem dX8_clearTold_39 : decode cX8_clearTold 39 = .ok (.iconst 0, 1) := by decide +kernel
theorem dX8_clearTold_40 : decode cX8_clearTold 40 = .ok (.iastore, 1) := by decide +kernel
theorem dX8_clearTold_41 : decode cX8_clearTold 41 = .ok (.iinc 1 1, 3) := by decide +kernel
theorem dX8_clearTold_44 : decode cX8_clearTold 44 = .ok (.goto (-32), 3) := by decide +kernel
theorem dX8_clearTold_47 : decode cX8_clearTold 47 = .ok (.return_, 1) := by decide +kernel
theorem dX8_readCousinOf_0 : decode cX8_readCousinOf 0 = .ok (.aload_n 0, 1) := by decide +kernel
theorem dX8_readCousinOf_1 : decode cX8_readCousinOf 1 = .ok (.getfield 66, 3) := by decide +kernel
theorem dX8_readCousinOf_4 : decode cX8_readCousinOf 4 = .ok (.bipush 8, 2) := by decide +kernel
theorem dX8_readCousinOf_6 : decode cX8_readCousinOf 6 = .ok (.if_icmp .eq 43, 3) := by decide +kernel
theorem dX8_readCousinOf_9 : decode cX8_readCousinOf 9 = .ok (.aload_n 0, 1) := by decide +kernel
theorem dX8_readCousinOf_10 : decode cX8_readCousinOf 10 = .ok (.iconst 3, 1) := by decide +kernel
theorem dX8_readCousinOf_11 : decode cX8_readCousinOf 11 = .ok (.invokevirtual 94, 3) := by decide +kernel
theorem dX8_readCousinOf_14 : decode cX8_readCousinOf 14 = .ok (.ifCond .eq 35, 3) := by decide +kernel
theorem dX8_readCousinOf_17 : decode cX8_readCousinOf 17 = .ok (.aload_n 0, 1) := by decide +kernel
theorem dX8_readCousinOf_18 : decode cX8_readCousinOf 18 = .ok (.iconst 0, 1) := by decide +kernel
theorem dX8_readCousinOf_19 : decode cX8_readCousinOf 19 = .ok (.iconst 0, 1) := by decide +kernel
theorem dX8_readCousinOf_20 : decode cX8_readCousinOf 20 = .ok (.iconst 3, 1) := by decide +kernel
theorem dX8_readCousinOf_21 : decode cX8_readCousinOf 21 = .ok (.invokevirtual 97, 3) := by decide +kernel
theorem dX8_readCousinOf_24 : decode cX8_readCousinOf 24 = .ok (.ifCond .eq 25, 3) := by decide +kernel
theorem dX8_readCousinOf_27 : decode cX8_readCousinOf 27 = .ok (.aload_n 0, 1) := by decide +kernel
theorem dX8_readCousinOf_28 : decode cX8_readCousinOf 28 = .ok (.iconst 1, 1) := by decide +kernel
theorem dX8_readCousinOf_29 : decode cX8_readCousinOf 29 = .ok (.iconst 0, 1) := by decide +kernel
theorem dX8_readCousinOf_30 : decode cX8_readCousinOf 30 = .ok (.bipush 59, 2) := by decide +kernel
theorem dX8_readCousinOf_32 : decode cX8_readCousinOf 32 = .ok (.invokevirtual 97, 3) := by decide +kernel
theorem dX8_readCousinOf_35 : decode cX8_readCousinOf 35 = .ok (.ifCond .eq 14, 3) := by decide +kernel
theorem dX8_readCousinOf_38 : decode cX8_readCousinOf 38 = .ok (.aload_n 0, 1) := by decide +kernel
theorem dX8_readCousinOf_39 : decode cX8_readCousinOf 39 = .ok (.iconst 2, 1) := by decide +kernel
theorem dX8_readCousinOf_40 : decode cX8_readCousinOf 40 = .ok (.iconst 0, 1) := by decide +kernel
theorem dX8_readCousinOf_41 : decode cX8_readCousinOf 41 = .ok (.bipush 9, 2) := by decide +kernel
theorem dX8_readCousinOf_43 : decode cX8_readCousinOf 43 = .ok (.invokevirtual 97, 3) := by decide +kernel
theorem dX8_readCousinOf_46 : decode cX8_readCousinOf 46 = .ok (.ifCond .ne 5, 3) := by decide +kernel
theorem dX8_readCousinOf_49 : decode cX8_readCousinOf 49 = .ok (.iconst 0, 1) := by decide +kernel
theorem dX8_readCousinOf_50 : decode cX8_readCousinOf 50 = .ok (.ireturn, 1) := by decide +kernel
theorem dX8_readCousinOf_51 : decode cX8_readCousinOf 51 = .ok (.aload_n 0, 1) := by decide +kernel
theorem dX8_readCousinOf_52 : decode cX8_readCousinOf 52 = .ok (.aload_n 0, 1) := by decide +kernel
theorem dX8_readCousinOf_53 : decode cX8_readCousinOf 53 = .ok (.getfield 34, 3) := by decide +kernel
theorem dX8_readCousinOf_56 : decode cX8_readCousinOf 56 = .ok (.iconst 0, 1) := by decide +kernel
theorem dX8_readCousinOf_57 : decode cX8_readCousinOf 57 = .ok (.iaload, 1) := by decide +kernel
theorem dX8_readCousinOf_58 : decode cX8_readCousinOf 58 = .ok (.aload_n 0, 1) := by decide +kernel
theorem dX8_readCousinOf_59 : decode cX8_readCousinOf 59 = .ok (.getfield 34, 3) := by decide +kernel
theorem dX8_readCousinOf_62 : decode cX8_readCousinOf 62 = .ok (.iconst 1, 1) := by decide +kernel
theorem dX8_readCousinOf_63 : decode cX8_readCousinOf 63 = .ok (.iaload, 1) := by decide +kernel
theorem dX8_readCousinOf_64 : decode cX8_readCousinOf 64 = .ok (.aload_n 0, 1) := by decide +kernel
theorem dX8_readCousinOf_65 : decode cX8_readCousinOf 65 = .ok (.getfield 34, 3) := by decide +kernel
theorem dX8_readCousinOf_68 : decode cX8_readCousinOf 68 = .ok (.iconst 2, 1) := by decide +kernel
theorem dX8_readCousinOf_69 : decode cX8_readCousinOf 69 = .ok (.iaload, 1) := by decide +kernel
theorem dX8_readCousinOf_70 : decode cX8_readCousinOf 70 = .ok (.invokevirtual 55, 3) := by decide +kernel
theorem dX8_readCousinOf_73 : decode cX8_readCousinOf 73 = .ok (.iconst 1, 1) := by decide +kernel
theorem dX8_readCousinOf_74 : decode cX8_readCousinOf 74 = .ok (.ireturn, 1) := by decide +kernel
theorem dX8_readRoomOf_0 : decode cX8_readRoomOf 0 = .ok (.aload_n 0, 1) := by decide +kernel
theorem dX8_readRoomOf_1 : decode cX8_readRoomOf 1 = .ok (.getfield 70, 3) := by decide +kernel
theorem dX8_readRoomOf_4 : decode cX8_readRoomOf 4 = .ok (.bipush 8, 2) := by decide +kernel
theorem dX8_readRoomOf_6 : decode cX8_readRoomOf 6 = .ok (.if_icmp .eq 33, 3) := by decide +kernel
theorem dX8_readRoomOf_9 : decode cX8_readRoomOf 9 = .ok (.aload_n 0, 1) := by decide +kernel
theorem dX8_readRoomOf_10 : decode cX8_readRoomOf 10 = .ok (.iconst 2, 1) := by decide +kernel
theorem dX8_readRoomOf_11 : decode cX8_readRoomOf 11 = .ok (.invokevirtual 94, 3) := by decide +kernel
theorem dX8_readRoomOf_14 : decode cX8_readRoomOf 14 = .ok (.ifCond .eq 25, 3) := by decide +kernel
theorem dX8_readRoomOf_17 : decode cX8_readRoomOf 17 = .ok (.aload_n 0, 1) := by decide +kernel
theorem dX8_readRoomOf_18 : decode cX8_readRoomOf 18 = .ok (.iconst 0, 1) := by decide +kernel
theorem dX8_readRoomOf_19 : decode cX8_readRoomOf 19 = .ok (.iconst 0, 1) := by decide +kernel
theorem dX8_readRoomOf_20 : decode cX8_readRoomOf 20 = .ok (.bipush 9, 2) := by decide +kernel
theorem dX8_readRoomOf_22 : decode cX8_readRoomOf 22 = .ok (.invokevirtual 97, 3) := by decide +kernel
theorem dX8_readRoomOf_25 : decode cX8_readRoomOf 25 = .ok (.ifCond .eq 14, 3) := by decide +kernel
theorem dX8_readRoomOf_28 : decode cX8_readRoomOf 28 = .ok (.aload_n 0, 1) := by decide +kernel
theorem dX8_readRoomOf_29 : decode cX8_readRoomOf 29 = .ok (.iconst 1, 1) := by decide +kernel
theorem dX8_readRoomOf_30 : decode cX8_readRoomOf 30 = .ok (.iconst 0, 1) := by decide +kernel
theorem dX8_readRoomOf_31 : decode cX8_readRoomOf 31 = .ok (.bipush 9, 2) := by decide +kernel
theorem dX8_readRoomOf_33 : decode cX8_readRoomOf 33 = .ok (.invokevirtual 97, 3) := by decide +kernel
theorem dX8_readRoomOf_36 : decode cX8_readRoomOf 36 = .ok (.ifCond .ne 5, 3) := by decide +kernel
theorem dX8_readRoomOf_39 : decode cX8_readRoomOf 39 = .ok (.iconst 0, 1) := by decide +kernel
theorem dX8_readRoomOf_40 : decode cX8_readRoomOf 40 = .ok (.ireturn, 1) := by decide +kernel
theorem dX8_readRoomOf_41 : decode cX8_readRoomOf 41 = .ok (.aload_n 0, 1) := by decide +kernel
theorem dX8_readRoomOf_42 : decode cX8_readRoomOf 42 = .ok (.aload_n 0, 1) := by decide +kernel
theorem dX8_readRoomOf_43 : decode cX8_readRoomOf 43 = .ok (.getfield 34, 3) := by decide +kernel
theorem dX8_readRoomOf_46 : decode cX8_readRoomOf 46 = .ok (.iconst 0, 1) := by decide +kernel
theorem dX8_readRoomOf_47 : decode cX8_readRoomOf 47 = .ok (.iaload, 1) := by decide +kernel
theorem dX8_readRoomOf_48 : decode cX8_readRoomOf 48 = .ok (.aload_n 0, 1) := by decide +kernel
theorem dX8_readRoomOf_49 : decode cX8_readRoomOf 49 = .ok (.getfield 34, 3) := by decide +kernel
theorem dX8_readRoomOf_52 : decode cX8_readRoomOf 52 = .ok (.iconst 1, 1) := by decide +kernel
theorem dX8_readRoomOf_53 : decode cX8_readRoomOf 53 = .ok (.iaload, 1) := by decide +kernel
theorem dX8_readRoomOf_54 : decode cX8_readRoomOf 54 = .ok (.invokevirtual 59, 3) := by decide +kernel
theorem dX8_readRoomOf_57 : decode cX8_readRoomOf 57 = .ok (.iconst 1, 1) := by decide +kernel
theorem dX8_readRoomOf_58 : decode cX8_readRoomOf 58 = .ok (.ireturn, 1) := by decide +kernel
theorem dX8_readItem_0 : decode cX8_readItem 0 = .ok (.aload_n 0, 1) := by decide +kernel
theorem dX8_readItem_1 : decode cX8_readItem 1 = .ok (.aload_n 0, 1) := by decide +kernel
theorem dX8_readItem_2 : decode cX8_readItem 2 = .ok (.getfield 83, 3) := by decide +kernel
theorem dX8_readItem_5 : decode cX8_readItem 5 = .ok (.invokevirtual 86, 3) := by decide +kernel
theorem dX8_readItem_8 : decode cX8_readItem 8 = .ok (.istore_n 1, 1) := by decide +kernel
theorem dX8_readItem_9 : decode cX8_readItem 9 = .ok (.aload_n 0, 1) := by decide +kernel
theorem dX8_readItem_10 : decode cX8_readItem 10 = .ok (.dup, 1) := by decide +kernel
theorem dX8_readItem_11 : decode cX8_readItem 11 = .ok (.getfield 83, 3) := by decide +kernel
theorem dX8_readItem_14 : decode cX8_readItem 14 = .ok (.iconst 1, 1) := by decide +kernel
theorem dX8_readItem_15 : decode cX8_readItem 15 = .ok (.iadd, 1) := by decide +kernel
theorem dX8_readItem_16 : decode cX8_readItem 16 = .ok (.putfield 83, 3) := by decide +kernel
theorem dX8_readItem_19 : decode cX8_readItem 19 = .ok (.iload_n 1, 1) := by decide +kernel
theorem dX8_readItem_20 : decode cX8_readItem 20 = .ok (.lookupswitch 38 #[(99, 28), (114, 33)], 28) := by decide +kernel
theorem dX8_readItem_48 : decode cX8_readItem 48 = .ok (.aload_n 0, 1) := by decide +kernel
theorem dX8_readItem_49 : decode cX8_readItem 49 = .ok (.invokevirtual 100, 3) := by decide +kernel
theorem dX8_readItem_52 : decode cX8_readItem 52 = .ok (.ireturn, 1) := by decide +kernel
theorem dX8_readItem_53 : decode cX8_readItem 53 = .ok (.aload_n 0, 1) := by decide +kernel
theorem dX8_readItem_54 : decode cX8_readItem 54 = .ok (.invokevirtual 104, 3) := by decide +kernel
theorem dX8_readItem_57 : decode cX8_readItem 57 = .ok (.ireturn, 1) := by decide +kernel
theorem dX8_readItem_58 : decode cX8_readItem 58 = .ok (.iconst 0, 1) := by decide +kernel
theorem dX8_readItem_59 : decode cX8_readItem 59 = .ok (.ireturn, 1) := by decide +kernel
theorem dX8_fault_0 : decode cX8_fault 0 = .ok (.aload_n 0, 1) := by decide +kernel
theorem dX8_fault_1 : decode cX8_fault 1 = .ok (.iconst 0, 1) := by decide +kernel
theorem dX8_fault_2 : decode cX8_fault 2 = .ok (.putfield 83, 3) := by decide +kernel
theorem dX8_fault_5 : decode cX8_fault 5 = .ok (.aload_n 0, 1) := by decide +kernel
theorem dX8_fault_6 : decode cX8_fault 6 = .ok (.invokevirtual 52, 3) := by decide +kernel
theorem dX8_fault_9 : decode cX8_fault 9 = .ok (.aload_n 0, 1) := by decide +kernel
theorem dX8_fault_10 : decode cX8_fault 10 = .ok (.getfield 83, 3) := by decide +kernel
theorem dX8_fault_13 : decode cX8_fault 13 = .ok (.aload_n 0, 1) := by decide +kernel
theorem dX8_fault_14 : decode cX8_fault 14 = .ok (.getfield 80, 3) := by decide +kernel
theorem dX8_fault_17 : decode cX8_fault 17 = .ok (.if_icmp .ge 20, 3) := by decide +kernel
theorem dX8_fault_20 : decode cX8_fault 20 = .ok (.aload_n 0, 1) := by decide +kernel
theorem dX8_fault_21 : decode cX8_fault 21 = .ok (.getfield 83, 3) := by decide +kernel
theorem dX8_fault_24 : decode cX8_fault 24 = .ok (.istore_n 1, 1) := by decide +kernel
theorem dX8_fault_25 : decode cX8_fault 25 = .ok (.aload_n 0, 1) := by decide +kernel
theorem dX8_fault_26 : decode cX8_fault 26 = .ok (.invokevirtual 107, 3) := by decide +kernel
theorem dX8_fault_29 : decode cX8_fault 29 = .ok (.ifCond .ne 5, 3) := by decide +kernel
theorem dX8_fault_32 : decode cX8_fault 32 = .ok (.iload_n 1, 1) := by decide +kernel
theorem dX8_fault_33 : decode cX8_fault 33 = .ok (.ireturn, 1) := by decide +kernel
theorem dX8_fault_34 : decode cX8_fault 34 = .ok (.goto (-25), 3) := by decide +kernel
theorem dX8_fault_37 : decode cX8_fault 37 = .ok (.bipush (-4), 2) := by decide +kernel
theorem dX8_fault_39 : decode cX8_fault 39 = .ok (.ireturn, 1) := by decide +kernel
theorem dX8_lay_0 : decode cX8_lay 0 = .ok (.aload_n 0, 1) := by decide +kernel
theorem dX8_lay_1 : decode cX8_lay 1 = .ok (.invokevirtual 110, 3) := by decide +kernel
theorem dX8_lay_4 : decode cX8_lay 4 = .ok (.bipush (-4), 2) := by decide +kernel
theorem dX8_lay_6 : decode cX8_lay 6 = .ok (.if_icmp .ne 21, 3) := by decide +kernel
theorem dX8_lay_9 : decode cX8_lay 9 = .ok (.aload_n 0, 1) := by decide +kernel
theorem dX8_lay_10 : decode cX8_lay 10 = .ok (.getfield 66, 3) := by decide +kernel
theorem dX8_lay_13 : decode cX8_lay 13 = .ok (.ifCond .eq 14, 3) := by decide +kernel
theorem dX8_lay_16 : decode cX8_lay 16 = .ok (.aload_n 0, 1) := by decide +kernel
theorem dX8_lay_17 : decode cX8_lay 17 = .ok (.getfield 70, 3) := by decide +kernel
theorem dX8_lay_20 : decode cX8_lay 20 = .ok (.aload_n 0, 1) := by decide +kernel
theorem dX8_lay_21 : decode cX8_lay 21 = .ok (.getfield 66, 3) := by decide +kernel
theorem dX8_lay_24 : decode cX8_lay 24 = .ok (.if_icmp .eq 6, 3) := by decide +kernel
theorem dX8_lay_27 : decode cX8_lay 27 = .ok (.bipush (-2), 2) := by decide +kernel
theorem dX8_lay_29 : decode cX8_lay 29 = .ok (.ireturn, 1) := by decide +kernel
theorem dX8_lay_30 : decode cX8_lay 30 = .ok (.aload_n 0, 1) := by decide +kernel
theorem dX8_lay_31 : decode cX8_lay 31 = .ok (.invokevirtual 63, 3) := by decide +kernel
theorem dX8_lay_34 : decode cX8_lay 34 = .ok (.aload_n 0, 1) := by decide +kernel
theorem dX8_lay_35 : decode cX8_lay 35 = .ok (.getfield 73, 3) := by decide +kernel
theorem dX8_lay_38 : decode cX8_lay 38 = .ok (.ireturn, 1) := by decide +kernel
theorem dX8_settles_0 : decode cX8_settles 0 = .ok (.aload_n 0, 1) := by decide +kernel
theorem dX8_settles_1 : decode cX8_settles 1 = .ok (.aload_n 0, 1) := by decide +kernel
theorem dX8_settles_2 : decode cX8_settles 2 = .ok (.getfield 66, 3) := by decide +kernel
theorem dX8_settles_5 : decode cX8_settles 5 = .ok (.putfield 73, 3) := by decide +kernel
theorem dX8_settles_8 : decode cX8_settles 8 = .ok (.aload_n 0, 1) := by decide +kernel
theorem dX8_settles_9 : decode cX8_settles 9 = .ok (.getfield 7, 3) := by decide +kernel
theorem dX8_settles_12 : decode cX8_settles 12 = .ok (.iconst 0, 1) := by decide +kernel
theorem dX8_settles_13 : decode cX8_settles 13 = .ok (.aload_n 0, 1) := by decide +kernel
theorem dX8_settles_14 : decode cX8_settles 14 = .ok (.getfield 37, 3) := by decide +kernel
theorem dX8_settles_17 : decode cX8_settles 17 = .ok (.bipush 16, 2) := by decide +kernel
theorem dX8_settles_19 : decode cX8_settles 19 = .ok (.invokestatic 114, 3) := by decide +kernel
theorem dX8_settles_22 : decode cX8_settles 22 = .ok (.aload_n 0, 1) := by decide +kernel
theorem dX8_settles_23 : decode cX8_settles 23 = .ok (.getfield 13, 3) := by decide +kernel
theorem dX8_settles_26 : decode cX8_settles 26 = .ok (.iconst 0, 1) := by decide +kernel
theorem dX8_settles_27 : decode cX8_settles 27 = .ok (.aload_n 0, 1) := by decide +kernel
theorem dX8_settles_28 : decode cX8_settles 28 = .ok (.getfield 40, 3) := by decide +kernel
theorem dX8_settles_31 : decode cX8_settles 31 = .ok (.bipush 16, 2) := by decide +kernel
theorem dX8_settles_33 : decode cX8_settles 33 = .ok (.invokestatic 114, 3) := by decide +kernel
theorem dX8_settles_36 : decode cX8_settles 36 = .ok (.aload_n 0, 1) := by decide +kernel
theorem dX8_settles_37 : decode cX8_settles 37 = .ok (.getfield 16, 3) := by decide +kernel
theorem dX8_settles_40 : decode cX8_settles 40 = .ok (.iconst 0, 1) := by decide +kernel
theorem dX8_settles_41 : decode cX8_settles 41 = .ok (.aload_n 0, 1) := by decide +kernel
theorem dX8_settles_42 : decode cX8_settles 42 = .ok (.getfield 43, 3) := by decide +kernel
theorem dX8_settles_45 : decode cX8_settles 45 = .ok (.bipush 17, 2) := by decide +kernel
theorem dX8_settles_47 : decode cX8_settles 47 = .ok (.invokestatic 114, 3) := by decide +kernel
theorem dX8_settles_50 : decode cX8_settles 50 = .ok (.aload_n 0, 1) := by decide +kernel
theorem dX8_settles_51 : decode cX8_settles 51 = .ok (.getfield 19, 3) := by decide +kernel
theorem dX8_settles_54 : decode cX8_settles 54 = .ok (.iconst 0, 1) := by decide +kernel
theorem dX8_settles_55 : decode cX8_settles 55 = .ok (.aload_n 0, 1) := by decide +kernel
theorem dX8_settles_56 : decode cX8_settles 56 = .ok (.getfield 43, 3) := by decide +kernel
theorem dX8_settles_59 : decode cX8_settles 59 = .ok (.bipush 17, 2) := by decide +kernel
theorem dX8_settles_61 : decode cX8_settles 61 = .ok (.invokestatic 114, 3) := by decide +kernel
theorem dX8_settles_64 : decode cX8_settles 64 = .ok (.aload_n 0, 1) := by decide +kernel
theorem dX8_settles_65 : decode cX8_settles 65 = .ok (.iconst 0, 1) := by decide +kernel
theorem dX8_settles_66 : decode cX8_settles 66 = .ok (.putfield 118, 3) := by decide +kernel
theorem dX8_settles_69 : decode cX8_settles 69 = .ok (.aload_n 0, 1) := by decide +kernel
theorem dX8_settles_70 : decode cX8_settles 70 = .ok (.iconst 0, 1) := by decide +kernel
theorem dX8_settles_71 : decode cX8_settles 71 = .ok (.putfield 121, 3) := by decide +kernel
theorem dX8_settles_74 : decode cX8_settles 74 = .ok (.aload_n 0, 1) := by decide +kernel
theorem dX8_settles_75 : decode cX8_settles 75 = .ok (.iconst 0, 1) := by decide +kernel
theorem dX8_settles_76 : decode cX8_settles 76 = .ok (.putfield 124, 3) := by decide +kernel
theorem dX8_settles_79 : decode cX8_settles 79 = .ok (.return_, 1) := by decide +kernel
theorem dX8_from_0 : decode cX8_from 0 = .ok (.aload_n 0, 1) := by decide +kernel
theorem dX8_from_1 : decode cX8_from 1 = .ok (.getfield 46, 3) := by decide +kernel
theorem dX8_from_4 : decode cX8_from 4 = .ok (.iconst 0, 1) := by decide +kernel
theorem dX8_from_5 : decode cX8_from 5 = .ok (.aload_n 1, 1) := by decide +kernel
theorem dX8_from_6 : decode cX8_from 6 = .ok (.bipush 17, 2) := by decide +kernel
theorem dX8_from_8 : decode cX8_from 8 = .ok (.invokestatic 114, 3) := by decide +kernel
theorem dX8_from_11 : decode cX8_from 11 = .ok (.aload_n 0, 1) := by decide +kernel
theorem dX8_from_12 : decode cX8_from 12 = .ok (.invokevirtual 127, 3) := by decide +kernel
theorem dX8_from_15 : decode cX8_from 15 = .ok (.return_, 1) := by decide +kernel
theorem dX8_findList_0 : decode cX8_findList 0 = .ok (.iconst 0, 1) := by decide +kernel
theorem dX8_findList_1 : decode cX8_findList 1 = .ok (.istore_n 1, 1) := by decide +kernel
theorem dX8_findList_2 : decode cX8_findList 2 = .ok (.iload_n 1, 1) := by decide +kernel
theorem dX8_findList_3 : decode cX8_findList 3 = .ok (.aload_n 0, 1) := by decide +kernel
theorem dX8_findList_4 : decode cX8_findList 4 = .ok (.getfield 73, 3) := by decide +kernel
theorem dX8_findList_7 : decode cX8_findList 7 = .ok (.if_icmp .ge 20, 3) := by decide +kernel
theorem dX8_findList_10 : decode cX8_findList 10 = .ok (.aload_n 0, 1) := by decide +kernel
theorem dX8_findList_11 : decode cX8_findList 11 = .ok (.getfield 49, 3) := by decide +kernel
theorem dX8_findList_14 : decode cX8_findList 14 = .ok (.aload_n 0, 1) := by decide +kernel
theorem dX8_findList_15 : decode cX8_findList 15 = .ok (.iload_n 1, 1) := by decide +kernel
theorem dX8_findList_16 : decode cX8_findList 16 = .ok (.invokevirtual 130, 3) := by decide +kernel
theorem dX8_findList_19 : decode cX8_findList 19 = .ok (.iload_n 1, 1) := by decide +kernel
theorem dX8_findList_20 : decode cX8_findList 20 = .ok (.iastore, 1) := by decide +kernel
theorem dX8_findList_21 : decode cX8_findList 21 = .ok (.iinc 1 1, 3) := by decide +kernel
theorem dX8_findList_24 : decode cX8_findList 24 = .ok (.goto (-22), 3) := by decide +kernel
theorem dX8_findList_27 : decode cX8_findList 27 = .ok (.return_, 1) := by decide +kernel
theorem dX8_placeOf_0 : decode cX8_placeOf 0 = .ok (.iconst 0, 1) := by decide +kernel
theorem dX8_placeOf_1 : decode cX8_placeOf 1 = .ok (.istore_n 2, 1) := by decide +kernel
theorem dX8_placeOf_2 : decode cX8_placeOf 2 = .ok (.iconst 0, 1) := by decide +kernel
theorem dX8_placeOf_3 : decode cX8_placeOf 3 = .ok (.istore_n 3, 1) := by decide +kernel
theorem dX8_placeOf_4 : decode cX8_placeOf 4 = .ok (.iload_n 3, 1) := by decide +kernel
theorem dX8_placeOf_5 : decode cX8_placeOf 5 = .ok (.aload_n 0, 1) := by decide +kernel
theorem dX8_placeOf_6 : decode cX8_placeOf 6 = .ok (.getfield 73, 3) := by decide +kernel
theorem dX8_placeOf_9 : decode cX8_placeOf 9 = .ok (.if_icmp .ge 64, 3) := by decide +kernel
theorem dX8_placeOf_12 : decode cX8_placeOf 12 = .ok (.iload_n 2, 1) := by decide +kernel
theorem dX8_placeOf_13 : decode cX8_placeOf 13 = .ok (.aload_n 0, 1) := by decide +kernel
theorem dX8_placeOf_14 : decode cX8_placeOf 14 = .ok (.getfield 46, 3) := by decide +kernel
theorem dX8_placeOf_17 : decode cX8_placeOf 17 = .ok (.bipush 9, 2) := by decide +kernel
theorem dX8_placeOf_19 : decode cX8_placeOf 19 = .ok (.iload_n 3, 1) := by decide +kernel
theorem dX8_placeOf_20 : decode cX8_placeOf 20 = .ok (.iadd, 1) := by decide +kernel
theorem dX8_placeOf_21 : decode cX8_placeOf 21 = .ok (.iaload, 1) := by decide +kernel
theorem dX8_placeOf_22 : decode cX8_placeOf 22 = .ok (.aload_n 0, 1) := by decide +kernel
theorem dX8_placeOf_23 : decode cX8_placeOf 23 = .ok (.getfield 46, 3) := by decide +kernel
theorem dX8_placeOf_26 : decode cX8_placeOf 26 = .ok (.bipush 9, 2) := by decide +kernel
theorem dX8_placeOf_28 : decode cX8_placeOf 28 = .ok (.iload_n 1, 1) := by decide +kernel
theorem dX8_placeOf_29 : decode cX8_placeOf 29 = .ok (.iadd, 1) := by decide +kernel
theorem dX8_placeOf_30 : decode cX8_placeOf 30 = .ok (.iaload, 1) := by decide +kernel
theorem dX8_placeOf_31 : decode cX8_placeOf 31 = .ok (.if_icmp .lt 29, 3) := by decide +kernel
theorem dX8_placeOf_34 : decode cX8_placeOf 34 = .ok (.aload_n 0, 1) := by decide +kernel
theorem dX8_placeOf_35 : decode cX8_placeOf 35 = .ok (.getfield 46, 3) := by decide +kernel
theorem dX8_placeOf_38 : decode cX8_placeOf 38 = .ok (.bipush 9, 2) := by decide +kernel
theorem dX8_placeOf_40 : decode cX8_placeOf 40 = .ok (.iload_n 3, 1) := by decide +kernel
theorem dX8_placeOf_41 : decode cX8_placeOf 41 = .ok (.iadd, 1) := by decide +kernel
theorem dX8_placeOf_42 : decode cX8_placeOf 42 = .ok (.iaload, 1) := by decide +kernel
theorem dX8_placeOf_43 : decode cX8_placeOf 43 = .ok (.aload_n 0, 1) := by decide +kernel
theorem dX8_placeOf_44 : decode cX8_placeOf 44 = .ok (.getfield 46, 3) := by decide +kernel
theorem dX8_placeOf_47 : decode cX8_placeOf 47 = .ok (.bipush 9, 2) := by decide +kernel
theorem dX8_placeOf_49 : decode cX8_placeOf 49 = .ok (.iload_n 1, 1) := by decide +kernel
theorem dX8_placeOf_50 : decode cX8_placeOf 50 = .ok (.iadd, 1) := by decide +kernel
theorem dX8_placeOf_51 : decode cX8_placeOf 51 = .ok (.iaload, 1) := by decide +kernel
theorem dX8_placeOf_52 : decode cX8_placeOf 52 = .ok (.if_icmp .ne 12, 3) := by decide +kernel
theorem dX8_placeOf_55 : decode cX8_placeOf 55 = .ok (.iload_n 3, 1) := by decide +kernel
theorem dX8_placeOf_56 : decode cX8_placeOf 56 = .ok (.iload_n 1, 1) := by decide +kernel
theorem dX8_placeOf_57 : decode cX8_placeOf 57 = .ok (.if_icmp .ge 7, 3) := by decide +kernel
theorem dX8_placeOf_60 : decode cX8_placeOf 60 = .ok (.iconst 1, 1) := by decide +kernel
theorem dX8_placeOf_61 : decode cX8_placeOf 61 = .ok (.goto 4, 3) := by decide +kernel
theorem dX8_placeOf_64 : decode cX8_placeOf 64 = .ok (.iconst 0, 1) := by decide +kernel
theorem dX8_placeOf_65 : decode cX8_placeOf 65 = .ok (.iadd, 1) := by decide +kernel
theorem dX8_placeOf_66 : decode cX8_placeOf 66 = .ok (.istore_n 2, 1) := by decide +kernel
theorem dX8_placeOf_67 : decode cX8_placeOf 67 = .ok (.iinc 3 1, 3) := by decide +kernel
theorem dX8_placeOf_70 : decode cX8_placeOf 70 = .ok (.goto (-66), 3) := by decide +kernel
theorem dX8_placeOf_73 : decode cX8_placeOf 73 = .ok (.iload_n 2, 1) := by decide +kernel
theorem dX8_placeOf_74 : decode cX8_placeOf 74 = .ok (.ireturn, 1) := by decide +kernel
theorem dX8_sunIn_0 : decode cX8_sunIn 0 = .ok (.aload_n 0, 1) := by decide +kernel
theorem dX8_sunIn_1 : decode cX8_sunIn 1 = .ok (.getfield 13, 3) := by decide +kernel
theorem dX8_sunIn_4 : decode cX8_sunIn 4 = .ok (.iconst 2, 1) := by decide +kernel
theorem dX8_sunIn_5 : decode cX8_sunIn 5 = .ok (.iload_n 1, 1) := by decide +kernel
theorem dX8_sunIn_6 : decode cX8_sunIn 6 = .ok (.imul, 1) := by decide +kernel
theorem dX8_sunIn_7 : decode cX8_sunIn 7 = .ok (.iload_n 2, 1) := by decide +kernel
theorem dX8_sunIn_8 : decode cX8_sunIn 8 = .ok (.bipush 60, 2) := by decide +kernel
theorem dX8_sunIn_10 : decode cX8_sunIn 10 = .ok (.irem, 1) := by decide +kernel
theorem dX8_sunIn_11 : decode cX8_sunIn 11 = .ok (.bipush 30, 2) := by decide +kernel
theorem dX8_sunIn_13 : decode cX8_sunIn 13 = .ok (.if_icmp .ge 7, 3) := by decide +kernel
theorem dX8_sunIn_16 : decode cX8_sunIn 16 = .ok (.iconst 0, 1) := by decide +kernel
theorem dX8_sunIn_17 : decode cX8_sunIn 17 = .ok (.goto 4, 3) := by decide +kernel
theorem dX8_sunIn_20 : decode cX8_sunIn 20 = .ok (.iconst 1, 1) := by decide +kernel
theorem dX8_sunIn_21 : decode cX8_sunIn 21 = .ok (.iadd, 1) := by decide +kernel
theorem dX8_sunIn_22 : decode cX8_sunIn 22 = .ok (.iaload, 1) := by decide +kernel
theorem dX8_sunIn_23 : decode cX8_sunIn 23 = .ok (.ireturn, 1) := by decide +kernel
theorem dX8_changes_0 : decode cX8_changes 0 = .ok (.aload_n 0, 1) := by decide +kernel
theorem dX8_changes_1 : decode cX8_changes 1 = .ok (.getfield 49, 3) := by decide +kernel
theorem dX8_changes_4 : decode cX8_changes 4 = .ok (.iload_n 1, 1) := by decide +kernel
theorem dX8_changes_5 : decode cX8_changes 5 = .ok (.iaload, 1) := by decide +kernel
theorem dX8_changes_6 : decode cX8_changes 6 = .ok (.istore_n 2, 1) := by decide +kernel
theorem dX8_changes_7 : decode cX8_changes 7 = .ok (.aload_n 0, 1) := by decide +kernel
theorem dX8_changes_8 : decode cX8_changes 8 = .ok (.getfield 49, 3) := by decide +kernel
theorem dX8_changes_11 : decode cX8_changes 11 = .ok (.iload_n 1, 1) := by decide +kernel
theorem dX8_changes_12 : decode cX8_changes 12 = .ok (.iconst 1, 1) := by decide +kernel
theorem dX8_changes_13 : decode cX8_changes 13 = .ok (.iadd, 1) := by decide +kernel
theorem dX8_changes_14 : decode cX8_changes 14 = .ok (.aload_n 0, 1) := by decide +kernel
theorem dX8_changes_15 : decode cX8_changes 15 = .ok (.getfield 73, 3) := by decide +kernel
theorem dX8_changes_18 : decode cX8_changes 18 = .ok (.irem, 1) := by decide +kernel
theorem dX8_changes_19 : decode cX8_changes 19 = .ok (.iaload, 1) := by decide +kernel
theorem dX8_changes_20 : decode cX8_changes 20 = .ok (.istore_n 3, 1) := by decide +kernel
theorem dX8_changes_21 : decode cX8_changes 21 = .ok (.aload_n 0, 1) := by decide +kernel
theorem dX8_changes_22 : decode cX8_changes 22 = .ok (.getfield 7, 3) := by decide +kernel
theorem dX8_changes_25 : decode cX8_changes 25 = .ok (.iconst 2, 1) := by decide +kernel
theorem dX8_changes_26 : decode cX8_changes 26 = .ok (.iload_n 2, 1) := by decide +kernel
theorem dX8_changes_27 : decode cX8_changes 27 = .ok (.imul, 1) := by decide +kernel
theorem dX8_changes_28 : decode cX8_changes 28 = .ok (.iaload, 1) := by decide +kernel
theorem dX8_changes_29 : decode cX8_changes 29 = .ok (.tableswitch 128 1 3 #[27, 53, 77], 27) := by decide +kernel
theorem dX8_changes_56 : decode cX8_changes 56 = .ok (.aload_n 0, 1) := by decide +kernel
theorem dX8_changes_57 : decode cX8_changes 57 = .ok (.getfield 46, 3) := by decide +kernel
theorem dX8_changes_60 : decode cX8_changes 60 = .ok (.iconst 0, 1) := by decide +kernel
theorem dX8_changes_61 : decode cX8_changes 61 = .ok (.iaload, 1) := by decide +kernel
theorem dX8_changes_62 : decode cX8_changes 62 = .ok (.bipush 60, 2) := by decide +kernel
theorem dX8_changes_64 : decode cX8_changes 64 = .ok (.idiv, 1) := by decide +kernel
theorem dX8_changes_65 : decode cX8_changes 65 = .ok (.iconst 4, 1) := by decide +kernel
theorem dX8_changes_66 : decode cX8_changes 66 = .ok (.irem, 1) := by decide +kernel
theorem dX8_changes_67 : decode cX8_changes 67 = .ok (.ifCond .ne 99, 3) := by decide +kernel
theorem dX8_changes_70 : decode cX8_changes 70 = .ok (.aload_n 0, 1) := by decide +kernel
theorem dX8_changes_71 : decode cX8_changes 71 = .ok (.getfield 46, 3) := by decide +kernel
theorem dX8_changes_74 : decode cX8_changes 74 = .ok (.iload_n 2, 1) := by decide +kernel
theorem dX8_changes_75 : decode cX8_changes 75 = .ok (.iload_n 3, 1) := by decide +kernel
theorem dX8_changes_76 : decode cX8_changes 76 = .ok (.invokestatic 133, 3) := by decide +kernel
theorem dX8_changes_79 : decode cX8_changes 79 = .ok (.goto 87, 3) := by decide +kernel
theorem dX8_changes_82 : decode cX8_changes 82 = .ok (.aload_n 0, 1) := by decide +kernel
theorem dX8_changes_83 : decode cX8_changes 83 = .ok (.getfield 46, 3) := by decide +kernel
theorem dX8_changes_86 : decode cX8_changes 86 = .ok (.iload_n 2, 1) := by decide +kernel
theorem dX8_changes_87 : decode cX8_changes 87 = .ok (.aload_n 0, 1) := by decide +kernel
theorem dX8_changes_88 : decode cX8_changes 88 = .ok (.getfield 49, 3) := by decide +kernel
theorem dX8_changes_91 : decode cX8_changes 91 = .ok (.iload_n 1, 1) := by decide +kernel
theorem dX8_changes_92 : decode cX8_changes 92 = .ok (.iconst 2, 1) := by decide +kernel
theorem dX8_changes_93 : decode cX8_changes 93 = .ok (.iadd, 1) := by decide +kernel
theorem dX8_changes_94 : decode cX8_changes 94 = .ok (.aload_n 0, 1) := by decide +kernel
theorem dX8_changes_95 : decode cX8_changes 95 = .ok (.getfield 73, 3) := by decide +kernel
theorem dX8_changes_98 : decode cX8_changes 98 = .ok (.irem, 1) := by decide +kernel
theorem dX8_changes_99 : decode cX8_changes 99 = .ok (.iaload, 1) := by decide +kernel
theorem dX8_changes_100 : decode cX8_changes 100 = .ok (.invokestatic 133, 3) := by decide +kernel
theorem dX8_changes_103 : decode cX8_changes 103 = .ok (.goto 63, 3) := by decide +kernel
theorem dX8_changes_106 : decode cX8_changes 106 = .ok (.aload_n 0, 1) := by decide +kernel
theorem dX8_changes_107 : decode cX8_changes 107 = .ok (.aload_n 0, 1) := by decide +kernel
theorem dX8_changes_108 : decode cX8_changes 108 = .ok (.getfield 46, 3) := by decide +kernel
theorem dX8_changes_111 : decode cX8_changes 111 = .ok (.iconst 1, 1) := by decide +kernel
theorem dX8_changes_112 : decode cX8_changes 112 = .ok (.iload_n 3, 1) := by decide +kernel
theorem dX8_changes_113 : decode cX8_changes 113 = .ok (.iadd, 1) := by decide +kernel
theorem dX8_changes_114 : decode cX8_changes 114 = .ok (.iaload, 1) := by decide +kernel
theorem dX8_changes_115 : decode cX8_changes 115 = .ok (.aload_n 0, 1) := by decide +kernel
theorem dX8_changes_116 : decode cX8_changes 116 = .ok (.getfield 46, 3) := by decide +kernel
theorem dX8_changes_119 : decode cX8_changes 119 = .ok (.iconst 0, 1) := by decide +kernel
theorem dX8_changes_120 : decode cX8_changes 120 = .ok (.iaload, 1) := by decide +kernel
theorem dX8_changes_121 : decode cX8_changes 121 = .ok (.invokevirtual 137, 3) := by decide +kernel
theorem dX8_changes_124 : decode cX8_changes 124 = .ok (.aload_n 0, 1) := by decide +kernel
theorem dX8_changes_125 : decode cX8_changes 125 = .ok (.aload_n 0, 1) := by decide +kernel
theorem dX8_changes_126 : decode cX8_changes 126 = .ok (.getfield 46, 3) := by decide +kernel
theorem dX8_changes_129 : decode cX8_changes 129 = .ok (.iconst 1, 1) := by decide +kernel
theorem dX8_changes_130 : decode cX8_changes 130 = .ok (.iload_n 2, 1) := by decide +kernel
theorem dX8_changes_131 : decode cX8_changes 131 = .ok (.iadd, 1) := by decide +kernel
theorem dX8_changes_132 : decode cX8_changes 132 = .ok (.iaload, 1) := by decide +kernel
theorem dX8_changes_133 : decode cX8_changes 133 = .ok (.aload_n 0, 1) := by decide +kernel
theorem dX8_changes_134 : decode cX8_changes 134 = .ok (.getfield 46, 3) := by decide +kernel
theorem dX8_changes_137 : decode cX8_changes 137 = .ok (.iconst 0, 1) := by decide +kernel
theorem dX8_changes_138 : decode cX8_changes 138 = .ok (.iaload, 1) := by decide +kernel
theorem dX8_changes_139 : decode cX8_changes 139 = .ok (.invokevirtual 137, 3) := by decide +kernel
theorem dX8_changes_142 : decode cX8_changes 142 = .ok (.if_icmp .le 24, 3) := by decide +kernel
theorem dX8_changes_145 : decode cX8_changes 145 = .ok (.aload_n 0, 1) := by decide +kernel
theorem dX8_changes_146 : decode cX8_changes 146 = .ok (.getfield 46, 3) := by decide +kernel
theorem dX8_changes_149 : decode cX8_changes 149 = .ok (.iload_n 2, 1) := by decide +kernel
theorem dX8_changes_150 : decode cX8_changes 150 = .ok (.iload_n 3, 1) := by decide +kernel
theorem dX8_changes_151 : decode cX8_changes 151 = .ok (.invokestatic 133, 3) := by decide +kernel
theorem dX8_changes_154 : decode cX8_changes 154 = .ok (.goto 12, 3) := by decide +kernel
theorem dX8_changes_157 : decode cX8_changes 157 = .ok (.aload_n 0, 1) := by decide +kernel
theorem dX8_changes_158 : decode cX8_changes 158 = .ok (.getfield 46, 3) := by decide +kernel
theorem dX8_changes_161 : decode cX8_changes 161 = .ok (.iload_n 2, 1) := by decide +kernel
theorem dX8_changes_162 : decode cX8_changes 162 = .ok (.iload_n 3, 1) := by decide +kernel
theorem dX8_changes_163 : decode cX8_changes 163 = .ok (.invokestatic 133, 3) := by decide +kernel
theorem dX8_changes_166 : decode cX8_changes 166 = .ok (.return_, 1) := by decide +kernel
theorem dX8_goes_0 : decode cX8_goes 0 = .ok (.iconst 0, 1) := by decide +kernel
theorem dX8_goes_1 : decode cX8_goes 1 = .ok (.istore_n 1, 1) := by decide +kernel
theorem dX8_goes_2 : decode cX8_goes 2 = .ok (.iload_n 1, 1) := by decide +kernel
theorem dX8_goes_3 : decode cX8_goes 3 = .ok (.aload_n 0, 1) := by decide +kernel
theorem dX8_goes_4 : decode cX8_goes 4 = .ok (.getfield 73, 3) := by decide +kernel
theorem dX8_goes_7 : decode cX8_goes 7 = .ok (.if_icmp .ge 40, 3) := by decide +kernel
theorem dX8_goes_10 : decode cX8_goes 10 = .ok (.aload_n 0, 1) := by decide +kernel
theorem dX8_goes_11 : decode cX8_goes 11 = .ok (.getfield 46, 3) := by decide +kernel
theorem dX8_goes_14 : decode cX8_goes 14 = .ok (.bipush 9, 2) := by decide +kernel
theorem dX8_goes_16 : decode cX8_goes 16 = .ok (.aload_n 0, 1) := by decide +kernel
theorem dX8_goes_17 : decode cX8_goes 17 = .ok (.getfield 49, 3) := by decide +kernel
theorem dX8_goes_20 : decode cX8_goes 20 = .ok (.iload_n 1, 1) := by decide +kernel
theorem dX8_goes_21 : decode cX8_goes 21 = .ok (.iaload, 1) := by decide +kernel
theorem dX8_goes_22 : decode cX8_goes 22 = .ok (.iadd, 1) := by decide +kernel
theorem dX8_goes_23 : decode cX8_goes 23 = .ok (.iaload, 1) := by decide +kernel
theorem dX8_goes_24 : decode cX8_goes 24 = .ok (.aload_n 0, 1) := by decide +kernel
theorem dX8_goes_25 : decode cX8_goes 25 = .ok (.getfield 46, 3) := by decide +kernel
theorem dX8_goes_28 : decode cX8_goes 28 = .ok (.iconst 0, 1) := by decide +kernel
theorem dX8_goes_29 : decode cX8_goes 29 = .ok (.iaload, 1) := by decide +kernel
theorem dX8_goes_30 : decode cX8_goes 30 = .ok (.bipush 60, 2) := by decide +kernel
theorem dX8_goes_32 : decode cX8_goes 32 = .ok (.irem, 1) := by decide +kernel
theorem dX8_goes_33 : decode cX8_goes 33 = .ok (.if_icmp .ne 8, 3) := by decide +kernel
theorem dX8_goes_36 : decode cX8_goes 36 = .ok (.aload_n 0, 1) := by decide +kernel
theorem dX8_goes_37 : decode cX8_goes 37 = .ok (.iload_n 1, 1) := by decide +kernel
theorem dX8_goes_38 : decode cX8_goes 38 = .ok (.invokevirtual 141, 3) := by decide +kernel
theorem dX8_goes_41 : decode cX8_goes 41 = .ok (.iinc 1 1, 3) := by decide +kernel
theorem dX8_goes_44 : decode cX8_goes 44 = .ok (.goto (-42), 3) := by decide +kernel
theorem dX8_goes_47 : decode cX8_goes 47 = .ok (.iconst 0, 1) := by decide +kernel
theorem dX8_goes_48 : decode cX8_goes 48 = .ok (.istore_n 1, 1) := by decide +kernel
theorem dX8_goes_49 : decode cX8_goes 49 = .ok (.iconst 0, 1) := by decide +kernel
theorem dX8_goes_50 : decode cX8_goes 50 = .ok (.istore_n 2, 1) := by decide +kernel
theorem dX8_goes_51 : decode cX8_goes 51 = .ok (.iload_n 2, 1) := by decide +kernel
theorem dX8_goes_52 : decode cX8_goes 52 = .ok (.aload_n 0, 1) := by decide +kernel
theorem dX8_goes_53 : decode cX8_goes 53 = .ok (.getfield 73, 3) := by decide +kernel
theorem dX8_goes_56 : decode cX8_goes 56 = .ok (.if_icmp .ge 50, 3) := by decide +kernel
theorem dX8_goes_59 : decode cX8_goes 59 = .ok (.iload_n 1, 1) := by decide +kernel
theorem dX8_goes_60 : decode cX8_goes 60 = .ok (.aload_n 0, 1) := by decide +kernel
theorem dX8_goes_61 : decode cX8_goes 61 = .ok (.aload_n 0, 1) := by decide +kernel
theorem dX8_goes_62 : decode cX8_goes 62 = .ok (.getfield 46, 3) := by decide +kernel
theorem dX8_goes_65 : decode cX8_goes 65 = .ok (.iconst 1, 1) := by decide +kernel
theorem dX8_goes_66 : decode cX8_goes 66 = .ok (.iload_n 2, 1) := by decide +kernel
theorem dX8_goes_67 : decode cX8_goes 67 = .ok (.iadd, 1) := by decide +kernel
theorem dX8_goes_68 : decode cX8_goes 68 = .ok (.iaload, 1) := by decide +kernel
theorem dX8_goes_69 : decode cX8_goes 69 = .ok (.aload_n 0, 1) := by decide +kernel
theorem dX8_goes_70 : decode cX8_goes 70 = .ok (.getfield 46, 3) := by decide +kernel
theorem dX8_goes_73 : decode cX8_goes 73 = .ok (.iconst 0, 1) := by decide +kernel
theorem dX8_goes_74 : decode cX8_goes 74 = .ok (.iaload, 1) := by decide +kernel
theorem dX8_goes_75 : decode cX8_goes 75 = .ok (.invokevirtual 137, 3) := by decide +kernel
theorem dX8_goes_78 : decode cX8_goes 78 = .ok (.aload_n 0, 1) := by decide +kernel
theorem dX8_goes_79 : decode cX8_goes 79 = .ok (.getfield 7, 3) := by decide +kernel
theorem dX8_goes_82 : decode cX8_goes 82 = .ok (.iconst 2, 1) := by decide +kernel
theorem dX8_goes_83 : decode cX8_goes 83 = .ok (.iload_n 2, 1) := by decide +kernel
theorem dX8_goes_84 : decode cX8_goes 84 = .ok (.imul, 1) := by decide +kernel
theorem dX8_goes_85 : decode cX8_goes 85 = .ok (.iconst 1, 1) := by decide +kernel
theorem dX8_goes_86 : decode cX8_goes 86 = .ok (.iadd, 1) := by decide +kernel
theorem dX8_goes_87 : decode cX8_goes 87 = .ok (.iaload, 1) := by decide +kernel
theorem dX8_goes_88 : decode cX8_goes 88 = .ok (.if_icmp .ge 9, 3) := by decide +kernel
theorem dX8_goes_91 : decode cX8_goes 91 = .ok (.iconst 1, 1) := by decide +kernel
theorem dX8_goes_92 : decode cX8_goes 92 = .ok (.iload_n 2, 1) := by decide +kernel
theorem dX8_goes_93 : decode cX8_goes 93 = .ok (.ishl, 1) := by decide +kernel
theorem dX8_goes_94 : decode cX8_goes 94 = .ok (.goto 4, 3) := by decide +kernel
theorem dX8_goes_97 : decode cX8_goes 97 = .ok (.iconst 0, 1) := by decide +kernel
theorem dX8_goes_98 : decode cX8_goes 98 = .ok (.ior, 1) := by decide +kernel
theorem dX8_goes_99 : decode cX8_goes 99 = .ok (.istore_n 1, 1) := by decide +kernel
theorem dX8_goes_100 : decode cX8_goes 100 = .ok (.iinc 2 1, 3) := by decide +kernel
theorem dX8_goes_103 : decode cX8_goes 103 = .ok (.goto (-52), 3) := by decide +kernel
theorem dX8_goes_106 : decode cX8_goes 106 = .ok (.aload_n 0, 1) := by decide +kernel
theorem dX8_goes_107 : decode cX8_goes 107 = .ok (.getfield 46, 3) := by decide +kernel
theorem dX8_goes_110 : decode cX8_goes 110 = .ok (.iconst 0, 1) := by decide +kernel
theorem dX8_goes_111 : decode cX8_goes 111 = .ok (.dup2, 1) := by decide +kernel
theorem dX8_goes_112 : decode cX8_goes 112 = .ok (.iaload, 1) := by decide +kernel
theorem dX8_goes_113 : decode cX8_goes 113 = .ok (.iconst 1, 1) := by decide +kernel
theorem dX8_goes_114 : decode cX8_goes 114 = .ok (.iadd, 1) := by decide +kernel
theorem dX8_goes_115 : decode cX8_goes 115 = .ok (.iastore, 1) := by decide +kernel
theorem dX8_goes_116 : decode cX8_goes 116 = .ok (.iload_n 1, 1) := by decide +kernel
theorem dX8_goes_117 : decode cX8_goes 117 = .ok (.ireturn, 1) := by decide +kernel
theorem dX8_goesOn_0 : decode cX8_goesOn 0 = .ok (.iconst 0, 1) := by decide +kernel
theorem dX8_goesOn_1 : decode cX8_goesOn 1 = .ok (.istore_n 2, 1) := by decide +kernel
theorem dX8_goesOn_2 : decode cX8_goesOn 2 = .ok (.iload_n 2, 1) := by decide +kernel
theorem dX8_goesOn_3 : decode cX8_goesOn 3 = .ok (.iload_n 1, 1) := by decide +kernel
theorem dX8_goesOn_4 : decode cX8_goesOn 4 = .ok (.if_icmp .ge 14, 3) := by decide +kernel
theorem dX8_goesOn_7 : decode cX8_goesOn 7 = .ok (.aload_n 0, 1) := by decide +kernel
theorem dX8_goesOn_8 : decode cX8_goesOn 8 = .ok (.invokevirtual 145, 3) := by decide +kernel
theorem dX8_goesOn_11 : decode cX8_goesOn 11 = .ok (.pop, 1) := by decide +kernel
theorem dX8_goesOn_12 : decode cX8_goesOn 12 = .ok (.iinc 2 1, 3) := by decide +kernel
theorem dX8_goesOn_15 : decode cX8_goesOn 15 = .ok (.goto (-13), 3) := by decide +kernel
theorem dX8_goesOn_18 : decode cX8_goesOn 18 = .ok (.return_, 1) := by decide +kernel
theorem dX8_whoseNow_0 : decode cX8_whoseNow 0 = .ok (.iconst 0, 1) := by decide +kernel
theorem dX8_whoseNow_1 : decode cX8_whoseNow 1 = .ok (.istore_n 2, 1) := by decide +kernel
theorem dX8_whoseNow_2 : decode cX8_whoseNow 2 = .ok (.aload_n 0, 1) := by decide +kernel
theorem dX8_whoseNow_3 : decode cX8_whoseNow 3 = .ok (.getfield 46, 3) := by decide +kernel
theorem dX8_whoseNow_6 : decode cX8_whoseNow 6 = .ok (.iconst 1, 1) := by decide +kernel
theorem dX8_whoseNow_7 : decode cX8_whoseNow 7 = .ok (.iload_n 2, 1) := by decide +kernel
theorem dX8_whoseNow_8 : decode cX8_whoseNow 8 = .ok (.iadd, 1) := by decide +kernel
theorem dX8_whoseNow_9 : decode cX8_whoseNow 9 = .ok (.iaload, 1) := by decide +kernel
theorem dX8_whoseNow_10 : decode cX8_whoseNow 10 = .ok (.iload_n 1, 1) := by decide +kernel
theorem dX8_whoseNow_11 : decode cX8_whoseNow 11 = .ok (.if_icmp .eq 9, 3) := by decide +kernel
theorem dX8_whoseNow_14 : decode cX8_whoseNow 14 = .ok (.iinc 2 1, 3) := by decide +kernel
theorem dX8_whoseNow_17 : decode cX8_whoseNow 17 = .ok (.goto (-15), 3) := by decide +kernel
theorem dX8_whoseNow_20 : decode cX8_whoseNow 20 = .ok (.iload_n 2, 1) := by decide +kernel
theorem dX8_whoseNow_21 : decode cX8_whoseNow 21 = .ok (.ireturn, 1) := by decide +kernel
theorem dX8_sunOn_0 : decode cX8_sunOn 0 = .ok (.iconst 0, 1) := by decide +kernel
theorem dX8_sunOn_1 : decode cX8_sunOn 1 = .ok (.istore_n 3, 1) := by decide +kernel
theorem dX8_sunOn_2 : decode cX8_sunOn 2 = .ok (.iconst 0, 1) := by decide +kernel
theorem dX8_sunOn_3 : decode cX8_sunOn 3 = .ok (.istore 4, 2) := by decide +kernel
theorem dX8_sunOn_5 : decode cX8_sunOn 5 = .ok (.iload 4, 2) := by decide +kernel
theorem dX8_sunOn_7 : decode cX8_sunOn 7 = .ok (.iload_n 2, 1) := by decide +kernel
theorem dX8_sunOn_8 : decode cX8_sunOn 8 = .ok (.if_icmp .ge 37, 3) := by decide +kernel
theorem dX8_sunOn_11 : decode cX8_sunOn 11 = .ok (.aload_n 0, 1) := by decide +kernel
theorem dX8_sunOn_12 : decode cX8_sunOn 12 = .ok (.invokevirtual 145, 3) := by decide +kernel
theorem dX8_sunOn_15 : decode cX8_sunOn 15 = .ok (.pop, 1) := by decide +kernel
theorem dX8_sunOn_16 : decode cX8_sunOn 16 = .ok (.iload_n 3, 1) := by decide +kernel
theorem dX8_sunOn_17 : decode cX8_sunOn 17 = .ok (.aload_n 0, 1) := by decide +kernel
theorem dX8_sunOn_18 : decode cX8_sunOn 18 = .ok (.aload_n 0, 1) := by decide +kernel
theorem dX8_sunOn_19 : decode cX8_sunOn 19 = .ok (.getfield 46, 3) := by decide +kernel
theorem dX8_sunOn_22 : decode cX8_sunOn 22 = .ok (.iconst 1, 1) := by decide +kernel
theorem dX8_sunOn_23 : decode cX8_sunOn 23 = .ok (.iload_n 1, 1) := by decide +kernel
theorem dX8_sunOn_24 : decode cX8_sunOn 24 = .ok (.iadd, 1) := by decide +kernel
theorem dX8_sunOn_25 : decode cX8_sunOn 25 = .ok (.iaload, 1) := by decide +kernel
theorem dX8_sunOn_26 : decode cX8_sunOn 26 = .ok (.aload_n 0, 1) := by decide +kernel
theorem dX8_sunOn_27 : decode cX8_sunOn 27 = .ok (.getfield 46, 3) := by decide +kernel
theorem dX8_sunOn_30 : decode cX8_sunOn 30 = .ok (.iconst 0, 1) := by decide +kernel
theorem dX8_sunOn_31 : decode cX8_sunOn 31 = .ok (.iaload, 1) := by decide +kernel
theorem dX8_sunOn_32 : decode cX8_sunOn 32 = .ok (.iconst 1, 1) := by decide +kernel
theorem dX8_sunOn_33 : decode cX8_sunOn 33 = .ok (.isub, 1) := by decide +kernel
theorem dX8_sunOn_34 : decode cX8_sunOn 34 = .ok (.invokevirtual 137, 3) := by decide +kernel
theorem dX8_sunOn_37 : decode cX8_sunOn 37 = .ok (.iadd, 1) := by decide +kernel
theorem dX8_sunOn_38 : decode cX8_sunOn 38 = .ok (.istore_n 3, 1) := by decide +kernel
theorem dX8_sunOn_39 : decode cX8_sunOn 39 = .ok (.iinc 4 1, 3) := by decide +kernel
theorem dX8_sunOn_42 : decode cX8_sunOn 42 = .ok (.goto (-37), 3) := by decide +kernel
theorem dX8_sunOn_45 : decode cX8_sunOn 45 = .ok (.iload_n 3, 1) := by decide +kernel
theorem dX8_sunOn_46 : decode cX8_sunOn 46 = .ok (.ireturn, 1) := by decide +kernel
theorem dX8_wantOn_0 : decode cX8_wantOn 0 = .ok (.iconst 0, 1) := by decide +kernel
theorem dX8_wantOn_1 : decode cX8_wantOn 1 = .ok (.istore_n 2, 1) := by decide +kernel
theorem dX8_wantOn_2 : decode cX8_wantOn 2 = .ok (.iconst 0, 1) := by decide +kernel
theorem dX8_wantOn_3 : decode cX8_wantOn 3 = .ok (.istore_n 3, 1) := by decide +kernel
theorem dX8_wantOn_4 : decode cX8_wantOn 4 = .ok (.iload_n 3, 1) := by decide +kernel
theorem dX8_wantOn_5 : decode cX8_wantOn 5 = .ok (.iload_n 1, 1) := by decide +kernel
theorem dX8_wantOn_6 : decode cX8_wantOn 6 = .ok (.if_icmp .ge 19, 3) := by decide +kernel
theorem dX8_wantOn_9 : decode cX8_wantOn 9 = .ok (.iload_n 2, 1) := by decide +kernel
theorem dX8_wantOn_10 : decode cX8_wantOn 10 = .ok (.aload_n 0, 1) := by decide +kernel
theorem dX8_wantOn_11 : decode cX8_wantOn 11 = .ok (.invokevirtual 145, 3) := by decide +kernel
theorem dX8_wantOn_14 : decode cX8_wantOn 14 = .ok (.invokestatic 148, 3) := by decide +kernel
theorem dX8_wantOn_17 : decode cX8_wantOn 17 = .ok (.iadd, 1) := by decide +kernel
theorem dX8_wantOn_18 : decode cX8_wantOn 18 = .ok (.istore_n 2, 1) := by decide +kernel
theorem dX8_wantOn_19 : decode cX8_wantOn 19 = .ok (.iinc 3 1, 3) := by decide +kernel
theorem dX8_wantOn_22 : decode cX8_wantOn 22 = .ok (.goto (-18), 3) := by decide +kernel
theorem dX8_wantOn_25 : decode cX8_wantOn 25 = .ok (.iload_n 2, 1) := by decide +kernel
theorem dX8_wantOn_26 : decode cX8_wantOn 26 = .ok (.ireturn, 1) := by decide +kernel
theorem dX8_cousin_0 : decode cX8_cousin 0 = .ok (.aload_n 0, 1) := by decide +kernel
theorem dX8_cousin_1 : decode cX8_cousin 1 = .ok (.iload_n 1, 1) := by decide +kernel
theorem dX8_cousin_2 : decode cX8_cousin 2 = .ok (.invokevirtual 151, 3) := by decide +kernel
theorem dX8_cousin_5 : decode cX8_cousin 5 = .ok (.ifCond .eq 12, 3) := by decide +kernel
theorem dX8_cousin_8 : decode cX8_cousin 8 = .ok (.iload_n 2, 1) := by decide +kernel
theorem dX8_cousin_9 : decode cX8_cousin 9 = .ok (.iconst 0, 1) := by decide +kernel
theorem dX8_cousin_10 : decode cX8_cousin 10 = .ok (.iconst 4, 1) := by decide +kernel
theorem dX8_cousin_11 : decode cX8_cousin 11 = .ok (.invokestatic 76, 3) := by decide +kernel
theorem dX8_cousin_14 : decode cX8_cousin 14 = .ok (.ifCond .ne 5, 3) := by decide +kernel
theorem dX8_cousin_17 : decode cX8_cousin 17 = .ok (.iconst (-1), 1) := by decide +kernel
theorem dX8_cousin_18 : decode cX8_cousin 18 = .ok (.ireturn, 1) := by decide +kernel
theorem dX8_cousin_19 : decode cX8_cousin 19 = .ok (.aload_n 0, 1) := by decide +kernel
theorem dX8_cousin_20 : decode cX8_cousin 20 = .ok (.aload_n 0, 1) := by decide +kernel
theorem dX8_cousin_21 : decode cX8_cousin 21 = .ok (.getfield 16, 3) := by decide +kernel
theorem dX8_cousin_24 : decode cX8_cousin 24 = .ok (.invokevirtual 154, 3) := by decide +kernel
theorem dX8_cousin_27 : decode cX8_cousin 27 = .ok (.iload_n 2, 1) := by decide +kernel
theorem dX8_cousin_28 : decode cX8_cousin 28 = .ok (.tableswitch 71 0 3 #[32, 41, 51, 62], 32) := by decide +kernel
theorem dX8_cousin_60 : decode cX8_cousin 60 = .ok (.aload_n 0, 1) := by decide +kernel
theorem dX8_cousin_61 : decode cX8_cousin 61 = .ok (.getfield 7, 3) := by decide +kernel
theorem dX8_cousin_64 : decode cX8_cousin 64 = .ok (.iconst 2, 1) := by decide +kernel
theorem dX8_cousin_65 : decode cX8_cousin 65 = .ok (.iload_n 1, 1) := by decide +kernel
theorem dX8_cousin_66 : decode cX8_cousin 66 = .ok (.imul, 1) := by decide +kernel
theorem dX8_cousin_67 : decode cX8_cousin 67 = .ok (.iaload, 1) := by decide +kernel
theorem dX8_cousin_68 : decode cX8_cousin 68 = .ok (.ireturn, 1) := by decide +kernel
theorem dX8_cousin_69 : decode cX8_cousin 69 = .ok (.aload_n 0, 1) := by decide +kernel
theorem dX8_cousin_70 : decode cX8_cousin 70 = .ok (.getfield 16, 3) := by decide +kernel
theorem dX8_cousin_73 : decode cX8_cousin 73 = .ok (.bipush 9, 2) := by decide +kernel
theorem dX8_cousin_75 : decode cX8_cousin 75 = .ok (.iload_n 1, 1) := by decide +kernel
theorem dX8_cousin_76 : decode cX8_cousin 76 = .ok (.iadd, 1) := by decide +kernel
theorem dX8_cousin_77 : decode cX8_cousin 77 = .ok (.iaload, 1) := by decide +kernel
theorem dX8_cousin_78 : decode cX8_cousin 78 = .ok (.ireturn, 1) := by decide +kernel
theorem dX8_cousin_79 : decode cX8_cousin 79 = .ok (.aload_n 0, 1) := by decide +kernel
theorem dX8_cousin_80 : decode cX8_cousin 80 = .ok (.getfield 7, 3) := by decide +kernel
theorem dX8_cousin_83 : decode cX8_cousin 83 = .ok (.iconst 2, 1) := by decide +kernel
theorem dX8_cousin_84 : decode cX8_cousin 84 = .ok (.iload_n 1, 1) := by decide +kernel
theorem dX8_cousin_85 : decode cX8_cousin 85 = .ok (.imul, 1) := by decide +kernel
theorem dX8_cousin_86 : decode cX8_cousin 86 = .ok (.iconst 1, 1) := by decide +kernel
theorem dX8_cousin_87 : decode cX8_cousin 87 = .ok (.iadd, 1) := by decide +kernel
theorem dX8_cousin_88 : decode cX8_cousin 88 = .ok (.iaload, 1) := by decide +kernel
theorem dX8_cousin_89 : decode cX8_cousin 89 = .ok (.ireturn, 1) := by decide +kernel
theorem dX8_cousin_90 : decode cX8_cousin 90 = .ok (.aload_n 0, 1) := by decide +kernel
theorem dX8_cousin_91 : decode cX8_cousin 91 = .ok (.getfield 16, 3) := by decide +kernel
theorem dX8_cousin_94 : decode cX8_cousin 94 = .ok (.iconst 1, 1) := by decide +kernel
theorem dX8_cousin_95 : decode cX8_cousin 95 = .ok (.iload_n 1, 1) := by decide +kernel
theorem dX8_cousin_96 : decode cX8_cousin 96 = .ok (.iadd, 1) := by decide +kernel
theorem dX8_cousin_97 : decode cX8_cousin 97 = .ok (.iaload, 1) := by decide +kernel
theorem dX8_cousin_98 : decode cX8_cousin 98 = .ok (.ireturn, 1) := by decide +kernel
theorem dX8_cousin_99 : decode cX8_cousin 99 = .ok (.aload_n 0, 1) := by decide +kernel
theorem dX8_cousin_100 : decode cX8_cousin 100 = .ok (.iload_n 1, 1) := by decide +kernel
theorem dX8_cousin_101 : decode cX8_cousin 101 = .ok (.invokevirtual 130, 3) := by decide +kernel
theorem dX8_cousin_104 : decode cX8_cousin 104 = .ok (.ireturn, 1) := by decide +kernel
theorem dX8_room_0 : decode cX8_room 0 = .ok (.aload_n 0, 1) := by decide +kernel
theorem dX8_room_1 : decode cX8_room 1 = .ok (.iload_n 1, 1) := by decide +kernel
theorem dX8_room_2 : decode cX8_room 2 = .ok (.invokevirtual 151, 3) := by decide +kernel
theorem dX8_room_5 : decode cX8_room 5 = .ok (.ifCond .eq 12, 3) := by decide +kernel
theorem dX8_room_8 : decode cX8_room 8 = .ok (.iload_n 2, 1) := by decide +kernel
theorem dX8_room_9 : decode cX8_room 9 = .ok (.iconst 0, 1) := by decide +kernel
theorem dX8_room_10 : decode cX8_room 10 = .ok (.iconst 2, 1) := by decide +kernel
theorem dX8_room_11 : decode cX8_room 11 = .ok (.invokestatic 76, 3) := by decide +kernel
theorem dX8_room_14 : decode cX8_room 14 = .ok (.ifCond .ne 5, 3) := by decide +kernel
theorem dX8_room_17 : decode cX8_room 17 = .ok (.iconst (-1), 1) := by decide +kernel
theorem dX8_room_18 : decode cX8_room 18 = .ok (.ireturn, 1) := by decide +kernel
theorem dX8_room_19 : decode cX8_room 19 = .ok (.aload_n 0, 1) := by decide +kernel
theorem dX8_room_20 : decode cX8_room 20 = .ok (.aload_n 0, 1) := by decide +kernel
theorem dX8_room_21 : decode cX8_room 21 = .ok (.getfield 16, 3) := by decide +kernel
theorem dX8_room_24 : decode cX8_room 24 = .ok (.invokevirtual 154, 3) := by decide +kernel
theorem dX8_room_27 : decode cX8_room 27 = .ok (.iload_n 2, 1) := by decide +kernel
theorem dX8_room_28 : decode cX8_room 28 = .ok (.iconst 2, 1) := by decide +kernel
theorem dX8_room_29 : decode cX8_room 29 = .ok (.if_icmp .ne 11, 3) := by decide +kernel
theorem dX8_room_32 : decode cX8_room 32 = .ok (.aload_n 0, 1) := by decide +kernel
theorem dX8_room_33 : decode cX8_room 33 = .ok (.iload_n 1, 1) := by decide +kernel
theorem dX8_room_34 : decode cX8_room 34 = .ok (.invokevirtual 158, 3) := by decide +kernel
theorem dX8_room_37 : decode cX8_room 37 = .ok (.goto 13, 3) := by decide +kernel
theorem dX8_room_40 : decode cX8_room 40 = .ok (.aload_n 0, 1) := by decide +kernel
theorem dX8_room_41 : decode cX8_room 41 = .ok (.getfield 13, 3) := by decide +kernel
theorem dX8_room_44 : decode cX8_room 44 = .ok (.iconst 2, 1) := by decide +kernel
theorem dX8_room_45 : decode cX8_room 45 = .ok (.iload_n 1, 1) := by decide +kernel
theorem dX8_room_46 : decode cX8_room 46 = .ok (.imul, 1) := by decide +kernel
theorem dX8_room_47 : decode cX8_room 47 = .ok (.iload_n 2, 1) := by decide +kernel
theorem dX8_room_48 : decode cX8_room 48 = .ok (.iadd, 1) := by decide +kernel
theorem dX8_room_49 : decode cX8_room 49 = .ok (.iaload, 1) := by decide +kernel
theorem dX8_room_50 : decode cX8_room 50 = .ok (.ireturn, 1) := by decide +kernel
theorem dX8_remembers_0 : decode cX8_remembers 0 = .ok (.aload_n 0, 1) := by decide +kernel
theorem dX8_remembers_1 : decode cX8_remembers 1 = .ok (.getfield 118, 3) := by decide +kernel
theorem dX8_remembers_4 : decode cX8_remembers 4 = .ok (.bipush 8, 2) := by decide +kernel
theorem dX8_remembers_6 : decode cX8_remembers 6 = .ok (.if_icmp .ne 42, 3) := by decide +kernel
theorem dX8_remembers_9 : decode cX8_remembers 9 = .ok (.iconst 0, 1) := by decide +kernel
theorem dX8_remembers_10 : decode cX8_remembers 10 = .ok (.istore_n 1, 1) := by decide +kernel
theorem dX8_remembers_11 : decode cX8_remembers 11 = .ok (.iload_n 1, 1) := by decide +kernel
theorem dX8_remembers_12 : decode cX8_remembers 12 = .ok (.bipush 119, 2) := by decide +kernel
theorem dX8_remembers_14 : decode cX8_remembers 14 = .ok (.if_icmp .ge 24, 3) := by decide +kernel
theorem dX8_remembers_17 : decode cX8_remembers 17 = .ok (.aload_n 0, 1) := by decide +kernel
theorem dX8_remembers_18 : decode cX8_remembers 18 = .ok (.getfield 22, 3) := by decide +kernel
theorem dX8_remembers_21 : decode cX8_remembers 21 = .ok (.iload_n 1, 1) := by decide +kernel
theorem dX8_remembers_22 : decode cX8_remembers 22 = .ok (.aload_n 0, 1) := by decide +kernel
theorem dX8_remembers_23 : decode cX8_remembers 23 = .ok (.getfield 22, 3) := by decide +kernel
theorem dX8_remembers_26 : decode cX8_remembers 26 = .ok (.iload_n 1, 1) := by decide +kernel
theorem dX8_remembers_27 : decode cX8_remembers 27 = .ok (.bipush 17, 2) := by decide +kernel
theorem dX8_remembers_29 : decode cX8_remembers 29 = .ok (.iadd, 1) := by decide +kernel
theorem dX8_remembers_30 : decode cX8_remembers 30 = .ok (.iaload, 1) := by decide +kernel
theorem dX8_remembers_31 : decode cX8_remembers 31 = .ok (.iastore, 1) := by decide +kernel
theorem dX8_remembers_32 : decode cX8_remembers 32 = .ok (.iinc 1 1, 3) := by decide +kernel
theorem dX8_remembers_35 : decode cX8_remembers 35 = .ok (.goto (-24), 3) := by decide +kernel
theorem dX8_remembers_38 : decode cX8_remembers 38 = .ok (.aload_n 0, 1) := by decide +kernel
theorem dX8_remembers_39 : decode cX8_remembers 39 = .ok (.dup, 1) := by decide +kernel
theorem dX8_remembers_40 : decode cX8_remembers 40 = .ok (.getfield 118, 3) := by decide +kernel
theorem dX8_remembers_43 : decode cX8_remembers 43 = .ok (.iconst 1, 1) := by decide +kernel
theorem dX8_remembers_44 : decode cX8_remembers 44 = .ok (.isub, 1) := by decide +kernel
theorem dX8_remembers_45 : decode cX8_remembers 45 = .ok (.putfield 118, 3) := by decide +kernel
theorem dX8_remembers_48 : decode cX8_remembers 48 = .ok (.aload_n 0, 1) := by decide +kernel
theorem dX8_remembers_49 : decode cX8_remembers 49 = .ok (.getfield 22, 3) := by decide +kernel
theorem dX8_remembers_52 : decode cX8_remembers 52 = .ok (.bipush 17, 2) := by decide +kernel
theorem dX8_remembers_54 : decode cX8_remembers 54 = .ok (.aload_n 0, 1) := by decide +kernel
theorem dX8_remembers_55 : decode cX8_remembers 55 = .ok (.getfield 118, 3) := by decide +kernel
theorem dX8_remembers_58 : decode cX8_remembers 58 = .ok (.imul, 1) := by decide +kernel
theorem dX8_remembers_59 : decode cX8_remembers 59 = .ok (.aload_n 0, 1) := by decide +kernel
theorem dX8_remembers_60 : decode cX8_remembers 60 = .ok (.getfield 16, 3) := by decide +kernel
theorem dX8_remembers_63 : decode cX8_remembers 63 = .ok (.bipush 17, 2) := by decide +kernel
theorem dX8_remembers_65 : decode cX8_remembers 65 = .ok (.invokestatic 114, 3) := by decide +kernel
theorem dX8_remembers_68 : decode cX8_remembers 68 = .ok (.aload_n 0, 1) := by decide +kernel
theorem dX8_remembers_69 : decode cX8_remembers 69 = .ok (.dup, 1) := by decide +kernel
theorem dX8_remembers_70 : decode cX8_remembers 70 = .ok (.getfield 118, 3) := by decide +kernel
theorem dX8_remembers_73 : decode cX8_remembers 73 = .ok (.iconst 1, 1) := by decide +kernel
theorem dX8_remembers_74 : decode cX8_remembers 74 = .ok (.iadd, 1) := by decide +kernel
theorem dX8_remembers_75 : decode cX8_remembers 75 = .ok (.putfield 118, 3) := by decide +kernel
theorem dX8_remembers_78 : decode cX8_remembers 78 = .ok (.return_, 1) := by decide +kernel
theorem dX8_pass_0 : decode cX8_pass 0 = .ok (.iload_n 1, 1) := by decide +kernel
theorem dX8_pass_1 : decode cX8_pass 1 = .ok (.iconst 1, 1) := by decide +kernel
theorem dX8_pass_2 : decode cX8_pass 2 = .ok (.bipush 120, 2) := by decide +kernel
theorem dX8_pass_4 : decode cX8_pass 4 = .ok (.invokestatic 76, 3) := by decide +kernel
theorem dX8_pass_7 : decode cX8_pass 7 = .ok (.ifCond .ne 5, 3) := by decide +kernel
theorem dX8_pass_10 : decode cX8_pass 10 = .ok (.iconst (-1), 1) := by decide +kernel
theorem dX8_pass_11 : decode cX8_pass 11 = .ok (.ireturn, 1) := by decide +kernel
theorem dX8_pass_12 : decode cX8_pass 12 = .ok (.aload_n 0, 1) := by decide +kernel
theorem dX8_pass_13 : decode cX8_pass 13 = .ok (.getfield 16, 3) := by decide +kernel
theorem dX8_pass_16 : decode cX8_pass 16 = .ok (.iconst 0, 1) := by decide +kernel
theorem dX8_pass_17 : decode cX8_pass 17 = .ok (.iaload, 1) := by decide +kernel
theorem dX8_pass_18 : decode cX8_pass 18 = .ok (.iload_n 1, 1) := by decide +kernel
theorem dX8_pass_19 : decode cX8_pass 19 = .ok (.iadd, 1) := by decide +kernel
theorem dX8_pass_20 : decode cX8_pass 20 = .ok (.sipush 9999, 3) := by decide +kernel
theorem dX8_pass_23 : decode cX8_pass 23 = .ok (.if_icmp .le 6, 3) := by decide +kernel
theorem dX8_pass_26 : decode cX8_pass 26 = .ok (.bipush (-2), 2) := by decide +kernel
theorem dX8_pass_28 : decode cX8_pass 28 = .ok (.ireturn, 1) := by decide +kernel
theorem dX8_pass_29 : decode cX8_pass 29 = .ok (.aload_n 0, 1) := by decide +kernel
theorem dX8_pass_30 : decode cX8_pass 30 = .ok (.invokevirtual 161, 3) := by decide +kernel
theorem dX8_pass_33 : decode cX8_pass 33 = .ok (.aload_n 0, 1) := by decide +kernel
theorem dX8_pass_34 : decode cX8_pass 34 = .ok (.aload_n 0, 1) := by decide +kernel
theorem dX8_pass_35 : decode cX8_pass 35 = .ok (.getfield 16, 3) := by decide +kernel
theorem dX8_pass_38 : decode cX8_pass 38 = .ok (.invokevirtual 154, 3) := by decide +kernel
theorem dX8_pass_41 : decode cX8_pass 41 = .ok (.aload_n 0, 1) := by decide +kernel
theorem dX8_pass_42 : decode cX8_pass 42 = .ok (.iload_n 1, 1) := by decide +kernel
theorem dX8_pass_43 : decode cX8_pass 43 = .ok (.invokevirtual 164, 3) := by decide +kernel
theorem dX8_pass_46 : decode cX8_pass 46 = .ok (.aload_n 0, 1) := by decide +kernel
theorem dX8_pass_47 : decode cX8_pass 47 = .ok (.getfield 16, 3) := by decide +kernel
theorem dX8_pass_50 : decode cX8_pass 50 = .ok (.iconst 0, 1) := by decide +kernel
theorem dX8_pass_51 : decode cX8_pass 51 = .ok (.aload_n 0, 1) := by decide +kernel
theorem dX8_pass_52 : decode cX8_pass 52 = .ok (.getfield 46, 3) := by decide +kernel
theorem dX8_pass_55 : decode cX8_pass 55 = .ok (.bipush 17, 2) := by decide +kernel
theorem dX8_pass_57 : decode cX8_pass 57 = .ok (.invokestatic 114, 3) := by decide +kernel
theorem dX8_pass_60 : decode cX8_pass 60 = .ok (.aload_n 0, 1) := by decide +kernel
theorem dX8_pass_61 : decode cX8_pass 61 = .ok (.getfield 16, 3) := by decide +kernel
theorem dX8_pass_64 : decode cX8_pass 64 = .ok (.iconst 0, 1) := by decide +kernel
theorem dX8_pass_65 : decode cX8_pass 65 = .ok (.iaload, 1) := by decide +kernel
theorem dX8_pass_66 : decode cX8_pass 66 = .ok (.ireturn, 1) := by decide +kernel
theorem dX8_swap_0 : decode cX8_swap 0 = .ok (.aload_n 0, 1) := by decide +kernel
theorem dX8_swap_1 : decode cX8_swap 1 = .ok (.iload_n 1, 1) := by decide +kernel
theorem dX8_swap_2 : decode cX8_swap 2 = .ok (.invokevirtual 151, 3) := by decide +kernel
theorem dX8_swap_5 : decode cX8_swap 5 = .ok (.ifCond .eq 16, 3) := by decide +kernel
theorem dX8_swap_8 : decode cX8_swap 8 = .ok (.aload_n 0, 1) := by decide +kernel
theorem dX8_swap_9 : decode cX8_swap 9 = .ok (.iload_n 2, 1) := by decide +kernel
theorem dX8_swap_10 : decode cX8_swap 10 = .ok (.invokevirtual 151, 3) := by decide +kernel
theorem dX8_swap_13 : decode cX8_swap 13 = .ok (.ifCond .eq 8, 3) := by decide +kernel
theorem dX8_swap_16 : decode cX8_swap 16 = .ok (.iload_n 1, 1) := by decide +kernel
theorem dX8_swap_17 : decode cX8_swap 17 = .ok (.iload_n 2, 1) := by decide +kernel
theorem dX8_swap_18 : decode cX8_swap 18 = .ok (.if_icmp .ne 5, 3) := by decide +kernel
theorem dX8_swap_21 : decode cX8_swap 21 = .ok (.iconst (-1), 1) := by decide +kernel
theorem dX8_swap_22 : decode cX8_swap 22 = .ok (.ireturn, 1) := by decide +kernel
theorem dX8_swap_23 : decode cX8_swap 23 = .ok (.aload_n 0, 1) := by decide +kernel
theorem dX8_swap_24 : decode cX8_swap 24 = .ok (.invokevirtual 161, 3) := by decide +kernel
theorem dX8_swap_27 : decode cX8_swap 27 = .ok (.aload_n 0, 1) := by decide +kernel
theorem dX8_swap_28 : decode cX8_swap 28 = .ok (.getfield 16, 3) := by decide +kernel
theorem dX8_swap_31 : decode cX8_swap 31 = .ok (.iload_n 1, 1) := by decide +kernel
theorem dX8_swap_32 : decode cX8_swap 32 = .ok (.iload_n 2, 1) := by decide +kernel
theorem dX8_swap_33 : decode cX8_swap 33 = .ok (.invokestatic 133, 3) := by decide +kernel
theorem dX8_swap_36 : decode cX8_swap 36 = .ok (.aload_n 0, 1) := by decide +kernel
theorem dX8_swap_37 : decode cX8_swap 37 = .ok (.getfield 16, 3) := by decide +kernel
theorem dX8_swap_40 : decode cX8_swap 40 = .ok (.iconst 1, 1) := by decide +kernel
theorem dX8_swap_41 : decode cX8_swap 41 = .ok (.iload_n 1, 1) := by decide +kernel
theorem dX8_swap_42 : decode cX8_swap 42 = .ok (.iadd, 1) := by decide +kernel
theorem dX8_swap_43 : decode cX8_swap 43 = .ok (.iaload, 1) := by decide +kernel
theorem dX8_swap_44 : decode cX8_swap 44 = .ok (.ireturn, 1) := by decide +kernel
theorem dX8_swapped_0 : decode cX8_swapped 0 = .ok (.aload_n 0, 1) := by decide +kernel
theorem dX8_swapped_1 : decode cX8_swapped 1 = .ok (.iconst 1, 1) := by decide +kernel
theorem dX8_swapped_2 : decode cX8_swapped 2 = .ok (.iload_n 1, 1) := by decide +kernel
theorem dX8_swapped_3 : decode cX8_swapped 3 = .ok (.iadd, 1) := by decide +kernel
theorem dX8_swapped_4 : decode cX8_swapped 4 = .ok (.iaload, 1) := by decide +kernel
theorem dX8_swapped_5 : decode cX8_swapped 5 = .ok (.istore_n 3, 1) := by decide +kernel
theorem dX8_swapped_6 : decode cX8_swapped 6 = .ok (.aload_n 0, 1) := by decide +kernel
theorem dX8_swapped_7 : decode cX8_swapped 7 = .ok (.iconst 1, 1) := by decide +kernel
theorem dX8_swapped_8 : decode cX8_swapped 8 = .ok (.iload_n 1, 1) := by decide +kernel
theorem dX8_swapped_9 : decode cX8_swapped 9 = .ok (.iadd, 1) := by decide +kernel
theorem dX8_swapped_10 : decode cX8_swapped 10 = .ok (.aload_n 0, 1) := by decide +kernel
theorem dX8_swapped_11 : decode cX8_swapped 11 = .ok (.iconst 1, 1) := by decide +kernel
theorem dX8_swapped_12 : decode cX8_swapped 12 = .ok (.iload_n 2, 1) := by decide +kernel
theorem dX8_swapped_13 : decode cX8_swapped 13 = .ok (.iadd, 1) := by decide +kernel
theorem dX8_swapped_14 : decode cX8_swapped 14 = .ok (.iaload, 1) := by decide +kernel
theorem dX8_swapped_15 : decode cX8_swapped 15 = .ok (.iastore, 1) := by decide +kernel
theorem dX8_swapped_16 : decode cX8_swapped 16 = .ok (.aload_n 0, 1) := by decide +kernel
theorem dX8_swapped_17 : decode cX8_swapped 17 = .ok (.iconst 1, 1) := by decide +kernel
theorem dX8_swapped_18 : decode cX8_swapped 18 = .ok (.iload_n 2, 1) := by decide +kernel
theorem dX8_swapped_19 : decode cX8_swapped 19 = .ok (.iadd, 1) := by decide +kernel
theorem dX8_swapped_20 : decode cX8_swapped 20 = .ok (.iload_n 3, 1) := by decide +kernel
theorem dX8_swapped_21 : decode cX8_swapped 21 = .ok (.iastore, 1) := by decide +kernel
theorem dX8_swapped_22 : decode cX8_swapped 22 = .ok (.return_, 1) := by decide +kernel
theorem dX8_alter_0 : decode cX8_alter 0 = .ok (.aload_n 0, 1) := by decide +kernel
theorem dX8_alter_1 : decode cX8_alter 1 = .ok (.iload_n 1, 1) := by decide +kernel
theorem dX8_alter_2 : decode cX8_alter 2 = .ok (.invokevirtual 151, 3) := by decide +kernel
theorem dX8_alter_5 : decode cX8_alter 5 = .ok (.ifCond .eq 13, 3) := by decide +kernel
theorem dX8_alter_8 : decode cX8_alter 8 = .ok (.iload_n 2, 1) := by decide +kernel
theorem dX8_alter_9 : decode cX8_alter 9 = .ok (.iconst 0, 1) := by decide +kernel
theorem dX8_alter_10 : decode cX8_alter 10 = .ok (.bipush 59, 2) := by decide +kernel
theorem dX8_alter_12 : decode cX8_alter 12 = .ok (.invokestatic 76, 3) := by decide +kernel
theorem dX8_alter_15 : decode cX8_alter 15 = .ok (.ifCond .ne 5, 3) := by decide +kernel
theorem dX8_alter_18 : decode cX8_alter 18 = .ok (.iconst (-1), 1) := by decide +kernel
theorem dX8_alter_19 : decode cX8_alter 19 = .ok (.ireturn, 1) := by decide +kernel
theorem dX8_alter_20 : decode cX8_alter 20 = .ok (.aload_n 0, 1) := by decide +kernel
theorem dX8_alter_21 : decode cX8_alter 21 = .ok (.invokevirtual 161, 3) := by decide +kernel
theorem dX8_alter_24 : decode cX8_alter 24 = .ok (.aload_n 0, 1) := by decide +kernel
theorem dX8_alter_25 : decode cX8_alter 25 = .ok (.getfield 16, 3) := by decide +kernel
theorem dX8_alter_28 : decode cX8_alter 28 = .ok (.bipush 9, 2) := by decide +kernel
theorem dX8_alter_30 : decode cX8_alter 30 = .ok (.iload_n 1, 1) := by decide +kernel
theorem dX8_alter_31 : decode cX8_alter 31 = .ok (.iadd, 1) := by decide +kernel
theorem dX8_alter_32 : decode cX8_alter 32 = .ok (.iaload, 1) := by decide +kernel
theorem dX8_alter_33 : decode cX8_alter 33 = .ok (.istore_n 3, 1) := by decide +kernel
theorem dX8_alter_34 : decode cX8_alter 34 = .ok (.aload_n 0, 1) := by decide +kernel
theorem dX8_alter_35 : decode cX8_alter 35 = .ok (.getfield 16, 3) := by decide +kernel
theorem dX8_alter_38 : decode cX8_alter 38 = .ok (.bipush 9, 2) := by decide +kernel
theorem dX8_alter_40 : decode cX8_alter 40 = .ok (.iload_n 1, 1) := by decide +kernel
theorem dX8_alter_41 : decode cX8_alter 41 = .ok (.iadd, 1) := by decide +kernel
theorem dX8_alter_42 : decode cX8_alter 42 = .ok (.iload_n 2, 1) := by decide +kernel
theorem dX8_alter_43 : decode cX8_alter 43 = .ok (.iastore, 1) := by decide +kernel
theorem dX8_alter_44 : decode cX8_alter 44 = .ok (.iload_n 3, 1) := by decide +kernel
theorem dX8_alter_45 : decode cX8_alter 45 = .ok (.ireturn, 1) := by decide +kernel
theorem dX8_undo_0 : decode cX8_undo 0 = .ok (.aload_n 0, 1) := by decide +kernel
theorem dX8_undo_1 : decode cX8_undo 1 = .ok (.getfield 118, 3) := by decide +kernel
theorem dX8_undo_4 : decode cX8_undo 4 = .ok (.ifCond .ne 6, 3) := by decide +kernel
theorem dX8_undo_7 : decode cX8_undo 7 = .ok (.bipush (-2), 2) := by decide +kernel
theorem dX8_undo_9 : decode cX8_undo 9 = .ok (.ireturn, 1) := by decide +kernel
theorem dX8_undo_10 : decode cX8_undo 10 = .ok (.aload_n 0, 1) := by decide +kernel
theorem dX8_undo_11 : decode cX8_undo 11 = .ok (.dup, 1) := by decide +kernel
theorem dX8_undo_12 : decode cX8_undo 12 = .ok (.getfield 118, 3) := by decide +kernel
theorem dX8_undo_15 : decode cX8_undo 15 = .ok (.iconst 1, 1) := by decide +kernel
theorem dX8_undo_16 : decode cX8_undo 16 = .ok (.isub, 1) := by decide +kernel
theorem dX8_undo_17 : decode cX8_undo 17 = .ok (.putfield 118, 3) := by decide +kernel
theorem dX8_undo_20 : decode cX8_undo 20 = .ok (.iconst 0, 1) := by decide +kernel
theorem dX8_undo_21 : decode cX8_undo 21 = .ok (.istore_n 1, 1) := by decide +kernel
theorem dX8_undo_22 : decode cX8_undo 22 = .ok (.iload_n 1, 1) := by decide +kernel
theorem dX8_undo_23 : decode cX8_undo 23 = .ok (.bipush 17, 2) := by decide +kernel
theorem dX8_undo_25 : decode cX8_undo 25 = .ok (.if_icmp .ge 29, 3) := by decide +kernel
theorem dX8_undo_28 : decode cX8_undo 28 = .ok (.aload_n 0, 1) := by decide +kernel
theorem dX8_undo_29 : decode cX8_undo 29 = .ok (.getfield 16, 3) := by decide +kernel
theorem dX8_undo_32 : decode cX8_undo 32 = .ok (.iload_n 1, 1) := by decide +kernel
theorem dX8_undo_33 : decode cX8_undo 33 = .ok (.aload_n 0, 1) := by decide +kernel
theorem dX8_undo_34 : decode cX8_undo 34 = .ok (.getfield 22, 3) := by decide +kernel
theorem dX8_undo_37 : decode cX8_undo 37 = .ok (.bipush 17, 2) := by decide +kernel
theorem dX8_undo_39 : decode cX8_undo 39 = .ok (.aload_n 0, 1) := by decide +kernel
theorem dX8_undo_40 : decode cX8_undo 40 = .ok (.getfield 118, 3) := by decide +kernel
theorem dX8_undo_43 : decode cX8_undo 43 = .ok (.imul, 1) := by decide +kernel
theorem dX8_undo_44 : decode cX8_undo 44 = .ok (.iload_n 1, 1) := by decide +kernel
theorem dX8_undo_45 : decode cX8_undo 45 = .ok (.iadd, 1) := by decide +kernel
theorem dX8_undo_46 : decode cX8_undo 46 = .ok (.iaload, 1) := by decide +kernel
theorem dX8_undo_47 : decode cX8_undo 47 = .ok (.iastore, 1) := by decide +kernel
theorem dX8_undo_48 : decode cX8_undo 48 = .ok (.iinc 1 1, 3) := by decide +kernel
theorem dX8_undo_51 : decode cX8_undo 51 = .ok (.goto (-29), 3) := by decide +kernel
theorem dX8_undo_54 : decode cX8_undo 54 = .ok (.aload_n 0, 1) := by decide +kernel
theorem dX8_undo_55 : decode cX8_undo 55 = .ok (.getfield 118, 3) := by decide +kernel
theorem dX8_undo_58 : decode cX8_undo 58 = .ok (.ireturn, 1) := by decide +kernel
theorem dX8_has_0 : decode cX8_has 0 = .ok (.aload_n 0, 1) := by decide +kernel
theorem dX8_has_1 : decode cX8_has 1 = .ok (.iload_n 1, 1) := by decide +kernel
theorem dX8_has_2 : decode cX8_has 2 = .ok (.invokevirtual 151, 3) := by decide +kernel
theorem dX8_has_5 : decode cX8_has 5 = .ok (.ifCond .eq 13, 3) := by decide +kernel
theorem dX8_has_8 : decode cX8_has 8 = .ok (.iload_n 2, 1) := by decide +kernel
theorem dX8_has_9 : decode cX8_has 9 = .ok (.iconst 0, 1) := by decide +kernel
theorem dX8_has_10 : decode cX8_has 10 = .ok (.bipush 120, 2) := by decide +kernel
theorem dX8_has_12 : decode cX8_has 12 = .ok (.invokestatic 76, 3) := by decide +kernel
theorem dX8_has_15 : decode cX8_has 15 = .ok (.ifCond .ne 5, 3) := by decide +kernel
theorem dX8_has_18 : decode cX8_has 18 = .ok (.iconst (-1), 1) := by decide +kernel
theorem dX8_has_19 : decode cX8_has 19 = .ok (.ireturn, 1) := by decide +kernel
theorem dX8_has_20 : decode cX8_has 20 = .ok (.aload_n 0, 1) := by decide +kernel
theorem dX8_has_21 : decode cX8_has 21 = .ok (.aload_n 0, 1) := by decide +kernel
theorem dX8_has_22 : decode cX8_has 22 = .ok (.getfield 16, 3) := by decide +kernel
theorem dX8_has_25 : decode cX8_has 25 = .ok (.invokevirtual 154, 3) := by decide +kernel
theorem dX8_has_28 : decode cX8_has 28 = .ok (.aload_n 0, 1) := by decide +kernel
theorem dX8_has_29 : decode cX8_has 29 = .ok (.iload_n 2, 1) := by decide +kernel
theorem dX8_has_30 : decode cX8_has 30 = .ok (.iconst 1, 1) := by decide +kernel
theorem dX8_has_31 : decode cX8_has 31 = .ok (.iadd, 1) := by decide +kernel
theorem dX8_has_32 : decode cX8_has 32 = .ok (.invokevirtual 164, 3) := by decide +kernel
theorem dX8_has_35 : decode cX8_has 35 = .ok (.aload_n 0, 1) := by decide +kernel
theorem dX8_has_36 : decode cX8_has 36 = .ok (.getfield 46, 3) := by decide +kernel
theorem dX8_has_39 : decode cX8_has 39 = .ok (.iconst 1, 1) := by decide +kernel
theorem dX8_has_40 : decode cX8_has 40 = .ok (.iload_n 1, 1) := by decide +kernel
theorem dX8_has_41 : decode cX8_has 41 = .ok (.iadd, 1) := by decide +kernel
theorem dX8_has_42 : decode cX8_has 42 = .ok (.iaload, 1) := by decide +kernel
theorem dX8_has_43 : decode cX8_has 43 = .ok (.ireturn, 1) := by decide +kernel
theorem dX8_whose_0 : decode cX8_whose 0 = .ok (.aload_n 0, 1) := by decide +kernel
theorem dX8_whose_1 : decode cX8_whose 1 = .ok (.iload_n 1, 1) := by decide +kernel
theorem dX8_whose_2 : decode cX8_whose 2 = .ok (.invokevirtual 151, 3) := by decide +kernel
theorem dX8_whose_5 : decode cX8_whose 5 = .ok (.ifCond .eq 13, 3) := by decide +kernel
theorem dX8_whose_8 : decode cX8_whose 8 = .ok (.iload_n 2, 1) := by decide +kernel
theorem dX8_whose_9 : decode cX8_whose 9 = .ok (.iconst 0, 1) := by decide +kernel
theorem dX8_whose_10 : decode cX8_whose 10 = .ok (.bipush 120, 2) := by decide +kernel
theorem dX8_whose_12 : decode cX8_whose 12 = .ok (.invokestatic 76, 3) := by decide +kernel
theorem dX8_whose_15 : decode cX8_whose 15 = .ok (.ifCond .ne 5, 3) := by decide +kernel
theorem dX8_whose_18 : decode cX8_whose 18 = .ok (.iconst (-1), 1) := by decide +kernel
theorem dX8_whose_19 : decode cX8_whose 19 = .ok (.ireturn, 1) := by decide +kernel
theorem dX8_whose_20 : decode cX8_whose 20 = .ok (.aload_n 0, 1) := by decide +kernel
theorem dX8_whose_21 : decode cX8_whose 21 = .ok (.aload_n 0, 1) := by decide +kernel
theorem dX8_whose_22 : decode cX8_whose 22 = .ok (.getfield 16, 3) := by decide +kernel
theorem dX8_whose_25 : decode cX8_whose 25 = .ok (.invokevirtual 154, 3) := by decide +kernel
theorem dX8_whose_28 : decode cX8_whose 28 = .ok (.aload_n 0, 1) := by decide +kernel
theorem dX8_whose_29 : decode cX8_whose 29 = .ok (.iload_n 2, 1) := by decide +kernel
theorem dX8_whose_30 : decode cX8_whose 30 = .ok (.iconst 1, 1) := by decide +kernel
theorem dX8_whose_31 : decode cX8_whose 31 = .ok (.iadd, 1) := by decide +kernel
theorem dX8_whose_32 : decode cX8_whose 32 = .ok (.invokevirtual 164, 3) := by decide +kernel
theorem dX8_whose_35 : decode cX8_whose 35 = .ok (.aload_n 0, 1) := by decide +kernel
theorem dX8_whose_36 : decode cX8_whose 36 = .ok (.iload_n 1, 1) := by decide +kernel
theorem dX8_whose_37 : decode cX8_whose 37 = .ok (.invokevirtual 158, 3) := by decide +kernel
theorem dX8_whose_40 : decode cX8_whose 40 = .ok (.ireturn, 1) := by decide +kernel
theorem dX8_sun_0 : decode cX8_sun 0 = .ok (.aload_n 0, 1) := by decide +kernel
theorem dX8_sun_1 : decode cX8_sun 1 = .ok (.iload_n 1, 1) := by decide +kernel
theorem dX8_sun_2 : decode cX8_sun 2 = .ok (.invokevirtual 151, 3) := by decide +kernel
theorem dX8_sun_5 : decode cX8_sun 5 = .ok (.ifCond .eq 13, 3) := by decide +kernel
theorem dX8_sun_8 : decode cX8_sun 8 = .ok (.iload_n 2, 1) := by decide +kernel
theorem dX8_sun_9 : decode cX8_sun 9 = .ok (.iconst 1, 1) := by decide +kernel
theorem dX8_sun_10 : decode cX8_sun 10 = .ok (.bipush 120, 2) := by decide +kernel
theorem dX8_sun_12 : decode cX8_sun 12 = .ok (.invokestatic 76, 3) := by decide +kernel
theorem dX8_sun_15 : decode cX8_sun 15 = .ok (.ifCond .ne 5, 3) := by decide +kernel
theorem dX8_sun_18 : decode cX8_sun 18 = .ok (.iconst (-1), 1) := by decide +kernel
theorem dX8_sun_19 : decode cX8_sun 19 = .ok (.ireturn, 1) := by decide +kernel
theorem dX8_sun_20 : decode cX8_sun 20 = .ok (.aload_n 0, 1) := by decide +kernel
theorem dX8_sun_21 : decode cX8_sun 21 = .ok (.aload_n 0, 1) := by decide +kernel
theorem dX8_sun_22 : decode cX8_sun 22 = .ok (.getfield 16, 3) := by decide +kernel
theorem dX8_sun_25 : decode cX8_sun 25 = .ok (.invokevirtual 154, 3) := by decide +kernel
theorem dX8_sun_28 : decode cX8_sun 28 = .ok (.aload_n 0, 1) := by decide +kernel
theorem dX8_sun_29 : decode cX8_sun 29 = .ok (.iload_n 1, 1) := by decide +kernel
theorem dX8_sun_30 : decode cX8_sun 30 = .ok (.iload_n 2, 1) := by decide +kernel
theorem dX8_sun_31 : decode cX8_sun 31 = .ok (.invokevirtual 167, 3) := by decide +kernel
theorem dX8_sun_34 : decode cX8_sun 34 = .ok (.ireturn, 1) := by decide +kernel
theorem dX8_cold_0 : decode cX8_cold 0 = .ok (.iload_n 1, 1) := by decide +kernel
theorem dX8_cold_1 : decode cX8_cold 1 = .ok (.iconst 0, 1) := by decide +kernel
theorem dX8_cold_2 : decode cX8_cold 2 = .ok (.bipush 120, 2) := by decide +kernel
theorem dX8_cold_4 : decode cX8_cold 4 = .ok (.invokestatic 76, 3) := by decide +kernel
theorem dX8_cold_7 : decode cX8_cold 7 = .ok (.ifCond .ne 5, 3) := by decide +kernel
theorem dX8_cold_10 : decode cX8_cold 10 = .ok (.iconst (-1), 1) := by decide +kernel
theorem dX8_cold_11 : decode cX8_cold 11 = .ok (.ireturn, 1) := by decide +kernel
theorem dX8_cold_12 : decode cX8_cold 12 = .ok (.aload_n 0, 1) := by decide +kernel
theorem dX8_cold_13 : decode cX8_cold 13 = .ok (.aload_n 0, 1) := by decide +kernel
theorem dX8_cold_14 : decode cX8_cold 14 = .ok (.getfield 16, 3) := by decide +kernel
theorem dX8_cold_17 : decode cX8_cold 17 = .ok (.invokevirtual 154, 3) := by decide +kernel
theorem dX8_cold_20 : decode cX8_cold 20 = .ok (.aload_n 0, 1) := by decide +kernel
theorem dX8_cold_21 : decode cX8_cold 21 = .ok (.iload_n 1, 1) := by decide +kernel
theorem dX8_cold_22 : decode cX8_cold 22 = .ok (.invokevirtual 164, 3) := by decide +kernel
theorem dX8_cold_25 : decode cX8_cold 25 = .ok (.aload_n 0, 1) := by decide +kernel
theorem dX8_cold_26 : decode cX8_cold 26 = .ok (.invokevirtual 145, 3) := by decide +kernel
theorem dX8_cold_29 : decode cX8_cold 29 = .ok (.ireturn, 1) := by decide +kernel
theorem dX8_want_0 : decode cX8_want 0 = .ok (.iload_n 1, 1) := by decide +kernel
theorem dX8_want_1 : decode cX8_want 1 = .ok (.iconst 1, 1) := by decide +kernel
theorem dX8_want_2 : decode cX8_want 2 = .ok (.bipush 120, 2) := by decide +kernel
theorem dX8_want_4 : decode cX8_want 4 = .ok (.invokestatic 76, 3) := by decide +kernel
theorem dX8_want_7 : decode cX8_want 7 = .ok (.ifCond .ne 5, 3) := by decide +kernel
theorem dX8_want_10 : decode cX8_want 10 = .ok (.iconst (-1), 1) := by decide +kernel
theorem dX8_want_11 : decode cX8_want 11 = .ok (.ireturn, 1) := by decide +kernel
theorem dX8_want_12 : decode cX8_want 12 = .ok (.aload_n 0, 1) := by decide +kernel
theorem dX8_want_13 : decode cX8_want 13 = .ok (.aload_n 0, 1) := by decide +kernel
theorem dX8_want_14 : decode cX8_want 14 = .ok (.getfield 16, 3) := by decide +kernel
theorem dX8_want_17 : decode cX8_want 17 = .ok (.invokevirtual 154, 3) := by decide +kernel
theorem dX8_want_20 : decode cX8_want 20 = .ok (.aload_n 0, 1) := by decide +kernel
theorem dX8_want_21 : decode cX8_want 21 = .ok (.iload_n 1, 1) := by decide +kernel
theorem dX8_want_22 : decode cX8_want 22 = .ok (.invokevirtual 170, 3) := by decide +kernel
theorem dX8_want_25 : decode cX8_want 25 = .ok (.ireturn, 1) := by decide +kernel
theorem dX8_isPair_0 : decode cX8_isPair 0 = .ok (.iload_n 0, 1) := by decide +kernel
theorem dX8_isPair_1 : decode cX8_isPair 1 = .ok (.bipush 8, 2) := by decide +kernel
theorem dX8_isPair_3 : decode cX8_isPair 3 = .ok (.idiv, 1) := by decide +kernel
theorem dX8_isPair_4 : decode cX8_isPair 4 = .ok (.iload_n 0, 1) := by decide +kernel
theorem dX8_isPair_5 : decode cX8_isPair 5 = .ok (.bipush 8, 2) := by decide +kernel
theorem dX8_isPair_7 : decode cX8_isPair 7 = .ok (.irem, 1) := by decide +kernel
theorem dX8_isPair_8 : decode cX8_isPair 8 = .ok (.if_icmp .ge 15, 3) := by decide +kernel
theorem dX8_isPair_11 : decode cX8_isPair 11 = .ok (.iload_n 0, 1) := by decide +kernel
theorem dX8_isPair_12 : decode cX8_isPair 12 = .ok (.bipush 8, 2) := by decide +kernel
theorem dX8_isPair_14 : decode cX8_isPair 14 = .ok (.irem, 1) := by decide +kernel
theorem dX8_isPair_15 : decode cX8_isPair 15 = .ok (.iload_n 1, 1) := by decide +kernel
theorem dX8_isPair_16 : decode cX8_isPair 16 = .ok (.if_icmp .ge 7, 3) := by decide +kernel
theorem dX8_isPair_19 : decode cX8_isPair 19 = .ok (.iconst 1, 1) := by decide +kernel
theorem dX8_isPair_20 : decode cX8_isPair 20 = .ok (.goto 4, 3) := by decide +kernel
theorem dX8_isPair_23 : decode cX8_isPair 23 = .ok (.iconst 0, 1) := by decide +kernel
theorem dX8_isPair_24 : decode cX8_isPair 24 = .ok (.ireturn, 1) := by decide +kernel
theorem dX8_triesSwaps_0 : decode cX8_triesSwaps 0 = .ok (.aload_n 0, 1) := by decide +kernel
theorem dX8_triesSwaps_1 : decode cX8_triesSwaps 1 = .ok (.aload_n 0, 1) := by decide +kernel
theorem dX8_triesSwaps_2 : decode cX8_triesSwaps 2 = .ok (.getfield 16, 3) := by decide +kernel
theorem dX8_triesSwaps_5 : decode cX8_triesSwaps 5 = .ok (.invokevirtual 154, 3) := by decide +kernel
theorem dX8_triesSwaps_8 : decode cX8_triesSwaps 8 = .ok (.iload_n 3, 1) := by decide +kernel
theorem dX8_triesSwaps_9 : decode cX8_triesSwaps 9 = .ok (.ifCond .lt 18, 3) := by decide +kernel
theorem dX8_triesSwaps_12 : decode cX8_triesSwaps 12 = .ok (.aload_n 0, 1) := by decide +kernel
theorem dX8_triesSwaps_13 : decode cX8_triesSwaps 13 = .ok (.getfield 46, 3) := by decide +kernel
theorem dX8_triesSwaps_16 : decode cX8_triesSwaps 16 = .ok (.iload_n 3, 1) := by decide +kernel
theorem dX8_triesSwaps_17 : decode cX8_triesSwaps 17 = .ok (.bipush 8, 2) := by decide +kernel
theorem dX8_triesSwaps_19 : decode cX8_triesSwaps 19 = .ok (.idiv, 1) := by decide +kernel
theorem dX8_triesSwaps_20 : decode cX8_triesSwaps 20 = .ok (.iload_n 3, 1) := by decide +kernel
theorem dX8_triesSwaps_21 : decode cX8_triesSwaps 21 = .ok (.bipush 8, 2) := by decide +kernel
theorem dX8_triesSwaps_23 : decode cX8_triesSwaps 23 = .ok (.irem, 1) := by decide +kernel
theorem dX8_triesSwaps_24 : decode cX8_triesSwaps 24 = .ok (.invokestatic 133, 3) := by decide +kernel
theorem dX8_triesSwaps_27 : decode cX8_triesSwaps 27 = .ok (.iload 4, 2) := by decide +kernel
theorem dX8_triesSwaps_29 : decode cX8_triesSwaps 29 = .ok (.ifCond .lt 20, 3) := by decide +kernel
theorem dX8_triesSwaps_32 : decode cX8_triesSwaps 32 = .ok (.aload_n 0, 1) := by decide +kernel
theorem dX8_triesSwaps_33 : decode cX8_triesSwaps 33 = .ok (.getfield 46, 3) := by decide +kernel
theorem dX8_triesSwaps_36 : decode cX8_triesSwaps 36 = .ok (.iload 4, 2) := by decide +kernel
theorem dX8_triesSwaps_38 : decode cX8_triesSwaps 38 = .ok (.bipush 8, 2) := by decide +kernel
theorem dX8_triesSwaps_40 : decode cX8_triesSwaps 40 = .ok (.idiv, 1) := by decide +kernel
theorem dX8_triesSwaps_41 : decode cX8_triesSwaps 41 = .ok (.iload 4, 2) := by decide +kernel
theorem dX8_triesSwaps_43 : decode cX8_triesSwaps 43 = .ok (.bipush 8, 2) := by decide +kernel
