theorem dX8_triesSwaps_45 : decode cX8_triesSwaps 45 = .ok (.irem, 1) := by decide +kernel
theorem dX8_triesSwaps_46 : decode cX8_triesSwaps 46 = .ok (.invokestatic 133, 3) := by decide +kernel
theorem dX8_triesSwaps_49 : decode cX8_triesSwaps 49 = .ok (.aload_n 0, 1) := by decide +kernel
theorem dX8_triesSwaps_50 : decode cX8_triesSwaps 50 = .ok (.iload_n 1, 1) := by decide +kernel
theorem dX8_triesSwaps_51 : decode cX8_triesSwaps 51 = .ok (.iload_n 2, 1) := by decide +kernel
theorem dX8_triesSwaps_52 : decode cX8_triesSwaps 52 = .ok (.invokevirtual 167, 3) := by decide +kernel
theorem dX8_triesSwaps_55 : decode cX8_triesSwaps 55 = .ok (.istore 5, 2) := by decide +kernel
theorem dX8_triesSwaps_57 : decode cX8_triesSwaps 57 = .ok (.iload 5, 2) := by decide +kernel
theorem dX8_triesSwaps_59 : decode cX8_triesSwaps 59 = .ok (.aload_n 0, 1) := by decide +kernel
theorem dX8_triesSwaps_60 : decode cX8_triesSwaps 60 = .ok (.getfield 173, 3) := by decide +kernel
theorem dX8_triesSwaps_63 : decode cX8_triesSwaps 63 = .ok (.if_icmp .le 20, 3) := by decide +kernel
theorem dX8_triesSwaps_66 : decode cX8_triesSwaps 66 = .ok (.aload_n 0, 1) := by decide +kernel
theorem dX8_triesSwaps_67 : decode cX8_triesSwaps 67 = .ok (.iload 5, 2) := by decide +kernel
theorem dX8_triesSwaps_69 : decode cX8_triesSwaps 69 = .ok (.putfield 173, 3) := by decide +kernel
theorem dX8_triesSwaps_72 : decode cX8_triesSwaps 72 = .ok (.aload_n 0, 1) := by decide +kernel
theorem dX8_triesSwaps_73 : decode cX8_triesSwaps 73 = .ok (.iload_n 3, 1) := by decide +kernel
theorem dX8_triesSwaps_74 : decode cX8_triesSwaps 74 = .ok (.putfield 176, 3) := by decide +kernel
theorem dX8_triesSwaps_77 : decode cX8_triesSwaps 77 = .ok (.aload_n 0, 1) := by decide +kernel
theorem dX8_triesSwaps_78 : decode cX8_triesSwaps 78 = .ok (.iload 4, 2) := by decide +kernel
theorem dX8_triesSwaps_80 : decode cX8_triesSwaps 80 = .ok (.putfield 179, 3) := by decide +kernel
theorem dX8_triesSwaps_83 : decode cX8_triesSwaps 83 = .ok (.return_, 1) := by decide +kernel
theorem dX8_swaps_0 : decode cX8_swaps 0 = .ok (.aload_n 0, 1) := by decide +kernel
theorem dX8_swaps_1 : decode cX8_swaps 1 = .ok (.iload_n 1, 1) := by decide +kernel
theorem dX8_swaps_2 : decode cX8_swaps 2 = .ok (.invokevirtual 151, 3) := by decide +kernel
theorem dX8_swaps_5 : decode cX8_swaps 5 = .ok (.ifCond .eq 22, 3) := by decide +kernel
theorem dX8_swaps_8 : decode cX8_swaps 8 = .ok (.iload_n 2, 1) := by decide +kernel
theorem dX8_swaps_9 : decode cX8_swaps 9 = .ok (.iconst 1, 1) := by decide +kernel
theorem dX8_swaps_10 : decode cX8_swaps 10 = .ok (.bipush 60, 2) := by decide +kernel
theorem dX8_swaps_12 : decode cX8_swaps 12 = .ok (.invokestatic 76, 3) := by decide +kernel
theorem dX8_swaps_15 : decode cX8_swaps 15 = .ok (.ifCond .eq 12, 3) := by decide +kernel
theorem dX8_swaps_18 : decode cX8_swaps 18 = .ok (.iload_n 3, 1) := by decide +kernel
theorem dX8_swaps_19 : decode cX8_swaps 19 = .ok (.iconst 0, 1) := by decide +kernel
theorem dX8_swaps_20 : decode cX8_swaps 20 = .ok (.iconst 2, 1) := by decide +kernel
theorem dX8_swaps_21 : decode cX8_swaps 21 = .ok (.invokestatic 76, 3) := by decide +kernel
theorem dX8_swaps_24 : decode cX8_swaps 24 = .ok (.ifCond .ne 5, 3) := by decide +kernel
theorem dX8_swaps_27 : decode cX8_swaps 27 = .ok (.iconst (-1), 1) := by decide +kernel
theorem dX8_swaps_28 : decode cX8_swaps 28 = .ok (.ireturn, 1) := by decide +kernel
theorem dX8_swaps_29 : decode cX8_swaps 29 = .ok (.aload_n 0, 1) := by decide +kernel
theorem dX8_swaps_30 : decode cX8_swaps 30 = .ok (.iconst (-1), 1) := by decide +kernel
theorem dX8_swaps_31 : decode cX8_swaps 31 = .ok (.putfield 173, 3) := by decide +kernel
theorem dX8_swaps_34 : decode cX8_swaps 34 = .ok (.aload_n 0, 1) := by decide +kernel
theorem dX8_swaps_35 : decode cX8_swaps 35 = .ok (.iload_n 1, 1) := by decide +kernel
theorem dX8_swaps_36 : decode cX8_swaps 36 = .ok (.iload_n 2, 1) := by decide +kernel
theorem dX8_swaps_37 : decode cX8_swaps 37 = .ok (.bipush (-4), 2) := by decide +kernel
theorem dX8_swaps_39 : decode cX8_swaps 39 = .ok (.bipush (-4), 2) := by decide +kernel
theorem dX8_swaps_41 : decode cX8_swaps 41 = .ok (.invokevirtual 182, 3) := by decide +kernel
theorem dX8_swaps_44 : decode cX8_swaps 44 = .ok (.iconst 0, 1) := by decide +kernel
theorem dX8_swaps_45 : decode cX8_swaps 45 = .ok (.istore 4, 2) := by decide +kernel
theorem dX8_swaps_47 : decode cX8_swaps 47 = .ok (.iload 4, 2) := by decide +kernel
theorem dX8_swaps_49 : decode cX8_swaps 49 = .ok (.bipush 64, 2) := by decide +kernel
theorem dX8_swaps_51 : decode cX8_swaps 51 = .ok (.if_icmp .ge 31, 3) := by decide +kernel
theorem dX8_swaps_54 : decode cX8_swaps 54 = .ok (.iload 4, 2) := by decide +kernel
theorem dX8_swaps_56 : decode cX8_swaps 56 = .ok (.aload_n 0, 1) := by decide +kernel
theorem dX8_swaps_57 : decode cX8_swaps 57 = .ok (.getfield 73, 3) := by decide +kernel
theorem dX8_swaps_60 : decode cX8_swaps 60 = .ok (.invokestatic 186, 3) := by decide +kernel
theorem dX8_swaps_63 : decode cX8_swaps 63 = .ok (.ifCond .eq 13, 3) := by decide +kernel
theorem dX8_swaps_66 : decode cX8_swaps 66 = .ok (.aload_n 0, 1) := by decide +kernel
theorem dX8_swaps_67 : decode cX8_swaps 67 = .ok (.iload_n 1, 1) := by decide +kernel
theorem dX8_swaps_68 : decode cX8_swaps 68 = .ok (.iload_n 2, 1) := by decide +kernel
theorem dX8_swaps_69 : decode cX8_swaps 69 = .ok (.iload 4, 2) := by decide +kernel
theorem dX8_swaps_71 : decode cX8_swaps 71 = .ok (.bipush (-4), 2) := by decide +kernel
theorem dX8_swaps_73 : decode cX8_swaps 73 = .ok (.invokevirtual 182, 3) := by decide +kernel
theorem dX8_swaps_76 : decode cX8_swaps 76 = .ok (.iinc 4 1, 3) := by decide +kernel
theorem dX8_swaps_79 : decode cX8_swaps 79 = .ok (.goto (-32), 3) := by decide +kernel
theorem dX8_swaps_82 : decode cX8_swaps 82 = .ok (.iconst 0, 1) := by decide +kernel
theorem dX8_swaps_83 : decode cX8_swaps 83 = .ok (.istore 4, 2) := by decide +kernel
theorem dX8_swaps_85 : decode cX8_swaps 85 = .ok (.iload 4, 2) := by decide +kernel
theorem dX8_swaps_87 : decode cX8_swaps 87 = .ok (.sipush 4096, 3) := by decide +kernel
theorem dX8_swaps_90 : decode cX8_swaps 90 = .ok (.if_icmp .ge 55, 3) := by decide +kernel
theorem dX8_swaps_93 : decode cX8_swaps 93 = .ok (.iload 4, 2) := by decide +kernel
theorem dX8_swaps_95 : decode cX8_swaps 95 = .ok (.bipush 64, 2) := by decide +kernel
theorem dX8_swaps_97 : decode cX8_swaps 97 = .ok (.idiv, 1) := by decide +kernel
theorem dX8_swaps_98 : decode cX8_swaps 98 = .ok (.aload_n 0, 1) := by decide +kernel
theorem dX8_swaps_99 : decode cX8_swaps 99 = .ok (.getfield 73, 3) := by decide +kernel
theorem dX8_swaps_102 : decode cX8_swaps 102 = .ok (.invokestatic 186, 3) := by decide +kernel
theorem dX8_swaps_105 : decode cX8_swaps 105 = .ok (.ifCond .eq 34, 3) := by decide +kernel
theorem dX8_swaps_108 : decode cX8_swaps 108 = .ok (.iload 4, 2) := by decide +kernel
theorem dX8_swaps_110 : decode cX8_swaps 110 = .ok (.bipush 64, 2) := by decide +kernel
theorem dX8_swaps_112 : decode cX8_swaps 112 = .ok (.irem, 1) := by decide +kernel
theorem dX8_swaps_113 : decode cX8_swaps 113 = .ok (.aload_n 0, 1) := by decide +kernel
theorem dX8_swaps_114 : decode cX8_swaps 114 = .ok (.getfield 73, 3) := by decide +kernel
theorem dX8_swaps_117 : decode cX8_swaps 117 = .ok (.invokestatic 186, 3) := by decide +kernel
theorem dX8_swaps_120 : decode cX8_swaps 120 = .ok (.ifCond .eq 19, 3) := by decide +kernel
theorem dX8_swaps_123 : decode cX8_swaps 123 = .ok (.aload_n 0, 1) := by decide +kernel
theorem dX8_swaps_124 : decode cX8_swaps 124 = .ok (.iload_n 1, 1) := by decide +kernel
theorem dX8_swaps_125 : decode cX8_swaps 125 = .ok (.iload_n 2, 1) := by decide +kernel
theorem dX8_swaps_126 : decode cX8_swaps 126 = .ok (.iload 4, 2) := by decide +kernel
theorem dX8_swaps_128 : decode cX8_swaps 128 = .ok (.bipush 64, 2) := by decide +kernel
theorem dX8_swaps_130 : decode cX8_swaps 130 = .ok (.idiv, 1) := by decide +kernel
theorem dX8_swaps_131 : decode cX8_swaps 131 = .ok (.iload 4, 2) := by decide +kernel
theorem dX8_swaps_133 : decode cX8_swaps 133 = .ok (.bipush 64, 2) := by decide +kernel
theorem dX8_swaps_135 : decode cX8_swaps 135 = .ok (.irem, 1) := by decide +kernel
theorem dX8_swaps_136 : decode cX8_swaps 136 = .ok (.invokevirtual 182, 3) := by decide +kernel
theorem dX8_swaps_139 : decode cX8_swaps 139 = .ok (.iinc 4 1, 3) := by decide +kernel
theorem dX8_swaps_142 : decode cX8_swaps 142 = .ok (.goto (-57), 3) := by decide +kernel
theorem dX8_swaps_145 : decode cX8_swaps 145 = .ok (.iload_n 3, 1) := by decide +kernel
theorem dX8_swaps_146 : decode cX8_swaps 146 = .ok (.ifCond .ne 10, 3) := by decide +kernel
theorem dX8_swaps_149 : decode cX8_swaps 149 = .ok (.aload_n 0, 1) := by decide +kernel
theorem dX8_swaps_150 : decode cX8_swaps 150 = .ok (.getfield 173, 3) := by decide +kernel
theorem dX8_swaps_153 : decode cX8_swaps 153 = .ok (.goto 19, 3) := by decide +kernel
theorem dX8_swaps_156 : decode cX8_swaps 156 = .ok (.iload_n 3, 1) := by decide +kernel
theorem dX8_swaps_157 : decode cX8_swaps 157 = .ok (.iconst 1, 1) := by decide +kernel
theorem dX8_swaps_158 : decode cX8_swaps 158 = .ok (.if_icmp .ne 10, 3) := by decide +kernel
theorem dX8_swaps_161 : decode cX8_swaps 161 = .ok (.aload_n 0, 1) := by decide +kernel
theorem dX8_swaps_162 : decode cX8_swaps 162 = .ok (.getfield 176, 3) := by decide +kernel
theorem dX8_swaps_165 : decode cX8_swaps 165 = .ok (.goto 7, 3) := by decide +kernel
theorem dX8_swaps_168 : decode cX8_swaps 168 = .ok (.aload_n 0, 1) := by decide +kernel
theorem dX8_swaps_169 : decode cX8_swaps 169 = .ok (.getfield 179, 3) := by decide +kernel
theorem dX8_swaps_172 : decode cX8_swaps 172 = .ok (.ireturn, 1) := by decide +kernel
theorem dX8_warm_0 : decode cX8_warm 0 = .ok (.iload_n 1, 1) := by decide +kernel
theorem dX8_warm_1 : decode cX8_warm 1 = .ok (.iconst 1, 1) := by decide +kernel
theorem dX8_warm_2 : decode cX8_warm 2 = .ok (.bipush 60, 2) := by decide +kernel
theorem dX8_warm_4 : decode cX8_warm 4 = .ok (.invokestatic 76, 3) := by decide +kernel
theorem dX8_warm_7 : decode cX8_warm 7 = .ok (.ifCond .eq 12, 3) := by decide +kernel
theorem dX8_warm_10 : decode cX8_warm 10 = .ok (.iload_n 2, 1) := by decide +kernel
theorem dX8_warm_11 : decode cX8_warm 11 = .ok (.iconst 0, 1) := by decide +kernel
theorem dX8_warm_12 : decode cX8_warm 12 = .ok (.iconst 1, 1) := by decide +kernel
theorem dX8_warm_13 : decode cX8_warm 13 = .ok (.invokestatic 76, 3) := by decide +kernel
theorem dX8_warm_16 : decode cX8_warm 16 = .ok (.ifCond .ne 5, 3) := by decide +kernel
theorem dX8_warm_19 : decode cX8_warm 19 = .ok (.iconst (-1), 1) := by decide +kernel
theorem dX8_warm_20 : decode cX8_warm 20 = .ok (.ireturn, 1) := by decide +kernel
theorem dX8_warm_21 : decode cX8_warm 21 = .ok (.aload_n 0, 1) := by decide +kernel
theorem dX8_warm_22 : decode cX8_warm 22 = .ok (.aload_n 0, 1) := by decide +kernel
theorem dX8_warm_23 : decode cX8_warm 23 = .ok (.getfield 16, 3) := by decide +kernel
theorem dX8_warm_26 : decode cX8_warm 26 = .ok (.invokevirtual 154, 3) := by decide +kernel
theorem dX8_warm_29 : decode cX8_warm 29 = .ok (.aload_n 0, 1) := by decide +kernel
theorem dX8_warm_30 : decode cX8_warm 30 = .ok (.iload_n 1, 1) := by decide +kernel
theorem dX8_warm_31 : decode cX8_warm 31 = .ok (.invokevirtual 170, 3) := by decide +kernel
theorem dX8_warm_34 : decode cX8_warm 34 = .ok (.istore_n 3, 1) := by decide +kernel
theorem dX8_warm_35 : decode cX8_warm 35 = .ok (.bipush (-4), 2) := by decide +kernel
theorem dX8_warm_37 : decode cX8_warm 37 = .ok (.istore 4, 2) := by decide +kernel
theorem dX8_warm_39 : decode cX8_warm 39 = .ok (.iconst 0, 1) := by decide +kernel
theorem dX8_warm_40 : decode cX8_warm 40 = .ok (.istore 5, 2) := by decide +kernel
theorem dX8_warm_42 : decode cX8_warm 42 = .ok (.iload 5, 2) := by decide +kernel
theorem dX8_warm_44 : decode cX8_warm 44 = .ok (.bipush 64, 2) := by decide +kernel
theorem dX8_warm_46 : decode cX8_warm 46 = .ok (.if_icmp .ge 81, 3) := by decide +kernel
theorem dX8_warm_49 : decode cX8_warm 49 = .ok (.iload 5, 2) := by decide +kernel
theorem dX8_warm_51 : decode cX8_warm 51 = .ok (.aload_n 0, 1) := by decide +kernel
theorem dX8_warm_52 : decode cX8_warm 52 = .ok (.getfield 73, 3) := by decide +kernel
theorem dX8_warm_55 : decode cX8_warm 55 = .ok (.invokestatic 186, 3) := by decide +kernel
theorem dX8_warm_58 : decode cX8_warm 58 = .ok (.ifCond .eq 63, 3) := by decide +kernel
theorem dX8_warm_61 : decode cX8_warm 61 = .ok (.aload_n 0, 1) := by decide +kernel
theorem dX8_warm_62 : decode cX8_warm 62 = .ok (.aload_n 0, 1) := by decide +kernel
theorem dX8_warm_63 : decode cX8_warm 63 = .ok (.getfield 16, 3) := by decide +kernel
theorem dX8_warm_66 : decode cX8_warm 66 = .ok (.invokevirtual 154, 3) := by decide +kernel
theorem dX8_warm_69 : decode cX8_warm 69 = .ok (.aload_n 0, 1) := by decide +kernel
theorem dX8_warm_70 : decode cX8_warm 70 = .ok (.getfield 46, 3) := by decide +kernel
theorem dX8_warm_73 : decode cX8_warm 73 = .ok (.iload 5, 2) := by decide +kernel
theorem dX8_warm_75 : decode cX8_warm 75 = .ok (.bipush 8, 2) := by decide +kernel
theorem dX8_warm_77 : decode cX8_warm 77 = .ok (.idiv, 1) := by decide +kernel
theorem dX8_warm_78 : decode cX8_warm 78 = .ok (.iload 5, 2) := by decide +kernel
theorem dX8_warm_80 : decode cX8_warm 80 = .ok (.bipush 8, 2) := by decide +kernel
theorem dX8_warm_82 : decode cX8_warm 82 = .ok (.irem, 1) := by decide +kernel
theorem dX8_warm_83 : decode cX8_warm 83 = .ok (.invokestatic 133, 3) := by decide +kernel
theorem dX8_warm_86 : decode cX8_warm 86 = .ok (.aload_n 0, 1) := by decide +kernel
theorem dX8_warm_87 : decode cX8_warm 87 = .ok (.iload_n 1, 1) := by decide +kernel
theorem dX8_warm_88 : decode cX8_warm 88 = .ok (.invokevirtual 170, 3) := by decide +kernel
theorem dX8_warm_91 : decode cX8_warm 91 = .ok (.istore 6, 2) := by decide +kernel
theorem dX8_warm_93 : decode cX8_warm 93 = .ok (.iload 6, 2) := by decide +kernel
theorem dX8_warm_95 : decode cX8_warm 95 = .ok (.iload_n 3, 1) := by decide +kernel
theorem dX8_warm_96 : decode cX8_warm 96 = .ok (.if_icmp .ge 8, 3) := by decide +kernel
theorem dX8_warm_99 : decode cX8_warm 99 = .ok (.iload 5, 2) := by decide +kernel
theorem dX8_warm_101 : decode cX8_warm 101 = .ok (.goto 5, 3) := by decide +kernel
theorem dX8_warm_104 : decode cX8_warm 104 = .ok (.iload 4, 2) := by decide +kernel
theorem dX8_warm_106 : decode cX8_warm 106 = .ok (.istore 4, 2) := by decide +kernel
theorem dX8_warm_108 : decode cX8_warm 108 = .ok (.iload 6, 2) := by decide +kernel
theorem dX8_warm_110 : decode cX8_warm 110 = .ok (.iload_n 3, 1) := by decide +kernel
theorem dX8_warm_111 : decode cX8_warm 111 = .ok (.if_icmp .ge 8, 3) := by decide +kernel
theorem dX8_warm_114 : decode cX8_warm 114 = .ok (.iload 6, 2) := by decide +kernel
theorem dX8_warm_116 : decode cX8_warm 116 = .ok (.goto 4, 3) := by decide +kernel
theorem dX8_warm_119 : decode cX8_warm 119 = .ok (.iload_n 3, 1) := by decide +kernel
theorem dX8_warm_120 : decode cX8_warm 120 = .ok (.istore_n 3, 1) := by decide +kernel
theorem dX8_warm_121 : decode cX8_warm 121 = .ok (.iinc 5 1, 3) := by decide +kernel
theorem dX8_warm_124 : decode cX8_warm 124 = .ok (.goto (-82), 3) := by decide +kernel
theorem dX8_warm_127 : decode cX8_warm 127 = .ok (.iload_n 2, 1) := by decide +kernel
theorem dX8_warm_128 : decode cX8_warm 128 = .ok (.ifCond .ne 7, 3) := by decide +kernel
theorem dX8_warm_131 : decode cX8_warm 131 = .ok (.iload_n 3, 1) := by decide +kernel
theorem dX8_warm_132 : decode cX8_warm 132 = .ok (.goto 5, 3) := by decide +kernel
theorem dX8_warm_135 : decode cX8_warm 135 = .ok (.iload 4, 2) := by decide +kernel
theorem dX8_warm_137 : decode cX8_warm 137 = .ok (.ireturn, 1) := by decide +kernel
theorem dX8_canHave_0 : decode cX8_canHave 0 = .ok (.aload_n 0, 1) := by decide +kernel
theorem dX8_canHave_1 : decode cX8_canHave 1 = .ok (.iload_n 1, 1) := by decide +kernel
theorem dX8_canHave_2 : decode cX8_canHave 2 = .ok (.invokevirtual 151, 3) := by decide +kernel
theorem dX8_canHave_5 : decode cX8_canHave 5 = .ok (.ifCond .eq 13, 3) := by decide +kernel
theorem dX8_canHave_8 : decode cX8_canHave 8 = .ok (.iload_n 2, 1) := by decide +kernel
theorem dX8_canHave_9 : decode cX8_canHave 9 = .ok (.iconst 0, 1) := by decide +kernel
theorem dX8_canHave_10 : decode cX8_canHave 10 = .ok (.bipush 120, 2) := by decide +kernel
theorem dX8_canHave_12 : decode cX8_canHave 12 = .ok (.invokestatic 76, 3) := by decide +kernel
theorem dX8_canHave_15 : decode cX8_canHave 15 = .ok (.ifCond .ne 5, 3) := by decide +kernel
theorem dX8_canHave_18 : decode cX8_canHave 18 = .ok (.iconst (-1), 1) := by decide +kernel
theorem dX8_canHave_19 : decode cX8_canHave 19 = .ok (.ireturn, 1) := by decide +kernel
theorem dX8_canHave_20 : decode cX8_canHave 20 = .ok (.aload_n 0, 1) := by decide +kernel
theorem dX8_canHave_21 : decode cX8_canHave 21 = .ok (.aload_n 0, 1) := by decide +kernel
theorem dX8_canHave_22 : decode cX8_canHave 22 = .ok (.getfield 16, 3) := by decide +kernel
theorem dX8_canHave_25 : decode cX8_canHave 25 = .ok (.invokevirtual 154, 3) := by decide +kernel
theorem dX8_canHave_28 : decode cX8_canHave 28 = .ok (.aload_n 0, 1) := by decide +kernel
theorem dX8_canHave_29 : decode cX8_canHave 29 = .ok (.iload_n 2, 1) := by decide +kernel
theorem dX8_canHave_30 : decode cX8_canHave 30 = .ok (.iconst 1, 1) := by decide +kernel
theorem dX8_canHave_31 : decode cX8_canHave 31 = .ok (.iadd, 1) := by decide +kernel
theorem dX8_canHave_32 : decode cX8_canHave 32 = .ok (.invokevirtual 164, 3) := by decide +kernel
theorem dX8_canHave_35 : decode cX8_canHave 35 = .ok (.iconst 1, 1) := by decide +kernel
theorem dX8_canHave_36 : decode cX8_canHave 36 = .ok (.aload_n 0, 1) := by decide +kernel
theorem dX8_canHave_37 : decode cX8_canHave 37 = .ok (.iload_n 1, 1) := by decide +kernel
theorem dX8_canHave_38 : decode cX8_canHave 38 = .ok (.invokevirtual 158, 3) := by decide +kernel
theorem dX8_canHave_41 : decode cX8_canHave 41 = .ok (.ishl, 1) := by decide +kernel
theorem dX8_canHave_42 : decode cX8_canHave 42 = .ok (.istore_n 3, 1) := by decide +kernel
theorem dX8_canHave_43 : decode cX8_canHave 43 = .ok (.iconst 0, 1) := by decide +kernel
theorem dX8_canHave_44 : decode cX8_canHave 44 = .ok (.istore 4, 2) := by decide +kernel
theorem dX8_canHave_46 : decode cX8_canHave 46 = .ok (.iload 4, 2) := by decide +kernel
theorem dX8_canHave_48 : decode cX8_canHave 48 = .ok (.bipush 64, 2) := by decide +kernel
theorem dX8_canHave_50 : decode cX8_canHave 50 = .ok (.if_icmp .ge 63, 3) := by decide +kernel
theorem dX8_canHave_53 : decode cX8_canHave 53 = .ok (.iload 4, 2) := by decide +kernel
theorem dX8_canHave_55 : decode cX8_canHave 55 = .ok (.aload_n 0, 1) := by decide +kernel
theorem dX8_canHave_56 : decode cX8_canHave 56 = .ok (.getfield 73, 3) := by decide +kernel
theorem dX8_canHave_59 : decode cX8_canHave 59 = .ok (.invokestatic 186, 3) := by decide +kernel
theorem dX8_canHave_62 : decode cX8_canHave 62 = .ok (.ifCond .eq 45, 3) := by decide +kernel
theorem dX8_canHave_65 : decode cX8_canHave 65 = .ok (.aload_n 0, 1) := by decide +kernel
theorem dX8_canHave_66 : decode cX8_canHave 66 = .ok (.aload_n 0, 1) := by decide +kernel
theorem dX8_canHave_67 : decode cX8_canHave 67 = .ok (.getfield 16, 3) := by decide +kernel
theorem dX8_canHave_70 : decode cX8_canHave 70 = .ok (.invokevirtual 154, 3) := by decide +kernel
theorem dX8_canHave_73 : decode cX8_canHave 73 = .ok (.aload_n 0, 1) := by decide +kernel
theorem dX8_canHave_74 : decode cX8_canHave 74 = .ok (.getfield 46, 3) := by decide +kernel
theorem dX8_canHave_77 : decode cX8_canHave 77 = .ok (.iload 4, 2) := by decide +kernel
theorem dX8_canHave_79 : decode cX8_canHave 79 = .ok (.bipush 8, 2) := by decide +kernel
theorem dX8_canHave_81 : decode cX8_canHave 81 = .ok (.idiv, 1) := by decide +kernel
theorem dX8_canHave_82 : decode cX8_canHave 82 = .ok (.iload 4, 2) := by decide +kernel
theorem dX8_canHave_84 : decode cX8_canHave 84 = .ok (.bipush 8, 2) := by decide +kernel
theorem dX8_canHave_86 : decode cX8_canHave 86 = .ok (.irem, 1) := by decide +kernel
theorem dX8_canHave_87 : decode cX8_canHave 87 = .ok (.invokestatic 133, 3) := by decide +kernel
theorem dX8_canHave_90 : decode cX8_canHave 90 = .ok (.aload_n 0, 1) := by decide +kernel
theorem dX8_canHave_91 : decode cX8_canHave 91 = .ok (.iload_n 2, 1) := by decide +kernel
theorem dX8_canHave_92 : decode cX8_canHave 92 = .ok (.iconst 1, 1) := by decide +kernel
theorem dX8_canHave_93 : decode cX8_canHave 93 = .ok (.iadd, 1) := by decide +kernel
theorem dX8_canHave_94 : decode cX8_canHave 94 = .ok (.invokevirtual 164, 3) := by decide +kernel
theorem dX8_canHave_97 : decode cX8_canHave 97 = .ok (.iload_n 3, 1) := by decide +kernel
theorem dX8_canHave_98 : decode cX8_canHave 98 = .ok (.iconst 1, 1) := by decide +kernel
theorem dX8_canHave_99 : decode cX8_canHave 99 = .ok (.aload_n 0, 1) := by decide +kernel
theorem dX8_canHave_100 : decode cX8_canHave 100 = .ok (.iload_n 1, 1) := by decide +kernel
theorem dX8_canHave_101 : decode cX8_canHave 101 = .ok (.invokevirtual 158, 3) := by decide +kernel
theorem dX8_canHave_104 : decode cX8_canHave 104 = .ok (.ishl, 1) := by decide +kernel
theorem dX8_canHave_105 : decode cX8_canHave 105 = .ok (.ior, 1) := by decide +kernel
theorem dX8_canHave_106 : decode cX8_canHave 106 = .ok (.istore_n 3, 1) := by decide +kernel
theorem dX8_canHave_107 : decode cX8_canHave 107 = .ok (.iinc 4 1, 3) := by decide +kernel
theorem dX8_canHave_110 : decode cX8_canHave 110 = .ok (.goto (-64), 3) := by decide +kernel
theorem dX8_canHave_113 : decode cX8_canHave 113 = .ok (.iload_n 3, 1) := by decide +kernel
theorem dX8_canHave_114 : decode cX8_canHave 114 = .ok (.ireturn, 1) := by decide +kernel
theorem dX8_round_0 : decode cX8_round 0 = .ok (.aload_n 0, 1) := by decide +kernel
theorem dX8_round_1 : decode cX8_round 1 = .ok (.aload_n 0, 1) := by decide +kernel
theorem dX8_round_2 : decode cX8_round 2 = .ok (.getfield 16, 3) := by decide +kernel
theorem dX8_round_5 : decode cX8_round 5 = .ok (.invokevirtual 154, 3) := by decide +kernel
theorem dX8_round_8 : decode cX8_round 8 = .ok (.iconst 1, 1) := by decide +kernel
theorem dX8_round_9 : decode cX8_round 9 = .ok (.istore_n 1, 1) := by decide +kernel
theorem dX8_round_10 : decode cX8_round 10 = .ok (.iload_n 1, 1) := by decide +kernel
theorem dX8_round_11 : decode cX8_round 11 = .ok (.iconst 4, 1) := by decide +kernel
theorem dX8_round_12 : decode cX8_round 12 = .ok (.if_icmp .gt 73, 3) := by decide +kernel
theorem dX8_round_15 : decode cX8_round 15 = .ok (.aload_n 0, 1) := by decide +kernel
theorem dX8_round_16 : decode cX8_round 16 = .ok (.sipush 240, 3) := by decide +kernel
theorem dX8_round_19 : decode cX8_round 19 = .ok (.invokevirtual 164, 3) := by decide +kernel
theorem dX8_round_22 : decode cX8_round 22 = .ok (.iconst 1, 1) := by decide +kernel
theorem dX8_round_23 : decode cX8_round 23 = .ok (.istore_n 2, 1) := by decide +kernel
theorem dX8_round_24 : decode cX8_round 24 = .ok (.iconst 0, 1) := by decide +kernel
theorem dX8_round_25 : decode cX8_round 25 = .ok (.istore_n 3, 1) := by decide +kernel
theorem dX8_round_26 : decode cX8_round 26 = .ok (.iload_n 3, 1) := by decide +kernel
theorem dX8_round_27 : decode cX8_round 27 = .ok (.aload_n 0, 1) := by decide +kernel
theorem dX8_round_28 : decode cX8_round 28 = .ok (.getfield 73, 3) := by decide +kernel
theorem dX8_round_31 : decode cX8_round 31 = .ok (.if_icmp .ge 38, 3) := by decide +kernel
theorem dX8_round_34 : decode cX8_round 34 = .ok (.iload_n 2, 1) := by decide +kernel
theorem dX8_round_35 : decode cX8_round 35 = .ok (.ifCond .eq 26, 3) := by decide +kernel
theorem dX8_round_38 : decode cX8_round 38 = .ok (.aload_n 0, 1) := by decide +kernel
theorem dX8_round_39 : decode cX8_round 39 = .ok (.getfield 46, 3) := by decide +kernel
theorem dX8_round_42 : decode cX8_round 42 = .ok (.iconst 1, 1) := by decide +kernel
theorem dX8_round_43 : decode cX8_round 43 = .ok (.iload_n 3, 1) := by decide +kernel
theorem dX8_round_44 : decode cX8_round 44 = .ok (.iadd, 1) := by decide +kernel
theorem dX8_round_45 : decode cX8_round 45 = .ok (.iaload, 1) := by decide +kernel
theorem dX8_round_46 : decode cX8_round 46 = .ok (.aload_n 0, 1) := by decide +kernel
theorem dX8_round_47 : decode cX8_round 47 = .ok (.getfield 16, 3) := by decide +kernel
theorem dX8_round_50 : decode cX8_round 50 = .ok (.iconst 1, 1) := by decide +kernel
theorem dX8_round_51 : decode cX8_round 51 = .ok (.iload_n 3, 1) := by decide +kernel
theorem dX8_round_52 : decode cX8_round 52 = .ok (.iadd, 1) := by decide +kernel
theorem dX8_round_53 : decode cX8_round 53 = .ok (.iaload, 1) := by decide +kernel
theorem dX8_round_54 : decode cX8_round 54 = .ok (.if_icmp .ne 7, 3) := by decide +kernel
theorem dX8_round_57 : decode cX8_round 57 = .ok (.iconst 1, 1) := by decide +kernel
theorem dX8_round_58 : decode cX8_round 58 = .ok (.goto 4, 3) := by decide +kernel
theorem dX8_round_61 : decode cX8_round 61 = .ok (.iconst 0, 1) := by decide +kernel
theorem dX8_round_62 : decode cX8_round 62 = .ok (.istore_n 2, 1) := by decide +kernel
theorem dX8_round_63 : decode cX8_round 63 = .ok (.iinc 3 1, 3) := by decide +kernel
theorem dX8_round_66 : decode cX8_round 66 = .ok (.goto (-40), 3) := by decide +kernel
theorem dX8_round_69 : decode cX8_round 69 = .ok (.iload_n 2, 1) := by decide +kernel
theorem dX8_round_70 : decode cX8_round 70 = .ok (.ifCond .eq 9, 3) := by decide +kernel
theorem dX8_round_73 : decode cX8_round 73 = .ok (.sipush 240, 3) := by decide +kernel
theorem dX8_round_76 : decode cX8_round 76 = .ok (.iload_n 1, 1) := by decide +kernel
theorem dX8_round_77 : decode cX8_round 77 = .ok (.imul, 1) := by decide +kernel
theorem dX8_round_78 : decode cX8_round 78 = .ok (.ireturn, 1) := by decide +kernel
theorem dX8_round_79 : decode cX8_round 79 = .ok (.iinc 1 1, 3) := by decide +kernel
theorem dX8_round_82 : decode cX8_round 82 = .ok (.goto (-72), 3) := by decide +kernel
theorem dX8_round_85 : decode cX8_round 85 = .ok (.bipush (-4), 2) := by decide +kernel
theorem dX8_round_87 : decode cX8_round 87 = .ok (.ireturn, 1) := by decide +kernel
theorem dX8_wayBy_0 : decode cX8_wayBy 0 = .ok (.iconst 0, 1) := by decide +kernel
theorem dX8_wayBy_1 : decode cX8_wayBy 1 = .ok (.istore 4, 2) := by decide +kernel
theorem dX8_wayBy_3 : decode cX8_wayBy 3 = .ok (.iload_n 1, 1) := by decide +kernel
theorem dX8_wayBy_4 : decode cX8_wayBy 4 = .ok (.iload_n 3, 1) := by decide +kernel
theorem dX8_wayBy_5 : decode cX8_wayBy 5 = .ok (.iadd, 1) := by decide +kernel
theorem dX8_wayBy_6 : decode cX8_wayBy 6 = .ok (.aload_n 0, 1) := by decide +kernel
theorem dX8_wayBy_7 : decode cX8_wayBy 7 = .ok (.getfield 73, 3) := by decide +kernel
theorem dX8_wayBy_10 : decode cX8_wayBy 10 = .ok (.iadd, 1) := by decide +kernel
theorem dX8_wayBy_11 : decode cX8_wayBy 11 = .ok (.aload_n 0, 1) := by decide +kernel
theorem dX8_wayBy_12 : decode cX8_wayBy 12 = .ok (.getfield 73, 3) := by decide +kernel
theorem dX8_wayBy_15 : decode cX8_wayBy 15 = .ok (.irem, 1) := by decide +kernel
theorem dX8_wayBy_16 : decode cX8_wayBy 16 = .ok (.istore 5, 2) := by decide +kernel
theorem dX8_wayBy_18 : decode cX8_wayBy 18 = .ok (.iload 5, 2) := by decide +kernel
theorem dX8_wayBy_20 : decode cX8_wayBy 20 = .ok (.iload_n 2, 1) := by decide +kernel
theorem dX8_wayBy_21 : decode cX8_wayBy 21 = .ok (.if_icmp .eq 42, 3) := by decide +kernel
theorem dX8_wayBy_24 : decode cX8_wayBy 24 = .ok (.iload 4, 2) := by decide +kernel
theorem dX8_wayBy_26 : decode cX8_wayBy 26 = .ok (.aload_n 0, 1) := by decide +kernel
theorem dX8_wayBy_27 : decode cX8_wayBy 27 = .ok (.getfield 7, 3) := by decide +kernel
theorem dX8_wayBy_30 : decode cX8_wayBy 30 = .ok (.iconst 2, 1) := by decide +kernel
theorem dX8_wayBy_31 : decode cX8_wayBy 31 = .ok (.aload_n 0, 1) := by decide +kernel
theorem dX8_wayBy_32 : decode cX8_wayBy 32 = .ok (.iload 5, 2) := by decide +kernel
theorem dX8_wayBy_34 : decode cX8_wayBy 34 = .ok (.invokevirtual 158, 3) := by decide +kernel
theorem dX8_wayBy_37 : decode cX8_wayBy 37 = .ok (.imul, 1) := by decide +kernel
theorem dX8_wayBy_38 : decode cX8_wayBy 38 = .ok (.iconst 1, 1) := by decide +kernel
theorem dX8_wayBy_39 : decode cX8_wayBy 39 = .ok (.iadd, 1) := by decide +kernel
theorem dX8_wayBy_40 : decode cX8_wayBy 40 = .ok (.iaload, 1) := by decide +kernel
theorem dX8_wayBy_41 : decode cX8_wayBy 41 = .ok (.iadd, 1) := by decide +kernel
theorem dX8_wayBy_42 : decode cX8_wayBy 42 = .ok (.istore 4, 2) := by decide +kernel
theorem dX8_wayBy_44 : decode cX8_wayBy 44 = .ok (.iload 5, 2) := by decide +kernel
theorem dX8_wayBy_46 : decode cX8_wayBy 46 = .ok (.iload_n 3, 1) := by decide +kernel
theorem dX8_wayBy_47 : decode cX8_wayBy 47 = .ok (.iadd, 1) := by decide +kernel
theorem dX8_wayBy_48 : decode cX8_wayBy 48 = .ok (.aload_n 0, 1) := by decide +kernel
theorem dX8_wayBy_49 : decode cX8_wayBy 49 = .ok (.getfield 73, 3) := by decide +kernel
theorem dX8_wayBy_52 : decode cX8_wayBy 52 = .ok (.iadd, 1) := by decide +kernel
theorem dX8_wayBy_53 : decode cX8_wayBy 53 = .ok (.aload_n 0, 1) := by decide +kernel
theorem dX8_wayBy_54 : decode cX8_wayBy 54 = .ok (.getfield 73, 3) := by decide +kernel
theorem dX8_wayBy_57 : decode cX8_wayBy 57 = .ok (.irem, 1) := by decide +kernel
theorem dX8_wayBy_58 : decode cX8_wayBy 58 = .ok (.istore 5, 2) := by decide +kernel
theorem dX8_wayBy_60 : decode cX8_wayBy 60 = .ok (.goto (-42), 3) := by decide +kernel
theorem dX8_wayBy_63 : decode cX8_wayBy 63 = .ok (.iload 4, 2) := by decide +kernel
theorem dX8_wayBy_65 : decode cX8_wayBy 65 = .ok (.ireturn, 1) := by decide +kernel
theorem dX8_way_0 : decode cX8_way 0 = .ok (.aload_n 0, 1) := by decide +kernel
theorem dX8_way_1 : decode cX8_way 1 = .ok (.iload_n 1, 1) := by decide +kernel
theorem dX8_way_2 : decode cX8_way 2 = .ok (.invokevirtual 151, 3) := by decide +kernel
theorem dX8_way_5 : decode cX8_way 5 = .ok (.ifCond .eq 20, 3) := by decide +kernel
theorem dX8_way_8 : decode cX8_way 8 = .ok (.aload_n 0, 1) := by decide +kernel
theorem dX8_way_9 : decode cX8_way 9 = .ok (.iload_n 2, 1) := by decide +kernel
theorem dX8_way_10 : decode cX8_way 10 = .ok (.invokevirtual 151, 3) := by decide +kernel
theorem dX8_way_13 : decode cX8_way 13 = .ok (.ifCond .eq 12, 3) := by decide +kernel
theorem dX8_way_16 : decode cX8_way 16 = .ok (.iload_n 3, 1) := by decide +kernel
theorem dX8_way_17 : decode cX8_way 17 = .ok (.iconst 0, 1) := by decide +kernel
theorem dX8_way_18 : decode cX8_way 18 = .ok (.iconst 1, 1) := by decide +kernel
theorem dX8_way_19 : decode cX8_way 19 = .ok (.invokestatic 76, 3) := by decide +kernel
theorem dX8_way_22 : decode cX8_way 22 = .ok (.ifCond .ne 5, 3) := by decide +kernel
theorem dX8_way_25 : decode cX8_way 25 = .ok (.iconst (-1), 1) := by decide +kernel
theorem dX8_way_26 : decode cX8_way 26 = .ok (.ireturn, 1) := by decide +kernel
theorem dX8_way_27 : decode cX8_way 27 = .ok (.aload_n 0, 1) := by decide +kernel
theorem dX8_way_28 : decode cX8_way 28 = .ok (.aload_n 0, 1) := by decide +kernel
theorem dX8_way_29 : decode cX8_way 29 = .ok (.getfield 16, 3) := by decide +kernel
theorem dX8_way_32 : decode cX8_way 32 = .ok (.invokevirtual 154, 3) := by decide +kernel
theorem dX8_way_35 : decode cX8_way 35 = .ok (.aload_n 0, 1) := by decide +kernel
theorem dX8_way_36 : decode cX8_way 36 = .ok (.getfield 16, 3) := by decide +kernel
theorem dX8_way_39 : decode cX8_way 39 = .ok (.iconst 1, 1) := by decide +kernel
theorem dX8_way_40 : decode cX8_way 40 = .ok (.iload_n 1, 1) := by decide +kernel
theorem dX8_way_41 : decode cX8_way 41 = .ok (.iadd, 1) := by decide +kernel
theorem dX8_way_42 : decode cX8_way 42 = .ok (.iaload, 1) := by decide +kernel
theorem dX8_way_43 : decode cX8_way 43 = .ok (.istore 4, 2) := by decide +kernel
theorem dX8_way_45 : decode cX8_way 45 = .ok (.iload 4, 2) := by decide +kernel
theorem dX8_way_47 : decode cX8_way 47 = .ok (.iload_n 2, 1) := by decide +kernel
theorem dX8_way_48 : decode cX8_way 48 = .ok (.if_icmp .ne 7, 3) := by decide +kernel
theorem dX8_way_51 : decode cX8_way 51 = .ok (.iconst 0, 1) := by decide +kernel
theorem dX8_way_52 : decode cX8_way 52 = .ok (.goto 11, 3) := by decide +kernel
theorem dX8_way_55 : decode cX8_way 55 = .ok (.aload_n 0, 1) := by decide +kernel
theorem dX8_way_56 : decode cX8_way 56 = .ok (.iload 4, 2) := by decide +kernel
theorem dX8_way_58 : decode cX8_way 58 = .ok (.iload_n 2, 1) := by decide +kernel
theorem dX8_way_59 : decode cX8_way 59 = .ok (.iconst 1, 1) := by decide +kernel
theorem dX8_way_60 : decode cX8_way 60 = .ok (.invokevirtual 190, 3) := by decide +kernel
theorem dX8_way_63 : decode cX8_way 63 = .ok (.istore 5, 2) := by decide +kernel
theorem dX8_way_65 : decode cX8_way 65 = .ok (.iload 4, 2) := by decide +kernel
theorem dX8_way_67 : decode cX8_way 67 = .ok (.iload_n 2, 1) := by decide +kernel
theorem dX8_way_68 : decode cX8_way 68 = .ok (.if_icmp .ne 7, 3) := by decide +kernel
theorem dX8_way_71 : decode cX8_way 71 = .ok (.iconst 0, 1) := by decide +kernel
theorem dX8_way_72 : decode cX8_way 72 = .ok (.goto 11, 3) := by decide +kernel
theorem dX8_way_75 : decode cX8_way 75 = .ok (.aload_n 0, 1) := by decide +kernel
theorem dX8_way_76 : decode cX8_way 76 = .ok (.iload 4, 2) := by decide +kernel
theorem dX8_way_78 : decode cX8_way 78 = .ok (.iload_n 2, 1) := by decide +kernel
theorem dX8_way_79 : decode cX8_way 79 = .ok (.iconst (-1), 1) := by decide +kernel
theorem dX8_way_80 : decode cX8_way 80 = .ok (.invokevirtual 190, 3) := by decide +kernel
theorem dX8_way_83 : decode cX8_way 83 = .ok (.istore 6, 2) := by decide +kernel
theorem dX8_way_85 : decode cX8_way 85 = .ok (.iload_n 3, 1) := by decide +kernel
theorem dX8_way_86 : decode cX8_way 86 = .ok (.iconst 1, 1) := by decide +kernel
theorem dX8_way_87 : decode cX8_way 87 = .ok (.if_icmp .ne 18, 3) := by decide +kernel
theorem dX8_way_90 : decode cX8_way 90 = .ok (.iload 6, 2) := by decide +kernel
theorem dX8_way_92 : decode cX8_way 92 = .ok (.iload 5, 2) := by decide +kernel
theorem dX8_way_94 : decode cX8_way 94 = .ok (.if_icmp .ge 7, 3) := by decide +kernel
theorem dX8_way_97 : decode cX8_way 97 = .ok (.iconst 1, 1) := by decide +kernel
theorem dX8_way_98 : decode cX8_way 98 = .ok (.goto 21, 3) := by decide +kernel
theorem dX8_way_101 : decode cX8_way 101 = .ok (.iconst 0, 1) := by decide +kernel
theorem dX8_way_102 : decode cX8_way 102 = .ok (.goto 17, 3) := by decide +kernel
theorem dX8_way_105 : decode cX8_way 105 = .ok (.iload 6, 2) := by decide +kernel
theorem dX8_way_107 : decode cX8_way 107 = .ok (.iload 5, 2) := by decide +kernel
theorem dX8_way_109 : decode cX8_way 109 = .ok (.if_icmp .ge 8, 3) := by decide +kernel
theorem dX8_way_112 : decode cX8_way 112 = .ok (.iload 6, 2) := by decide +kernel
theorem dX8_way_114 : decode cX8_way 114 = .ok (.goto 5, 3) := by decide +kernel
theorem dX8_way_117 : decode cX8_way 117 = .ok (.iload 5, 2) := by decide +kernel
theorem dX8_way_119 : decode cX8_way 119 = .ok (.ireturn, 1) := by decide +kernel
theorem dX8_seen_0 : decode cX8_seen 0 = .ok (.aload_n 0, 1) := by decide +kernel
theorem dX8_seen_1 : decode cX8_seen 1 = .ok (.iload_n 1, 1) := by decide +kernel
theorem dX8_seen_2 : decode cX8_seen 2 = .ok (.invokevirtual 151, 3) := by decide +kernel
theorem dX8_seen_5 : decode cX8_seen 5 = .ok (.ifCond .eq 21, 3) := by decide +kernel
theorem dX8_seen_8 : decode cX8_seen 8 = .ok (.aload_n 0, 1) := by decide +kernel
theorem dX8_seen_9 : decode cX8_seen 9 = .ok (.iload_n 2, 1) := by decide +kernel
theorem dX8_seen_10 : decode cX8_seen 10 = .ok (.invokevirtual 151, 3) := by decide +kernel
theorem dX8_seen_13 : decode cX8_seen 13 = .ok (.ifCond .eq 13, 3) := by decide +kernel
theorem dX8_seen_16 : decode cX8_seen 16 = .ok (.iload_n 3, 1) := by decide +kernel
theorem dX8_seen_17 : decode cX8_seen 17 = .ok (.iconst 0, 1) := by decide +kernel
theorem dX8_seen_18 : decode cX8_seen 18 = .ok (.bipush 120, 2) := by decide +kernel
theorem dX8_seen_20 : decode cX8_seen 20 = .ok (.invokestatic 76, 3) := by decide +kernel
theorem dX8_seen_23 : decode cX8_seen 23 = .ok (.ifCond .ne 5, 3) := by decide +kernel
theorem dX8_seen_26 : decode cX8_seen 26 = .ok (.iconst (-1), 1) := by decide +kernel
theorem dX8_seen_27 : decode cX8_seen 27 = .ok (.ireturn, 1) := by decide +kernel
theorem dX8_seen_28 : decode cX8_seen 28 = .ok (.aload_n 0, 1) := by decide +kernel
theorem dX8_seen_29 : decode cX8_seen 29 = .ok (.getfield 124, 3) := by decide +kernel
theorem dX8_seen_32 : decode cX8_seen 32 = .ok (.bipush 8, 2) := by decide +kernel
theorem dX8_seen_34 : decode cX8_seen 34 = .ok (.if_icmp .ne 6, 3) := by decide +kernel
theorem dX8_seen_37 : decode cX8_seen 37 = .ok (.bipush (-3), 2) := by decide +kernel
theorem dX8_seen_39 : decode cX8_seen 39 = .ok (.ireturn, 1) := by decide +kernel
theorem dX8_seen_40 : decode cX8_seen 40 = .ok (.aload_n 0, 1) := by decide +kernel
theorem dX8_seen_41 : decode cX8_seen 41 = .ok (.getfield 28, 3) := by decide +kernel
theorem dX8_seen_44 : decode cX8_seen 44 = .ok (.iconst 3, 1) := by decide +kernel
theorem dX8_seen_45 : decode cX8_seen 45 = .ok (.aload_n 0, 1) := by decide +kernel
theorem dX8_seen_46 : decode cX8_seen 46 = .ok (.getfield 124, 3) := by decide +kernel
theorem dX8_seen_49 : decode cX8_seen 49 = .ok (.imul, 1) := by decide +kernel
theorem dX8_seen_50 : decode cX8_seen 50 = .ok (.iload_n 1, 1) := by decide +kernel
theorem dX8_seen_51 : decode cX8_seen 51 = .ok (.iastore, 1) := by decide +kernel
theorem dX8_seen_52 : decode cX8_seen 52 = .ok (.aload_n 0, 1) := by decide +kernel
theorem dX8_seen_53 : decode cX8_seen 53 = .ok (.getfield 28, 3) := by decide +kernel
theorem dX8_seen_56 : decode cX8_seen 56 = .ok (.iconst 3, 1) := by decide +kernel
theorem dX8_seen_57 : decode cX8_seen 57 = .ok (.aload_n 0, 1) := by decide +kernel
theorem dX8_seen_58 : decode cX8_seen 58 = .ok (.getfield 124, 3) := by decide +kernel
theorem dX8_seen_61 : decode cX8_seen 61 = .ok (.imul, 1) := by decide +kernel
theorem dX8_seen_62 : decode cX8_seen 62 = .ok (.iconst 1, 1) := by decide +kernel
theorem dX8_seen_63 : decode cX8_seen 63 = .ok (.iadd, 1) := by decide +kernel
theorem dX8_seen_64 : decode cX8_seen 64 = .ok (.iload_n 2, 1) := by decide +kernel
theorem dX8_seen_65 : decode cX8_seen 65 = .ok (.iastore, 1) := by decide +kernel
theorem dX8_seen_66 : decode cX8_seen 66 = .ok (.aload_n 0, 1) := by decide +kernel
theorem dX8_seen_67 : decode cX8_seen 67 = .ok (.getfield 28, 3) := by decide +kernel
theorem dX8_seen_70 : decode cX8_seen 70 = .ok (.iconst 3, 1) := by decide +kernel
theorem dX8_seen_71 : decode cX8_seen 71 = .ok (.aload_n 0, 1) := by decide +kernel
theorem dX8_seen_72 : decode cX8_seen 72 = .ok (.getfield 124, 3) := by decide +kernel
theorem dX8_seen_75 : decode cX8_seen 75 = .ok (.imul, 1) := by decide +kernel
theorem dX8_seen_76 : decode cX8_seen 76 = .ok (.iconst 2, 1) := by decide +kernel
theorem dX8_seen_77 : decode cX8_seen 77 = .ok (.iadd, 1) := by decide +kernel
theorem dX8_seen_78 : decode cX8_seen 78 = .ok (.iload_n 3, 1) := by decide +kernel
theorem dX8_seen_79 : decode cX8_seen 79 = .ok (.iastore, 1) := by decide +kernel
theorem dX8_seen_80 : decode cX8_seen 80 = .ok (.aload_n 0, 1) := by decide +kernel
theorem dX8_seen_81 : decode cX8_seen 81 = .ok (.dup, 1) := by decide +kernel
theorem dX8_seen_82 : decode cX8_seen 82 = .ok (.getfield 124, 3) := by decide +kernel
theorem dX8_seen_85 : decode cX8_seen 85 = .ok (.iconst 1, 1) := by decide +kernel
theorem dX8_seen_86 : decode cX8_seen 86 = .ok (.iadd, 1) := by decide +kernel
theorem dX8_seen_87 : decode cX8_seen 87 = .ok (.putfield 124, 3) := by decide +kernel
theorem dX8_seen_90 : decode cX8_seen 90 = .ok (.aload_n 0, 1) := by decide +kernel
theorem dX8_seen_91 : decode cX8_seen 91 = .ok (.getfield 124, 3) := by decide +kernel
theorem dX8_seen_94 : decode cX8_seen 94 = .ok (.ireturn, 1) := by decide +kernel
theorem dX8_forget_0 : decode cX8_forget 0 = .ok (.aload_n 0, 1) := by decide +kernel
theorem dX8_forget_1 : decode cX8_forget 1 = .ok (.getfield 124, 3) := by decide +kernel
theorem dX8_forget_4 : decode cX8_forget 4 = .ok (.istore_n 1, 1) := by decide +kernel
theorem dX8_forget_5 : decode cX8_forget 5 = .ok (.aload_n 0, 1) := by decide +kernel
theorem dX8_forget_6 : decode cX8_forget 6 = .ok (.iconst 0, 1) := by decide +kernel
theorem dX8_forget_7 : decode cX8_forget 7 = .ok (.putfield 124, 3) := by decide +kernel
theorem dX8_forget_10 : decode cX8_forget 10 = .ok (.iload_n 1, 1) := by decide +kernel
theorem dX8_forget_11 : decode cX8_forget 11 = .ok (.ireturn, 1) := by decide +kernel
theorem dX8_register_0 : decode cX8_register 0 = .ok (.aload_n 0, 1) := by decide +kernel
theorem dX8_register_1 : decode cX8_register 1 = .ok (.iload_n 1, 1) := by decide +kernel
theorem dX8_register_2 : decode cX8_register 2 = .ok (.invokevirtual 151, 3) := by decide +kernel
theorem dX8_register_5 : decode cX8_register 5 = .ok (.ifCond .eq 12, 3) := by decide +kernel
theorem dX8_register_8 : decode cX8_register 8 = .ok (.iload_n 2, 1) := by decide +kernel
theorem dX8_register_9 : decode cX8_register 9 = .ok (.iconst 0, 1) := by decide +kernel
theorem dX8_register_10 : decode cX8_register 10 = .ok (.iconst 1, 1) := by decide +kernel
theorem dX8_register_11 : decode cX8_register 11 = .ok (.invokestatic 76, 3) := by decide +kernel
theorem dX8_register_14 : decode cX8_register 14 = .ok (.ifCond .ne 5, 3) := by decide +kernel
theorem dX8_register_17 : decode cX8_register 17 = .ok (.iconst (-1), 1) := by decide +kernel
theorem dX8_register_18 : decode cX8_register 18 = .ok (.ireturn, 1) := by decide +kernel
theorem dX8_register_19 : decode cX8_register 19 = .ok (.iconst 0, 1) := by decide +kernel
theorem dX8_register_20 : decode cX8_register 20 = .ok (.istore_n 3, 1) := by decide +kernel
theorem dX8_register_21 : decode cX8_register 21 = .ok (.bipush (-4), 2) := by decide +kernel
theorem dX8_register_23 : decode cX8_register 23 = .ok (.istore 4, 2) := by decide +kernel
theorem dX8_register_25 : decode cX8_register 25 = .ok (.bipush 59, 2) := by decide +kernel
theorem dX8_register_27 : decode cX8_register 27 = .ok (.istore 5, 2) := by decide +kernel
theorem dX8_register_29 : decode cX8_register 29 = .ok (.iload 5, 2) := by decide +kernel
theorem dX8_register_31 : decode cX8_register 31 = .ok (.ifCond .lt 159, 3) := by decide +kernel
theorem dX8_register_34 : decode cX8_register 34 = .ok (.aload_n 0, 1) := by decide +kernel
theorem dX8_register_35 : decode cX8_register 35 = .ok (.aload_n 0, 1) := by decide +kernel
theorem dX8_register_36 : decode cX8_register 36 = .ok (.getfield 19, 3) := by decide +kernel
theorem dX8_register_39 : decode cX8_register 39 = .ok (.invokevirtual 154, 3) := by decide +kernel
theorem dX8_register_42 : decode cX8_register 42 = .ok (.aload_n 0, 1) := by decide +kernel
theorem dX8_register_43 : decode cX8_register 43 = .ok (.getfield 46, 3) := by decide +kernel
theorem dX8_register_46 : decode cX8_register 46 = .ok (.bipush 9, 2) := by decide +kernel
theorem dX8_register_48 : decode cX8_register 48 = .ok (.iload_n 1, 1) := by decide +kernel
theorem dX8_register_49 : decode cX8_register 49 = .ok (.iadd, 1) := by decide +kernel
theorem dX8_register_50 : decode cX8_register 50 = .ok (.iload 5, 2) := by decide +kernel
theorem dX8_register_52 : decode cX8_register 52 = .ok (.iastore, 1) := by decide +kernel
theorem dX8_register_53 : decode cX8_register 53 = .ok (.aload_n 0, 1) := by decide +kernel
theorem dX8_register_54 : decode cX8_register 54 = .ok (.invokevirtual 127, 3) := by decide +kernel
theorem dX8_register_57 : decode cX8_register 57 = .ok (.iconst 1, 1) := by decide +kernel
theorem dX8_register_58 : decode cX8_register 58 = .ok (.istore 6, 2) := by decide +kernel
theorem dX8_register_60 : decode cX8_register 60 = .ok (.iconst 0, 1) := by decide +kernel
theorem dX8_register_61 : decode cX8_register 61 = .ok (.istore 7, 2) := by decide +kernel
theorem dX8_register_63 : decode cX8_register 63 = .ok (.iload 7, 2) := by decide +kernel
theorem dX8_register_65 : decode cX8_register 65 = .ok (.bipush 120, 2) := by decide +kernel
theorem dX8_register_67 : decode cX8_register 67 = .ok (.if_icmp .gt 90, 3) := by decide +kernel
theorem dX8_register_70 : decode cX8_register 70 = .ok (.aload_n 0, 1) := by decide +kernel
theorem dX8_register_71 : decode cX8_register 71 = .ok (.invokevirtual 145, 3) := by decide +kernel
theorem dX8_register_74 : decode cX8_register 74 = .ok (.pop, 1) := by decide +kernel
theorem dX8_register_75 : decode cX8_register 75 = .ok (.iconst 0, 1) := by decide +kernel
theorem dX8_register_76 : decode cX8_register 76 = .ok (.istore 8, 2) := by decide +kernel
theorem dX8_register_78 : decode cX8_register 78 = .ok (.iload 8, 2) := by decide +kernel
theorem dX8_register_80 : decode cX8_register 80 = .ok (.aload_n 0, 1) := by decide +kernel
theorem dX8_register_81 : decode cX8_register 81 = .ok (.getfield 124, 3) := by decide +kernel
theorem dX8_register_84 : decode cX8_register 84 = .ok (.if_icmp .ge 67, 3) := by decide +kernel
theorem dX8_register_87 : decode cX8_register 87 = .ok (.iload 6, 2) := by decide +kernel
theorem dX8_register_89 : decode cX8_register 89 = .ok (.ifCond .eq 53, 3) := by decide +kernel
theorem dX8_register_92 : decode cX8_register 92 = .ok (.aload_n 0, 1) := by decide +kernel
theorem dX8_register_93 : decode cX8_register 93 = .ok (.getfield 28, 3) := by decide +kernel
theorem dX8_register_96 : decode cX8_register 96 = .ok (.iconst 3, 1) := by decide +kernel
theorem dX8_register_97 : decode cX8_register 97 = .ok (.iload 8, 2) := by decide +kernel
theorem dX8_register_99 : decode cX8_register 99 = .ok (.imul, 1) := by decide +kernel
theorem dX8_register_100 : decode cX8_register 100 = .ok (.iconst 2, 1) := by decide +kernel
theorem dX8_register_101 : decode cX8_register 101 = .ok (.iadd, 1) := by decide +kernel
theorem dX8_register_102 : decode cX8_register 102 = .ok (.iaload, 1) := by decide +kernel
theorem dX8_register_103 : decode cX8_register 103 = .ok (.iload 7, 2) := by decide +kernel
theorem dX8_register_105 : decode cX8_register 105 = .ok (.if_icmp .ne 33, 3) := by decide +kernel
theorem dX8_register_108 : decode cX8_register 108 = .ok (.aload_n 0, 1) := by decide +kernel
theorem dX8_register_109 : decode cX8_register 109 = .ok (.getfield 46, 3) := by decide +kernel
theorem dX8_register_112 : decode cX8_register 112 = .ok (.iconst 1, 1) := by decide +kernel
theorem dX8_register_113 : decode cX8_register 113 = .ok (.aload_n 0, 1) := by decide +kernel
theorem dX8_register_114 : decode cX8_register 114 = .ok (.getfield 28, 3) := by decide +kernel
theorem dX8_register_117 : decode cX8_register 117 = .ok (.iconst 3, 1) := by decide +kernel
theorem dX8_register_118 : decode cX8_register 118 = .ok (.iload 8, 2) := by decide +kernel
theorem dX8_register_120 : decode cX8_register 120 = .ok (.imul, 1) := by decide +kernel
theorem dX8_register_121 : decode cX8_register 121 = .ok (.iaload, 1) := by decide +kernel
theorem dX8_register_122 : decode cX8_register 122 = .ok (.iadd, 1) := by decide +kernel
theorem dX8_register_123 : decode cX8_register 123 = .ok (.iaload, 1) := by decide +kernel
theorem dX8_register_124 : decode cX8_register 124 = .ok (.aload_n 0, 1) := by decide +kernel
theorem dX8_register_125 : decode cX8_register 125 = .ok (.getfield 28, 3) := by decide +kernel
theorem dX8_register_128 : decode cX8_register 128 = .ok (.iconst 3, 1) := by decide +kernel
theorem dX8_register_129 : decode cX8_register 129 = .ok (.iload 8, 2) := by decide +kernel
theorem dX8_register_131 : decode cX8_register 131 = .ok (.imul, 1) := by decide +kernel
theorem dX8_register_132 : decode cX8_register 132 = .ok (.iconst 1, 1) := by decide +kernel
theorem dX8_register_133 : decode cX8_register 133 = .ok (.iadd, 1) := by decide +kernel
theorem dX8_register_134 : decode cX8_register 134 = .ok (.iaload, 1) := by decide +kernel
theorem dX8_register_135 : decode cX8_register 135 = .ok (.if_icmp .ne 7, 3) := by decide +kernel
theorem dX8_register_138 : decode cX8_register 138 = .ok (.iconst 1, 1) := by decide +kernel
theorem dX8_register_139 : decode cX8_register 139 = .ok (.goto 4, 3) := by decide +kernel
theorem dX8_register_142 : decode cX8_register 142 = .ok (.iconst 0, 1) := by decide +kernel
theorem dX8_register_143 : decode cX8_register 143 = .ok (.istore 6, 2) := by decide +kernel
theorem dX8_register_145 : decode cX8_register 145 = .ok (.iinc 8 1, 3) := by decide +kernel
theorem dX8_register_148 : decode cX8_register 148 = .ok (.goto (-70), 3) := by decide +kernel
theorem dX8_register_151 : decode cX8_register 151 = .ok (.iinc 7 1, 3) := by decide +kernel
theorem dX8_register_154 : decode cX8_register 154 = .ok (.goto (-91), 3) := by decide +kernel
theorem dX8_register_157 : decode cX8_register 157 = .ok (.iload_n 3, 1) := by decide +kernel
theorem dX8_register_158 : decode cX8_register 158 = .ok (.iload 6, 2) := by decide +kernel
theorem dX8_register_160 : decode cX8_register 160 = .ok (.ifCond .eq 7, 3) := by decide +kernel
theorem dX8_register_163 : decode cX8_register 163 = .ok (.iconst 1, 1) := by decide +kernel
theorem dX8_register_164 : decode cX8_register 164 = .ok (.goto 4, 3) := by decide +kernel
theorem dX8_register_167 : decode cX8_register 167 = .ok (.iconst 0, 1) := by decide +kernel
theorem dX8_register_168 : decode cX8_register 168 = .ok (.iadd, 1) := by decide +kernel
theorem dX8_register_169 : decode cX8_register 169 = .ok (.istore_n 3, 1) := by decide +kernel
theorem dX8_register_170 : decode cX8_register 170 = .ok (.iload 6, 2) := by decide +kernel
theorem dX8_register_172 : decode cX8_register 172 = .ok (.ifCond .eq 8, 3) := by decide +kernel
theorem dX8_register_175 : decode cX8_register 175 = .ok (.iload 5, 2) := by decide +kernel
theorem dX8_register_177 : decode cX8_register 177 = .ok (.goto 5, 3) := by decide +kernel
theorem dX8_register_180 : decode cX8_register 180 = .ok (.iload 4, 2) := by decide +kernel
theorem dX8_register_182 : decode cX8_register 182 = .ok (.istore 4, 2) := by decide +kernel
theorem dX8_register_184 : decode cX8_register 184 = .ok (.iinc 5 (-1), 3) := by decide +kernel
theorem dX8_register_187 : decode cX8_register 187 = .ok (.goto (-158), 3) := by decide +kernel
theorem dX8_register_190 : decode cX8_register 190 = .ok (.iload_n 2, 1) := by decide +kernel
theorem dX8_register_191 : decode cX8_register 191 = .ok (.ifCond .ne 7, 3) := by decide +kernel
theorem dX8_register_194 : decode cX8_register 194 = .ok (.iload_n 3, 1) := by decide +kernel
theorem dX8_register_195 : decode cX8_register 195 = .ok (.goto 5, 3) := by decide +kernel
theorem dX8_register_198 : decode cX8_register 198 = .ok (.iload 4, 2) := by decide +kernel
theorem dX8_register_200 : decode cX8_register 200 = .ok (.ireturn, 1) := by decide +kernel
theorem dX8_foundling_0 : decode cX8_foundling 0 = .ok (.aload_n 0, 1) := by decide +kernel
theorem dX8_foundling_1 : decode cX8_foundling 1 = .ok (.iload_n 1, 1) := by decide +kernel
theorem dX8_foundling_2 : decode cX8_foundling 2 = .ok (.invokevirtual 151, 3) := by decide +kernel
theorem dX8_foundling_5 : decode cX8_foundling 5 = .ok (.ifCond .eq 31, 3) := by decide +kernel
theorem dX8_foundling_8 : decode cX8_foundling 8 = .ok (.aload_n 0, 1) := by decide +kernel
theorem dX8_foundling_9 : decode cX8_foundling 9 = .ok (.iload_n 2, 1) := by decide +kernel
theorem dX8_foundling_10 : decode cX8_foundling 10 = .ok (.invokevirtual 151, 3) := by decide +kernel
theorem dX8_foundling_13 : decode cX8_foundling 13 = .ok (.ifCond .eq 23, 3) := by decide +kernel
theorem dX8_foundling_16 : decode cX8_foundling 16 = .ok (.iload_n 3, 1) := by decide +kernel
theorem dX8_foundling_17 : decode cX8_foundling 17 = .ok (.iconst 0, 1) := by decide +kernel
theorem dX8_foundling_18 : decode cX8_foundling 18 = .ok (.bipush 120, 2) := by decide +kernel
theorem dX8_foundling_20 : decode cX8_foundling 20 = .ok (.invokestatic 76, 3) := by decide +kernel
theorem dX8_foundling_23 : decode cX8_foundling 23 = .ok (.ifCond .eq 13, 3) := by decide +kernel
theorem dX8_foundling_26 : decode cX8_foundling 26 = .ok (.iload 4, 2) := by decide +kernel
theorem dX8_foundling_28 : decode cX8_foundling 28 = .ok (.iconst 0, 1) := by decide +kernel
theorem dX8_foundling_29 : decode cX8_foundling 29 = .ok (.iconst 1, 1) := by decide +kernel
theorem dX8_foundling_30 : decode cX8_foundling 30 = .ok (.invokestatic 76, 3) := by decide +kernel
theorem dX8_foundling_33 : decode cX8_foundling 33 = .ok (.ifCond .ne 5, 3) := by decide +kernel
theorem dX8_foundling_36 : decode cX8_foundling 36 = .ok (.iconst (-1), 1) := by decide +kernel
theorem dX8_foundling_37 : decode cX8_foundling 37 = .ok (.ireturn, 1) := by decide +kernel
theorem dX8_foundling_38 : decode cX8_foundling 38 = .ok (.iconst 0, 1) := by decide +kernel
theorem dX8_foundling_39 : decode cX8_foundling 39 = .ok (.istore 5, 2) := by decide +kernel
theorem dX8_foundling_41 : decode cX8_foundling 41 = .ok (.iconst 0, 1) := by decide +kernel
theorem dX8_foundling_42 : decode cX8_foundling 42 = .ok (.istore 6, 2) := by decide +kernel
theorem dX8_foundling_44 : decode cX8_foundling 44 = .ok (.iload 6, 2) := by decide +kernel
theorem dX8_foundling_46 : decode cX8_foundling 46 = .ok (.bipush 60, 2) := by decide +kernel
theorem dX8_foundling_48 : decode cX8_foundling 48 = .ok (.if_icmp .ge 61, 3) := by decide +kernel
theorem dX8_foundling_51 : decode cX8_foundling 51 = .ok (.aload_n 0, 1) := by decide +kernel
theorem dX8_foundling_52 : decode cX8_foundling 52 = .ok (.aload_n 0, 1) := by decide +kernel
theorem dX8_foundling_53 : decode cX8_foundling 53 = .ok (.getfield 16, 3) := by decide +kernel
theorem dX8_foundling_56 : decode cX8_foundling 56 = .ok (.invokevirtual 154, 3) := by decide +kernel
theorem dX8_foundling_59 : decode cX8_foundling 59 = .ok (.aload_n 0, 1) := by decide +kernel
theorem dX8_foundling_60 : decode cX8_foundling 60 = .ok (.getfield 46, 3) := by decide +kernel
theorem dX8_foundling_63 : decode cX8_foundling 63 = .ok (.bipush 9, 2) := by decide +kernel
theorem dX8_foundling_65 : decode cX8_foundling 65 = .ok (.iload_n 1, 1) := by decide +kernel
theorem dX8_foundling_66 : decode cX8_foundling 66 = .ok (.iadd, 1) := by decide +kernel
theorem dX8_foundling_67 : decode cX8_foundling 67 = .ok (.iload 6, 2) := by decide +kernel
theorem dX8_foundling_69 : decode cX8_foundling 69 = .ok (.iastore, 1) := by decide +kernel
theorem dX8_foundling_70 : decode cX8_foundling 70 = .ok (.aload_n 0, 1) := by decide +kernel
theorem dX8_foundling_71 : decode cX8_foundling 71 = .ok (.invokevirtual 127, 3) := by decide +kernel
theorem dX8_foundling_74 : decode cX8_foundling 74 = .ok (.aload_n 0, 1) := by decide +kernel
theorem dX8_foundling_75 : decode cX8_foundling 75 = .ok (.iload_n 3, 1) := by decide +kernel
theorem dX8_foundling_76 : decode cX8_foundling 76 = .ok (.iconst 1, 1) := by decide +kernel
theorem dX8_foundling_77 : decode cX8_foundling 77 = .ok (.iadd, 1) := by decide +kernel
theorem dX8_foundling_78 : decode cX8_foundling 78 = .ok (.invokevirtual 164, 3) := by decide +kernel
theorem dX8_foundling_81 : decode cX8_foundling 81 = .ok (.iload 5, 2) := by decide +kernel
theorem dX8_foundling_83 : decode cX8_foundling 83 = .ok (.aload_n 0, 1) := by decide +kernel
theorem dX8_foundling_84 : decode cX8_foundling 84 = .ok (.getfield 46, 3) := by decide +kernel
theorem dX8_foundling_87 : decode cX8_foundling 87 = .ok (.iconst 1, 1) := by decide +kernel
theorem dX8_foundling_88 : decode cX8_foundling 88 = .ok (.iload_n 1, 1) := by decide +kernel
theorem dX8_foundling_89 : decode cX8_foundling 89 = .ok (.iadd, 1) := by decide +kernel
theorem dX8_foundling_90 : decode cX8_foundling 90 = .ok (.iaload, 1) := by decide +kernel
theorem dX8_foundling_91 : decode cX8_foundling 91 = .ok (.iload_n 2, 1) := by decide +kernel
theorem dX8_foundling_92 : decode cX8_foundling 92 = .ok (.if_icmp .ne 7, 3) := by decide +kernel
theorem dX8_foundling_95 : decode cX8_foundling 95 = .ok (.iconst 1, 1) := by decide +kernel
theorem dX8_foundling_96 : decode cX8_foundling 96 = .ok (.goto 4, 3) := by decide +kernel
theorem dX8_foundling_99 : decode cX8_foundling 99 = .ok (.iconst 0, 1) := by decide +kernel
theorem dX8_foundling_100 : decode cX8_foundling 100 = .ok (.iadd, 1) := by decide +kernel
theorem dX8_foundling_101 : decode cX8_foundling 101 = .ok (.istore 5, 2) := by decide +kernel
theorem dX8_foundling_103 : decode cX8_foundling 103 = .ok (.iinc 6 1, 3) := by decide +kernel
theorem dX8_foundling_106 : decode cX8_foundling 106 = .ok (.goto (-62), 3) := by decide +kernel
theorem dX8_foundling_109 : decode cX8_foundling 109 = .ok (.iload 5, 2) := by decide +kernel
theorem dX8_foundling_111 : decode cX8_foundling 111 = .ok (.istore 6, 2) := by decide +kernel
theorem dX8_foundling_113 : decode cX8_foundling 113 = .ok (.bipush 60, 2) := by decide +kernel
theorem dX8_foundling_115 : decode cX8_foundling 115 = .ok (.istore 7, 2) := by decide +kernel
theorem dX8_foundling_117 : decode cX8_foundling 117 = .ok (.iload 7, 2) := by decide +kernel
theorem dX8_foundling_119 : decode cX8_foundling 119 = .ok (.ifCond .le 21, 3) := by decide +kernel
theorem dX8_foundling_122 : decode cX8_foundling 122 = .ok (.iload 6, 2) := by decide +kernel
theorem dX8_foundling_124 : decode cX8_foundling 124 = .ok (.iload 7, 2) := by decide +kernel
theorem dX8_foundling_126 : decode cX8_foundling 126 = .ok (.irem, 1) := by decide +kernel
theorem dX8_foundling_127 : decode cX8_foundling 127 = .ok (.istore 8, 2) := by decide +kernel
theorem dX8_foundling_129 : decode cX8_foundling 129 = .ok (.iload 7, 2) := by decide +kernel
theorem dX8_foundling_131 : decode cX8_foundling 131 = .ok (.istore 6, 2) := by decide +kernel
theorem dX8_foundling_133 : decode cX8_foundling 133 = .ok (.iload 8, 2) := by decide +kernel
theorem dX8_foundling_135 : decode cX8_foundling 135 = .ok (.istore 7, 2) := by decide +kernel
theorem dX8_foundling_137 : decode cX8_foundling 137 = .ok (.goto (-20), 3) := by decide +kernel
theorem dX8_foundling_140 : decode cX8_foundling 140 = .ok (.iload 4, 2) := by decide +kernel
theorem dX8_foundling_142 : decode cX8_foundling 142 = .ok (.ifCond .ne 8, 3) := by decide +kernel
theorem dX8_foundling_145 : decode cX8_foundling 145 = .ok (.iload 5, 2) := by decide +kernel
theorem dX8_foundling_147 : decode cX8_foundling 147 = .ok (.goto 5, 3) := by decide +kernel
theorem dX8_foundling_150 : decode cX8_foundling 150 = .ok (.bipush 60, 2) := by decide +kernel
theorem dX8_foundling_152 : decode cX8_foundling 152 = .ok (.iload 6, 2) := by decide +kernel
theorem dX8_foundling_154 : decode cX8_foundling 154 = .ok (.idiv, 1) := by decide +kernel
theorem dX8_foundling_155 : decode cX8_foundling 155 = .ok (.ireturn, 1) := by decide +kernel
theorem dX8_loses_0 : decode cX8_loses 0 = .ok (.iload_n 1, 1) := by decide +kernel
theorem dX8_loses_1 : decode cX8_loses 1 = .ok (.iconst 0, 1) := by decide +kernel
theorem dX8_loses_2 : decode cX8_loses 2 = .ok (.iconst 1, 1) := by decide +kernel
theorem dX8_loses_3 : decode cX8_loses 3 = .ok (.invokestatic 76, 3) := by decide +kernel
theorem dX8_loses_6 : decode cX8_loses 6 = .ok (.ifCond .ne 5, 3) := by decide +kernel
theorem dX8_loses_9 : decode cX8_loses 9 = .ok (.iconst (-1), 1) := by decide +kernel
theorem dX8_loses_10 : decode cX8_loses 10 = .ok (.ireturn, 1) := by decide +kernel
theorem dX8_loses_11 : decode cX8_loses 11 = .ok (.bipush (-4), 2) := by decide +kernel
theorem dX8_loses_13 : decode cX8_loses 13 = .ok (.istore_n 2, 1) := by decide +kernel
theorem dX8_loses_14 : decode cX8_loses 14 = .ok (.bipush (-4), 2) := by decide +kernel
theorem dX8_loses_16 : decode cX8_loses 16 = .ok (.istore_n 3, 1) := by decide +kernel
theorem dX8_loses_17 : decode cX8_loses 17 = .ok (.iconst 0, 1) := by decide +kernel
theorem dX8_loses_18 : decode cX8_loses 18 = .ok (.istore 4, 2) := by decide +kernel
theorem dX8_loses_20 : decode cX8_loses 20 = .ok (.iload 4, 2) := by decide +kernel
theorem dX8_loses_22 : decode cX8_loses 22 = .ok (.aload_n 0, 1) := by decide +kernel
theorem dX8_loses_23 : decode cX8_loses 23 = .ok (.getfield 73, 3) := by decide +kernel
theorem dX8_loses_26 : decode cX8_loses 26 = .ok (.if_icmp .ge 68, 3) := by decide +kernel
theorem dX8_loses_29 : decode cX8_loses 29 = .ok (.aload_n 0, 1) := by decide +kernel
theorem dX8_loses_30 : decode cX8_loses 30 = .ok (.aload_n 0, 1) := by decide +kernel
theorem dX8_loses_31 : decode cX8_loses 31 = .ok (.getfield 16, 3) := by decide +kernel
theorem dX8_loses_34 : decode cX8_loses 34 = .ok (.invokevirtual 154, 3) := by decide +kernel
theorem dX8_loses_37 : decode cX8_loses 37 = .ok (.aload_n 0, 1) := by decide +kernel
theorem dX8_loses_38 : decode cX8_loses 38 = .ok (.iload 4, 2) := by decide +kernel
theorem dX8_loses_40 : decode cX8_loses 40 = .ok (.bipush 60, 2) := by decide +kernel
theorem dX8_loses_42 : decode cX8_loses 42 = .ok (.invokevirtual 167, 3) := by decide +kernel
theorem dX8_loses_45 : decode cX8_loses 45 = .ok (.istore 5, 2) := by decide +kernel
theorem dX8_loses_47 : decode cX8_loses 47 = .ok (.iload_n 2, 1) := by decide +kernel
theorem dX8_loses_48 : decode cX8_loses 48 = .ok (.ifCond .lt 9, 3) := by decide +kernel
theorem dX8_loses_51 : decode cX8_loses 51 = .ok (.iload 5, 2) := by decide +kernel
theorem dX8_loses_53 : decode cX8_loses 53 = .ok (.iload_n 3, 1) := by decide +kernel
theorem dX8_loses_54 : decode cX8_loses 54 = .ok (.if_icmp .ge 7, 3) := by decide +kernel
theorem dX8_loses_57 : decode cX8_loses 57 = .ok (.iconst 1, 1) := by decide +kernel
theorem dX8_loses_58 : decode cX8_loses 58 = .ok (.goto 4, 3) := by decide +kernel
theorem dX8_loses_61 : decode cX8_loses 61 = .ok (.iconst 0, 1) := by decide +kernel
theorem dX8_loses_62 : decode cX8_loses 62 = .ok (.istore 6, 2) := by decide +kernel
theorem dX8_loses_64 : decode cX8_loses 64 = .ok (.iload 6, 2) := by decide +kernel
theorem dX8_loses_66 : decode cX8_loses 66 = .ok (.ifCond .eq 8, 3) := by decide +kernel
theorem dX8_loses_69 : decode cX8_loses 69 = .ok (.iload 4, 2) := by decide +kernel
theorem dX8_loses_71 : decode cX8_loses 71 = .ok (.goto 4, 3) := by decide +kernel
theorem dX8_loses_74 : decode cX8_loses 74 = .ok (.iload_n 2, 1) := by decide +kernel
theorem dX8_loses_75 : decode cX8_loses 75 = .ok (.istore_n 2, 1) := by decide +kernel
theorem dX8_loses_76 : decode cX8_loses 76 = .ok (.iload 6, 2) := by decide +kernel
theorem dX8_loses_78 : decode cX8_loses 78 = .ok (.ifCond .eq 8, 3) := by decide +kernel
theorem dX8_loses_81 : decode cX8_loses 81 = .ok (.iload 5, 2) := by decide +kernel
theorem dX8_loses_83 : decode cX8_loses 83 = .ok (.goto 4, 3) := by decide +kernel
theorem dX8_loses_86 : decode cX8_loses 86 = .ok (.iload_n 3, 1) := by decide +kernel
theorem dX8_loses_87 : decode cX8_loses 87 = .ok (.istore_n 3, 1) := by decide +kernel
theorem dX8_loses_88 : decode cX8_loses 88 = .ok (.iinc 4 1, 3) := by decide +kernel
theorem dX8_loses_91 : decode cX8_loses 91 = .ok (.goto (-71), 3) := by decide +kernel
theorem dX8_loses_94 : decode cX8_loses 94 = .ok (.iload_n 1, 1) := by decide +kernel
theorem dX8_loses_95 : decode cX8_loses 95 = .ok (.ifCond .ne 7, 3) := by decide +kernel
theorem dX8_loses_98 : decode cX8_loses 98 = .ok (.iload_n 2, 1) := by decide +kernel
theorem dX8_loses_99 : decode cX8_loses 99 = .ok (.goto 4, 3) := by decide +kernel
theorem dX8_loses_102 : decode cX8_loses 102 = .ok (.iload_n 3, 1) := by decide +kernel
theorem dX8_loses_103 : decode cX8_loses 103 = .ok (.ireturn, 1) := by decide +kernel
theorem dX8_next_0 : decode cX8_next 0 = .ok (.iload_n 1, 1) := by decide +kernel
theorem dX8_next_1 : decode cX8_next 1 = .ok (.iconst 0, 1) := by decide +kernel
theorem dX8_next_2 : decode cX8_next 2 = .ok (.iconst 1, 1) := by decide +kernel
theorem dX8_next_3 : decode cX8_next 3 = .ok (.invokestatic 76, 3) := by decide +kernel
theorem dX8_next_6 : decode cX8_next 6 = .ok (.ifCond .ne 5, 3) := by decide +kernel
theorem dX8_next_9 : decode cX8_next 9 = .ok (.iconst (-1), 1) := by decide +kernel
theorem dX8_next_10 : decode cX8_next 10 = .ok (.ireturn, 1) := by decide +kernel
theorem dX8_next_11 : decode cX8_next 11 = .ok (.aload_n 0, 1) := by decide +kernel
theorem dX8_next_12 : decode cX8_next 12 = .ok (.aload_n 0, 1) := by decide +kernel
theorem dX8_next_13 : decode cX8_next 13 = .ok (.getfield 16, 3) := by decide +kernel
theorem dX8_next_16 : decode cX8_next 16 = .ok (.invokevirtual 154, 3) := by decide +kernel
theorem dX8_next_19 : decode cX8_next 19 = .ok (.bipush (-4), 2) := by decide +kernel
theorem dX8_next_21 : decode cX8_next 21 = .ok (.istore_n 2, 1) := by decide +kernel
theorem dX8_next_22 : decode cX8_next 22 = .ok (.bipush (-4), 2) := by decide +kernel
theorem dX8_next_24 : decode cX8_next 24 = .ok (.istore_n 3, 1) := by decide +kernel
theorem dX8_next_25 : decode cX8_next 25 = .ok (.iconst 0, 1) := by decide +kernel
theorem dX8_next_26 : decode cX8_next 26 = .ok (.istore 4, 2) := by decide +kernel
theorem dX8_next_28 : decode cX8_next 28 = .ok (.iload 4, 2) := by decide +kernel
theorem dX8_next_30 : decode cX8_next 30 = .ok (.aload_n 0, 1) := by decide +kernel
theorem dX8_next_31 : decode cX8_next 31 = .ok (.getfield 73, 3) := by decide +kernel
theorem dX8_next_34 : decode cX8_next 34 = .ok (.if_icmp .ge 87, 3) := by decide +kernel
theorem dX8_next_37 : decode cX8_next 37 = .ok (.aload_n 0, 1) := by decide +kernel
theorem dX8_next_38 : decode cX8_next 38 = .ok (.getfield 49, 3) := by decide +kernel
theorem dX8_next_41 : decode cX8_next 41 = .ok (.iload 4, 2) := by decide +kernel
theorem dX8_next_43 : decode cX8_next 43 = .ok (.iaload, 1) := by decide +kernel
theorem dX8_next_44 : decode cX8_next 44 = .ok (.istore 5, 2) := by decide +kernel
theorem dX8_next_46 : decode cX8_next 46 = .ok (.aload_n 0, 1) := by decide +kernel
theorem dX8_next_47 : decode cX8_next 47 = .ok (.getfield 16, 3) := by decide +kernel
theorem dX8_next_50 : decode cX8_next 50 = .ok (.bipush 9, 2) := by decide +kernel
theorem dX8_next_52 : decode cX8_next 52 = .ok (.iload 5, 2) := by decide +kernel
theorem dX8_next_54 : decode cX8_next 54 = .ok (.iadd, 1) := by decide +kernel
theorem dX8_next_55 : decode cX8_next 55 = .ok (.iaload, 1) := by decide +kernel
theorem dX8_next_56 : decode cX8_next 56 = .ok (.bipush 60, 2) := by decide +kernel
theorem dX8_next_58 : decode cX8_next 58 = .ok (.iadd, 1) := by decide +kernel
theorem dX8_next_59 : decode cX8_next 59 = .ok (.aload_n 0, 1) := by decide +kernel
theorem dX8_next_60 : decode cX8_next 60 = .ok (.getfield 16, 3) := by decide +kernel
theorem dX8_next_63 : decode cX8_next 63 = .ok (.iconst 0, 1) := by decide +kernel
theorem dX8_next_64 : decode cX8_next 64 = .ok (.iaload, 1) := by decide +kernel
theorem dX8_next_65 : decode cX8_next 65 = .ok (.bipush 60, 2) := by decide +kernel
theorem dX8_next_67 : decode cX8_next 67 = .ok (.irem, 1) := by decide +kernel
theorem dX8_next_68 : decode cX8_next 68 = .ok (.isub, 1) := by decide +kernel
theorem dX8_next_69 : decode cX8_next 69 = .ok (.bipush 60, 2) := by decide +kernel
theorem dX8_next_71 : decode cX8_next 71 = .ok (.irem, 1) := by decide +kernel
theorem dX8_next_72 : decode cX8_next 72 = .ok (.istore 6, 2) := by decide +kernel
theorem dX8_next_74 : decode cX8_next 74 = .ok (.iload_n 2, 1) := by decide +kernel
theorem dX8_next_75 : decode cX8_next 75 = .ok (.ifCond .lt 9, 3) := by decide +kernel
theorem dX8_next_78 : decode cX8_next 78 = .ok (.iload 6, 2) := by decide +kernel
theorem dX8_next_80 : decode cX8_next 80 = .ok (.iload_n 3, 1) := by decide +kernel
theorem dX8_next_81 : decode cX8_next 81 = .ok (.if_icmp .ge 7, 3) := by decide +kernel
theorem dX8_next_84 : decode cX8_next 84 = .ok (.iconst 1, 1) := by decide +kernel
theorem dX8_next_85 : decode cX8_next 85 = .ok (.goto 4, 3) := by decide +kernel
theorem dX8_next_88 : decode cX8_next 88 = .ok (.iconst 0, 1) := by decide +kernel
theorem dX8_next_89 : decode cX8_next 89 = .ok (.istore 7, 2) := by decide +kernel
theorem dX8_next_91 : decode cX8_next 91 = .ok (.iload 7, 2) := by decide +kernel
theorem dX8_next_93 : decode cX8_next 93 = .ok (.ifCond .eq 8, 3) := by decide +kernel
theorem dX8_next_96 : decode cX8_next 96 = .ok (.iload 5, 2) := by decide +kernel
theorem dX8_next_98 : decode cX8_next 98 = .ok (.goto 4, 3) := by decide +kernel
theorem dX8_next_101 : decode cX8_next 101 = .ok (.iload_n 2, 1) := by decide +kernel
theorem dX8_next_102 : decode cX8_next 102 = .ok (.istore_n 2, 1) := by decide +kernel
theorem dX8_next_103 : decode cX8_next 103 = .ok (.iload 7, 2) := by decide +kernel
theorem dX8_next_105 : decode cX8_next 105 = .ok (.ifCond .eq 8, 3) := by decide +kernel
theorem dX8_next_108 : decode cX8_next 108 = .ok (.iload 6, 2) := by decide +kernel
theorem dX8_next_110 : decode cX8_next 110 = .ok (.goto 4, 3) := by decide +kernel
theorem dX8_next_113 : decode cX8_next 113 = .ok (.iload_n 3, 1) := by decide +kernel
theorem dX8_next_114 : decode cX8_next 114 = .ok (.istore_n 3, 1) := by decide +kernel
theorem dX8_next_115 : decode cX8_next 115 = .ok (.iinc 4 1, 3) := by decide +kernel
theorem dX8_next_118 : decode cX8_next 118 = .ok (.goto (-90), 3) := by decide +kernel
theorem dX8_next_121 : decode cX8_next 121 = .ok (.iload_n 1, 1) := by decide +kernel
theorem dX8_next_122 : decode cX8_next 122 = .ok (.ifCond .ne 7, 3) := by decide +kernel
theorem dX8_next_125 : decode cX8_next 125 = .ok (.iload_n 2, 1) := by decide +kernel
theorem dX8_next_126 : decode cX8_next 126 = .ok (.goto 4, 3) := by decide +kernel
theorem dX8_next_129 : decode cX8_next 129 = .ok (.iload_n 3, 1) := by decide +kernel
theorem dX8_next_130 : decode cX8_next 130 = .ok (.ireturn, 1) := by decide +kernel
theorem dX8_year_0 : decode cX8_year 0 = .ok (.iload_n 1, 1) := by decide +kernel
theorem dX8_year_1 : decode cX8_year 1 = .ok (.iconst 0, 1) := by decide +kernel
theorem dX8_year_2 : decode cX8_year 2 = .ok (.sipush 9999, 3) := by decide +kernel
theorem dX8_year_5 : decode cX8_year 5 = .ok (.invokestatic 76, 3) := by decide +kernel
theorem dX8_year_8 : decode cX8_year 8 = .ok (.ifCond .eq 22, 3) := by decide +kernel
theorem dX8_year_11 : decode cX8_year 11 = .ok (.iload_n 2, 1) := by decide +kernel
theorem dX8_year_12 : decode cX8_year 12 = .ok (.iconst 1, 1) := by decide +kernel
theorem dX8_year_13 : decode cX8_year 13 = .ok (.bipush 120, 2) := by decide +kernel
theorem dX8_year_15 : decode cX8_year 15 = .ok (.invokestatic 76, 3) := by decide +kernel
theorem dX8_year_18 : decode cX8_year 18 = .ok (.ifCond .eq 12, 3) := by decide +kernel
theorem dX8_year_21 : decode cX8_year 21 = .ok (.iload_n 3, 1) := by decide +kernel
theorem dX8_year_22 : decode cX8_year 22 = .ok (.iconst 0, 1) := by decide +kernel
theorem dX8_year_23 : decode cX8_year 23 = .ok (.iconst 1, 1) := by decide +kernel
theorem dX8_year_24 : decode cX8_year 24 = .ok (.invokestatic 76, 3) := by decide +kernel
theorem dX8_year_27 : decode cX8_year 27 = .ok (.ifCond .ne 5, 3) := by decide +kernel
theorem dX8_year_30 : decode cX8_year 30 = .ok (.iconst (-1), 1) := by decide +kernel
theorem dX8_year_31 : decode cX8_year 31 = .ok (.ireturn, 1) := by decide +kernel
theorem dX8_year_32 : decode cX8_year 32 = .ok (.aload_n 0, 1) := by decide +kernel
theorem dX8_year_33 : decode cX8_year 33 = .ok (.aload_n 0, 1) := by decide +kernel
theorem dX8_year_34 : decode cX8_year 34 = .ok (.getfield 16, 3) := by decide +kernel
theorem dX8_year_37 : decode cX8_year 37 = .ok (.invokevirtual 154, 3) := by decide +kernel
theorem dX8_year_40 : decode cX8_year 40 = .ok (.iconst 0, 1) := by decide +kernel
theorem dX8_year_41 : decode cX8_year 41 = .ok (.istore 4, 2) := by decide +kernel
theorem dX8_year_43 : decode cX8_year 43 = .ok (.iconst 0, 1) := by decide +kernel
theorem dX8_year_44 : decode cX8_year 44 = .ok (.istore 5, 2) := by decide +kernel
theorem dX8_year_46 : decode cX8_year 46 = .ok (.iload 5, 2) := by decide +kernel
theorem dX8_year_48 : decode cX8_year 48 = .ok (.iload_n 2, 1) := by decide +kernel
theorem dX8_year_49 : decode cX8_year 49 = .ok (.if_icmp .ge 89, 3) := by decide +kernel
theorem dX8_year_52 : decode cX8_year 52 = .ok (.ldc2_w 194, 3) := by decide +kernel
theorem dX8_year_55 : decode cX8_year 55 = .ok (.iload_n 1, 1) := by decide +kernel
theorem dX8_year_56 : decode cX8_year 56 = .ok (.i2l, 1) := by decide +kernel
theorem dX8_year_57 : decode cX8_year 57 = .ok (.lmul, 1) := by decide +kernel
theorem dX8_year_58 : decode cX8_year 58 = .ok (.ldc2_w 196, 3) := by decide +kernel
theorem dX8_year_61 : decode cX8_year 61 = .ok (.iload 5, 2) := by decide +kernel
theorem dX8_year_63 : decode cX8_year 63 = .ok (.i2l, 1) := by decide +kernel
theorem dX8_year_64 : decode cX8_year 64 = .ok (.lmul, 1) := by decide +kernel
theorem dX8_year_65 : decode cX8_year 65 = .ok (.ladd, 1) := by decide +kernel
theorem dX8_year_66 : decode cX8_year 66 = .ok (.lconst 1, 1) := by decide +kernel
theorem dX8_year_67 : decode cX8_year 67 = .ok (.ladd, 1) := by decide +kernel
theorem dX8_year_68 : decode cX8_year 68 = .ok (.lstore 6, 2) := by decide +kernel
theorem dX8_year_70 : decode cX8_year 70 = .ok (.lload 6, 2) := by decide +kernel
theorem dX8_year_72 : decode cX8_year 72 = .ok (.lload 6, 2) := by decide +kernel
theorem dX8_year_74 : decode cX8_year 74 = .ok (.lmul, 1) := by decide +kernel
theorem dX8_year_75 : decode cX8_year 75 = .ok (.ldc2_w 198, 3) := by decide +kernel
theorem dX8_year_78 : decode cX8_year 78 = .ok (.lrem, 1) := by decide +kernel
theorem dX8_year_79 : decode cX8_year 79 = .ok (.ldc2_w 200, 3) := by decide +kernel
theorem dX8_year_82 : decode cX8_year 82 = .ok (.ldiv, 1) := by decide +kernel
theorem dX8_year_83 : decode cX8_year 83 = .ok (.l2i, 1) := by decide +kernel
theorem dX8_year_84 : decode cX8_year 84 = .ok (.istore 8, 2) := by decide +kernel
theorem dX8_year_86 : decode cX8_year 86 = .ok (.iload 8, 2) := by decide +kernel
theorem dX8_year_88 : decode cX8_year 88 = .ok (.bipush 64, 2) := by decide +kernel
theorem dX8_year_90 : decode cX8_year 90 = .ok (.idiv, 1) := by decide +kernel
theorem dX8_year_91 : decode cX8_year 91 = .ok (.iconst 5, 1) := by decide +kernel
theorem dX8_year_92 : decode cX8_year 92 = .ok (.irem, 1) := by decide +kernel
theorem dX8_year_93 : decode cX8_year 93 = .ok (.ifCond .ne 27, 3) := by decide +kernel
theorem dX8_year_96 : decode cX8_year 96 = .ok (.aload_n 0, 1) := by decide +kernel
theorem dX8_year_97 : decode cX8_year 97 = .ok (.getfield 46, 3) := by decide +kernel
theorem dX8_year_100 : decode cX8_year 100 = .ok (.iload 8, 2) := by decide +kernel
theorem dX8_year_102 : decode cX8_year 102 = .ok (.aload_n 0, 1) := by decide +kernel
theorem dX8_year_103 : decode cX8_year 103 = .ok (.getfield 73, 3) := by decide +kernel
theorem dX8_year_106 : decode cX8_year 106 = .ok (.irem, 1) := by decide +kernel
theorem dX8_year_107 : decode cX8_year 107 = .ok (.iload 8, 2) := by decide +kernel
theorem dX8_year_109 : decode cX8_year 109 = .ok (.bipush 8, 2) := by decide +kernel
theorem dX8_year_111 : decode cX8_year 111 = .ok (.idiv, 1) := by decide +kernel
theorem dX8_year_112 : decode cX8_year 112 = .ok (.aload_n 0, 1) := by decide +kernel
theorem dX8_year_113 : decode cX8_year 113 = .ok (.getfield 73, 3) := by decide +kernel
theorem dX8_year_116 : decode cX8_year 116 = .ok (.irem, 1) := by decide +kernel
theorem dX8_year_117 : decode cX8_year 117 = .ok (.invokestatic 133, 3) := by decide +kernel
theorem dX8_year_120 : decode cX8_year 120 = .ok (.iload 4, 2) := by decide +kernel
theorem dX8_year_122 : decode cX8_year 122 = .ok (.aload_n 0, 1) := by decide +kernel
theorem dX8_year_123 : decode cX8_year 123 = .ok (.invokevirtual 145, 3) := by decide +kernel
theorem dX8_year_126 : decode cX8_year 126 = .ok (.invokestatic 148, 3) := by decide +kernel
theorem dX8_year_129 : decode cX8_year 129 = .ok (.iadd, 1) := by decide +kernel
theorem dX8_year_130 : decode cX8_year 130 = .ok (.istore 4, 2) := by decide +kernel
theorem dX8_year_132 : decode cX8_year 132 = .ok (.iinc 5 1, 3) := by decide +kernel
theorem dX8_year_135 : decode cX8_year 135 = .ok (.goto (-89), 3) := by decide +kernel
theorem dX8_year_138 : decode cX8_year 138 = .ok (.iload_n 3, 1) := by decide +kernel
theorem dX8_year_139 : decode cX8_year 139 = .ok (.ifCond .ne 8, 3) := by decide +kernel
theorem dX8_year_142 : decode cX8_year 142 = .ok (.iload 4, 2) := by decide +kernel
theorem dX8_year_144 : decode cX8_year 144 = .ok (.goto 8, 3) := by decide +kernel
theorem dX8_year_147 : decode cX8_year 147 = .ok (.aload_n 0, 1) := by decide +kernel
theorem dX8_year_148 : decode cX8_year 148 = .ok (.iconst 0, 1) := by decide +kernel
theorem dX8_year_149 : decode cX8_year 149 = .ok (.invokevirtual 158, 3) := by decide +kernel
theorem dX8_year_152 : decode cX8_year 152 = .ok (.ireturn, 1) := by decide +kernel
theorem dX8_keep_0 : decode cX8_keep 0 = .ok (.aload_n 0, 1) := by decide +kernel
theorem dX8_keep_1 : decode cX8_keep 1 = .ok (.getfield 121, 3) := by decide +kernel
theorem dX8_keep_4 : decode cX8_keep 4 = .ok (.iconst 2, 1) := by decide +kernel
theorem dX8_keep_5 : decode cX8_keep 5 = .ok (.if_icmp .ne 6, 3) := by decide +kernel
theorem dX8_keep_8 : decode cX8_keep 8 = .ok (.bipush (-3), 2) := by decide +kernel
theorem dX8_keep_10 : decode cX8_keep 10 = .ok (.ireturn, 1) := by decide +kernel
theorem dX8_keep_11 : decode cX8_keep 11 = .ok (.aload_n 0, 1) := by decide +kernel
theorem dX8_keep_12 : decode cX8_keep 12 = .ok (.getfield 25, 3) := by decide +kernel
theorem dX8_keep_15 : decode cX8_keep 15 = .ok (.bipush 17, 2) := by decide +kernel
theorem dX8_keep_17 : decode cX8_keep 17 = .ok (.aload_n 0, 1) := by decide +kernel
theorem dX8_keep_18 : decode cX8_keep 18 = .ok (.getfield 121, 3) := by decide +kernel
theorem dX8_keep_21 : decode cX8_keep 21 = .ok (.imul, 1) := by decide +kernel
theorem dX8_keep_22 : decode cX8_keep 22 = .ok (.aload_n 0, 1) := by decide +kernel
theorem dX8_keep_23 : decode cX8_keep 23 = .ok (.getfield 16, 3) := by decide +kernel
theorem dX8_keep_26 : decode cX8_keep 26 = .ok (.bipush 17, 2) := by decide +kernel
theorem dX8_keep_28 : decode cX8_keep 28 = .ok (.invokestatic 114, 3) := by decide +kernel
theorem dX8_keep_31 : decode cX8_keep 31 = .ok (.aload_n 0, 1) := by decide +kernel
theorem dX8_keep_32 : decode cX8_keep 32 = .ok (.dup, 1) := by decide +kernel
theorem dX8_keep_33 : decode cX8_keep 33 = .ok (.getfield 121, 3) := by decide +kernel
theorem dX8_keep_36 : decode cX8_keep 36 = .ok (.iconst 1, 1) := by decide +kernel
theorem dX8_keep_37 : decode cX8_keep 37 = .ok (.iadd, 1) := by decide +kernel
theorem dX8_keep_38 : decode cX8_keep 38 = .ok (.putfield 121, 3) := by decide +kernel
theorem dX8_keep_41 : decode cX8_keep 41 = .ok (.aload_n 0, 1) := by decide +kernel
theorem dX8_keep_42 : decode cX8_keep 42 = .ok (.getfield 121, 3) := by decide +kernel
theorem dX8_keep_45 : decode cX8_keep 45 = .ok (.ireturn, 1) := by decide +kernel
theorem dX8_back_0 : decode cX8_back 0 = .ok (.aload_n 0, 1) := by decide +kernel
theorem dX8_back_1 : decode cX8_back 1 = .ok (.getfield 121, 3) := by decide +kernel
theorem dX8_back_4 : decode cX8_back 4 = .ok (.ifCond .ne 6, 3) := by decide +kernel
theorem dX8_back_7 : decode cX8_back 7 = .ok (.bipush (-2), 2) := by decide +kernel
theorem dX8_back_9 : decode cX8_back 9 = .ok (.ireturn, 1) := by decide +kernel
theorem dX8_back_10 : decode cX8_back 10 = .ok (.aload_n 0, 1) := by decide +kernel
theorem dX8_back_11 : decode cX8_back 11 = .ok (.dup, 1) := by decide +kernel
theorem dX8_back_12 : decode cX8_back 12 = .ok (.getfield 121, 3) := by decide +kernel
theorem dX8_back_15 : decode cX8_back 15 = .ok (.iconst 1, 1) := by decide +kernel
theorem dX8_back_16 : decode cX8_back 16 = .ok (.isub, 1) := by decide +kernel
theorem dX8_back_17 : decode cX8_back 17 = .ok (.putfield 121, 3) := by decide +kernel
theorem dX8_back_20 : decode cX8_back 20 = .ok (.iconst 0, 1) := by decide +kernel
theorem dX8_back_21 : decode cX8_back 21 = .ok (.istore_n 1, 1) := by decide +kernel
theorem dX8_back_22 : decode cX8_back 22 = .ok (.iload_n 1, 1) := by decide +kernel
theorem dX8_back_23 : decode cX8_back 23 = .ok (.bipush 17, 2) := by decide +kernel
theorem dX8_back_25 : decode cX8_back 25 = .ok (.if_icmp .ge 29, 3) := by decide +kernel
theorem dX8_back_28 : decode cX8_back 28 = .ok (.aload_n 0, 1) := by decide +kernel
theorem dX8_back_29 : decode cX8_back 29 = .ok (.getfield 16, 3) := by decide +kernel
theorem dX8_back_32 : decode cX8_back 32 = .ok (.iload_n 1, 1) := by decide +kernel
theorem dX8_back_33 : decode cX8_back 33 = .ok (.aload_n 0, 1) := by decide +kernel
theorem dX8_back_34 : decode cX8_back 34 = .ok (.getfield 25, 3) := by decide +kernel
theorem dX8_back_37 : decode cX8_back 37 = .ok (.bipush 17, 2) := by decide +kernel
theorem dX8_back_39 : decode cX8_back 39 = .ok (.aload_n 0, 1) := by decide +kernel
theorem dX8_back_40 : decode cX8_back 40 = .ok (.getfield 121, 3) := by decide +kernel
theorem dX8_back_43 : decode cX8_back 43 = .ok (.imul, 1) := by decide +kernel
theorem dX8_back_44 : decode cX8_back 44 = .ok (.iload_n 1, 1) := by decide +kernel
theorem dX8_back_45 : decode cX8_back 45 = .ok (.iadd, 1) := by decide +kernel
theorem dX8_back_46 : decode cX8_back 46 = .ok (.iaload, 1) := by decide +kernel
theorem dX8_back_47 : decode cX8_back 47 = .ok (.iastore, 1) := by decide +kernel
theorem dX8_back_48 : decode cX8_back 48 = .ok (.iinc 1 1, 3) := by decide +kernel
theorem dX8_back_51 : decode cX8_back 51 = .ok (.goto (-29), 3) := by decide +kernel
theorem dX8_back_54 : decode cX8_back 54 = .ok (.aload_n 0, 1) := by decide +kernel
theorem dX8_back_55 : decode cX8_back 55 = .ok (.iconst 0, 1) := by decide +kernel
theorem dX8_back_56 : decode cX8_back 56 = .ok (.putfield 118, 3) := by decide +kernel
theorem dX8_back_59 : decode cX8_back 59 = .ok (.aload_n 0, 1) := by decide +kernel
theorem dX8_back_60 : decode cX8_back 60 = .ok (.getfield 121, 3) := by decide +kernel
theorem dX8_back_63 : decode cX8_back 63 = .ok (.ireturn, 1) := by decide +kernel
theorem dX8_count_0 : decode cX8_count 0 = .ok (.iload_n 1, 1) := by decide +kernel
theorem dX8_count_1 : decode cX8_count 1 = .ok (.tableswitch 71 0 5 #[39, 44, 51, 56, 61, 66], 39) := by decide +kernel
theorem dX8_count_40 : decode cX8_count 40 = .ok (.aload_n 0, 1) := by decide +kernel
theorem dX8_count_41 : decode cX8_count 41 = .ok (.getfield 73, 3) := by decide +kernel
theorem dX8_count_44 : decode cX8_count 44 = .ok (.ireturn, 1) := by decide +kernel
theorem dX8_count_45 : decode cX8_count 45 = .ok (.aload_n 0, 1) := by decide +kernel
theorem dX8_count_46 : decode cX8_count 46 = .ok (.getfield 16, 3) := by decide +kernel
theorem dX8_count_49 : decode cX8_count 49 = .ok (.iconst 0, 1) := by decide +kernel
theorem dX8_count_50 : decode cX8_count 50 = .ok (.iaload, 1) := by decide +kernel
theorem dX8_count_51 : decode cX8_count 51 = .ok (.ireturn, 1) := by decide +kernel
theorem dX8_count_52 : decode cX8_count 52 = .ok (.aload_n 0, 1) := by decide +kernel
theorem dX8_count_53 : decode cX8_count 53 = .ok (.getfield 124, 3) := by decide +kernel
theorem dX8_count_56 : decode cX8_count 56 = .ok (.ireturn, 1) := by decide +kernel
theorem dX8_count_57 : decode cX8_count 57 = .ok (.aload_n 0, 1) := by decide +kernel
theorem dX8_count_58 : decode cX8_count 58 = .ok (.getfield 118, 3) := by decide +kernel
theorem dX8_count_61 : decode cX8_count 61 = .ok (.ireturn, 1) := by decide +kernel
theorem dX8_count_62 : decode cX8_count 62 = .ok (.aload_n 0, 1) := by decide +kernel
theorem dX8_count_63 : decode cX8_count 63 = .ok (.getfield 121, 3) := by decide +kernel
theorem dX8_count_66 : decode cX8_count 66 = .ok (.ireturn, 1) := by decide +kernel
theorem dX8_count_67 : decode cX8_count 67 = .ok (.aload_n 0, 1) := by decide +kernel
theorem dX8_count_68 : decode cX8_count 68 = .ok (.getfield 80, 3) := by decide +kernel
theorem dX8_count_71 : decode cX8_count 71 = .ok (.ireturn, 1) := by decide +kernel
theorem dX8_count_72 : decode cX8_count 72 = .ok (.iconst (-1), 1) := by decide +kernel
theorem dX8_count_73 : decode cX8_count 73 = .ok (.ireturn, 1) := by decide +kernel
theorem dL_law_0 : decode cL_law 0 = .ok (.new 7, 3) := by decide +kernel
theorem dL_law_3 : decode cL_law 3 = .ok (.dup, 1) := by decide +kernel
theorem dL_law_4 : decode cL_law 4 = .ok (.invokespecial 9, 3) := by decide +kernel
theorem dL_law_7 : decode cL_law 7 = .ok (.astore_n 1, 1) := by decide +kernel
theorem dL_law_8 : decode cL_law 8 = .ok (.new 10, 3) := by decide +kernel
theorem dL_law_11 : decode cL_law 11 = .ok (.dup, 1) := by decide +kernel
theorem dL_law_12 : decode cL_law 12 = .ok (.invokespecial 12, 3) := by decide +kernel
theorem dL_law_15 : decode cL_law 15 = .ok (.astore_n 2, 1) := by decide +kernel
theorem dL_law_16 : decode cL_law 16 = .ok (.iconst 0, 1) := by decide +kernel
theorem dL_law_17 : decode cL_law 17 = .ok (.istore_n 3, 1) := by decide +kernel
theorem dL_law_18 : decode cL_law 18 = .ok (.iload_n 3, 1) := by decide +kernel
theorem dL_law_19 : decode cL_law 19 = .ok (.aload_n 0, 1) := by decide +kernel
theorem dL_law_20 : decode cL_law 20 = .ok (.arraylength, 1) := by decide +kernel
theorem dL_law_21 : decode cL_law 21 = .ok (.iconst 5, 1) := by decide +kernel
theorem dL_law_22 : decode cL_law 22 = .ok (.isub, 1) := by decide +kernel
theorem dL_law_23 : decode cL_law 23 = .ok (.if_icmp .gt 971, 3) := by decide +kernel
theorem dL_law_26 : decode cL_law 26 = .ok (.aload_n 0, 1) := by decide +kernel
theorem dL_law_27 : decode cL_law 27 = .ok (.iload_n 3, 1) := by decide +kernel
theorem dL_law_28 : decode cL_law 28 = .ok (.iaload, 1) := by decide +kernel
theorem dL_law_29 : decode cL_law 29 = .ok (.bipush 31, 2) := by decide +kernel
theorem dL_law_31 : decode cL_law 31 = .ok (.iand, 1) := by decide +kernel
theorem dL_law_32 : decode cL_law 32 = .ok (.tableswitch 956 0 29 #[136, 159, 172, 185, 198, 231, 264, 287, 320, 353, 366, 399, 432, 465, 488, 511, 554, 587, 620, 633, 676, 719, 732, 765, 818, 841, 864, 907, 920, 933], 136) := by decide +kernel
theorem dL_law_168 : decode cL_law 168 = .ok (.aload_n 1, 1) := by decide +kernel
theorem dL_law_169 : decode cL_law 169 = .ok (.aload_n 0, 1) := by decide +kernel
theorem dL_law_170 : decode cL_law 170 = .ok (.iload_n 3, 1) := by decide +kernel
theorem dL_law_171 : decode cL_law 171 = .ok (.iconst 1, 1) := by decide +kernel
theorem dL_law_172 : decode cL_law 172 = .ok (.iadd, 1) := by decide +kernel
theorem dL_law_173 : decode cL_law 173 = .ok (.iaload, 1) := by decide +kernel
theorem dL_law_174 : decode cL_law 174 = .ok (.invokevirtual 13, 3) := by decide +kernel
theorem dL_law_177 : decode cL_law 177 = .ok (.aload_n 2, 1) := by decide +kernel
theorem dL_law_178 : decode cL_law 178 = .ok (.aload_n 0, 1) := by decide +kernel
theorem dL_law_179 : decode cL_law 179 = .ok (.iload_n 3, 1) := by decide +kernel
theorem dL_law_180 : decode cL_law 180 = .ok (.iconst 1, 1) := by decide +kernel
theorem dL_law_181 : decode cL_law 181 = .ok (.iadd, 1) := by decide +kernel
theorem dL_law_182 : decode cL_law 182 = .ok (.iaload, 1) := by decide +kernel
theorem dL_law_183 : decode cL_law 183 = .ok (.invokevirtual 17, 3) := by decide +kernel
theorem dL_law_186 : decode cL_law 186 = .ok (.if_icmp .eq 802, 3) := by decide +kernel
theorem dL_law_189 : decode cL_law 189 = .ok (.iconst 0, 1) := by decide +kernel
theorem dL_law_190 : decode cL_law 190 = .ok (.ireturn, 1) := by decide +kernel
