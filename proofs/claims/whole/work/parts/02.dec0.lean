theorem dX0_init_0 : decode cX0_init 0 = .ok (.aload_n 0, 1) := by decide +kernel
theorem dX0_init_1 : decode cX0_init 1 = .ok (.invokespecial 1, 3) := by decide +kernel
theorem dX0_init_4 : decode cX0_init 4 = .ok (.aload_n 0, 1) := by decide +kernel
theorem dX0_init_5 : decode cX0_init 5 = .ok (.iconst 1, 1) := by decide +kernel
theorem dX0_init_6 : decode cX0_init 6 = .ok (.iload_n 1, 1) := by decide +kernel
theorem dX0_init_7 : decode cX0_init 7 = .ok (.invokestatic 7, 3) := by decide +kernel
theorem dX0_init_10 : decode cX0_init 10 = .ok (.anewarray 13, 3) := by decide +kernel
theorem dX0_init_13 : decode cX0_init 13 = .ok (.putfield 15, 3) := by decide +kernel
theorem dX0_init_16 : decode cX0_init 16 = .ok (.iconst 0, 1) := by decide +kernel
theorem dX0_init_17 : decode cX0_init 17 = .ok (.istore_n 2, 1) := by decide +kernel
theorem dX0_init_18 : decode cX0_init 18 = .ok (.iload_n 2, 1) := by decide +kernel
theorem dX0_init_19 : decode cX0_init 19 = .ok (.aload_n 0, 1) := by decide +kernel
theorem dX0_init_20 : decode cX0_init 20 = .ok (.getfield 15, 3) := by decide +kernel
theorem dX0_init_23 : decode cX0_init 23 = .ok (.arraylength, 1) := by decide +kernel
theorem dX0_init_24 : decode cX0_init 24 = .ok (.if_icmp .ge 22, 3) := by decide +kernel
theorem dX0_init_27 : decode cX0_init 27 = .ok (.aload_n 0, 1) := by decide +kernel
theorem dX0_init_28 : decode cX0_init 28 = .ok (.getfield 15, 3) := by decide +kernel
theorem dX0_init_31 : decode cX0_init 31 = .ok (.iload_n 2, 1) := by decide +kernel
theorem dX0_init_32 : decode cX0_init 32 = .ok (.new 13, 3) := by decide +kernel
theorem dX0_init_35 : decode cX0_init 35 = .ok (.dup, 1) := by decide +kernel
theorem dX0_init_36 : decode cX0_init 36 = .ok (.invokespecial 21, 3) := by decide +kernel
theorem dX0_init_39 : decode cX0_init 39 = .ok (.aastore, 1) := by decide +kernel
theorem dX0_init_40 : decode cX0_init 40 = .ok (.iinc 2 1, 3) := by decide +kernel
theorem dX0_init_43 : decode cX0_init 43 = .ok (.goto (-25), 3) := by decide +kernel
theorem dX0_init_46 : decode cX0_init 46 = .ok (.return_, 1) := by decide +kernel
theorem dX0_isFull_0 : decode cX0_isFull 0 = .ok (.aload_n 0, 1) := by decide +kernel
theorem dX0_isFull_1 : decode cX0_isFull 1 = .ok (.getfield 22, 3) := by decide +kernel
theorem dX0_isFull_4 : decode cX0_isFull 4 = .ok (.aload_n 0, 1) := by decide +kernel
theorem dX0_isFull_5 : decode cX0_isFull 5 = .ok (.getfield 15, 3) := by decide +kernel
theorem dX0_isFull_8 : decode cX0_isFull 8 = .ok (.arraylength, 1) := by decide +kernel
theorem dX0_isFull_9 : decode cX0_isFull 9 = .ok (.if_icmp .lt 7, 3) := by decide +kernel
theorem dX0_isFull_12 : decode cX0_isFull 12 = .ok (.iconst 1, 1) := by decide +kernel
theorem dX0_isFull_13 : decode cX0_isFull 13 = .ok (.goto 4, 3) := by decide +kernel
theorem dX0_isFull_16 : decode cX0_isFull 16 = .ok (.iconst 0, 1) := by decide +kernel
theorem dX0_isFull_17 : decode cX0_isFull 17 = .ok (.ireturn, 1) := by decide +kernel
theorem dX0_size_0 : decode cX0_size 0 = .ok (.aload_n 0, 1) := by decide +kernel
theorem dX0_size_1 : decode cX0_size 1 = .ok (.getfield 22, 3) := by decide +kernel
theorem dX0_size_4 : decode cX0_size 4 = .ok (.ireturn, 1) := by decide +kernel
theorem dX0_clear_0 : decode cX0_clear 0 = .ok (.aload_n 0, 1) := by decide +kernel
theorem dX0_clear_1 : decode cX0_clear 1 = .ok (.iconst 0, 1) := by decide +kernel
theorem dX0_clear_2 : decode cX0_clear 2 = .ok (.putfield 22, 3) := by decide +kernel
theorem dX0_clear_5 : decode cX0_clear 5 = .ok (.return_, 1) := by decide +kernel
theorem dX0_push_0 : decode cX0_push 0 = .ok (.aload_n 0, 1) := by decide +kernel
theorem dX0_push_1 : decode cX0_push 1 = .ok (.invokevirtual 26, 3) := by decide +kernel
theorem dX0_push_4 : decode cX0_push 4 = .ok (.ifCond .eq 7, 3) := by decide +kernel
theorem dX0_push_7 : decode cX0_push 7 = .ok (.aload_n 0, 1) := by decide +kernel
theorem dX0_push_8 : decode cX0_push 8 = .ok (.invokevirtual 30, 3) := by decide +kernel
theorem dX0_push_11 : decode cX0_push 11 = .ok (.aload_n 0, 1) := by decide +kernel
theorem dX0_push_12 : decode cX0_push 12 = .ok (.aload_n 0, 1) := by decide +kernel
theorem dX0_push_13 : decode cX0_push 13 = .ok (.getfield 22, 3) := by decide +kernel
theorem dX0_push_16 : decode cX0_push 16 = .ok (.invokevirtual 33, 3) := by decide +kernel
theorem dX0_push_19 : decode cX0_push 19 = .ok (.astore_n 2, 1) := by decide +kernel
theorem dX0_push_20 : decode cX0_push 20 = .ok (.aload_n 2, 1) := by decide +kernel
theorem dX0_push_21 : decode cX0_push 21 = .ok (.ifnull 18, 3) := by decide +kernel
theorem dX0_push_24 : decode cX0_push 24 = .ok (.aload_n 2, 1) := by decide +kernel
theorem dX0_push_25 : decode cX0_push 25 = .ok (.aload_n 1, 1) := by decide +kernel
theorem dX0_push_26 : decode cX0_push 26 = .ok (.invokevirtual 37, 3) := by decide +kernel
theorem dX0_push_29 : decode cX0_push 29 = .ok (.aload_n 0, 1) := by decide +kernel
theorem dX0_push_30 : decode cX0_push 30 = .ok (.dup, 1) := by decide +kernel
theorem dX0_push_31 : decode cX0_push 31 = .ok (.getfield 22, 3) := by decide +kernel
theorem dX0_push_34 : decode cX0_push 34 = .ok (.iconst 1, 1) := by decide +kernel
theorem dX0_push_35 : decode cX0_push 35 = .ok (.iadd, 1) := by decide +kernel
theorem dX0_push_36 : decode cX0_push 36 = .ok (.putfield 22, 3) := by decide +kernel
theorem dX0_push_39 : decode cX0_push 39 = .ok (.return_, 1) := by decide +kernel
theorem dX0_pop_0 : decode cX0_pop 0 = .ok (.aload_n 0, 1) := by decide +kernel
theorem dX0_pop_1 : decode cX0_pop 1 = .ok (.aload_n 0, 1) := by decide +kernel
theorem dX0_pop_2 : decode cX0_pop 2 = .ok (.getfield 22, 3) := by decide +kernel
theorem dX0_pop_5 : decode cX0_pop 5 = .ok (.iconst 1, 1) := by decide +kernel
theorem dX0_pop_6 : decode cX0_pop 6 = .ok (.isub, 1) := by decide +kernel
theorem dX0_pop_7 : decode cX0_pop 7 = .ok (.invokevirtual 33, 3) := by decide +kernel
theorem dX0_pop_10 : decode cX0_pop 10 = .ok (.astore_n 2, 1) := by decide +kernel
theorem dX0_pop_11 : decode cX0_pop 11 = .ok (.aload_n 2, 1) := by decide +kernel
theorem dX0_pop_12 : decode cX0_pop 12 = .ok (.ifnonnull 5, 3) := by decide +kernel
theorem dX0_pop_15 : decode cX0_pop 15 = .ok (.iconst 0, 1) := by decide +kernel
theorem dX0_pop_16 : decode cX0_pop 16 = .ok (.ireturn, 1) := by decide +kernel
theorem dX0_pop_17 : decode cX0_pop 17 = .ok (.aload_n 1, 1) := by decide +kernel
theorem dX0_pop_18 : decode cX0_pop 18 = .ok (.aload_n 2, 1) := by decide +kernel
theorem dX0_pop_19 : decode cX0_pop 19 = .ok (.invokevirtual 37, 3) := by decide +kernel
theorem dX0_pop_22 : decode cX0_pop 22 = .ok (.aload_n 0, 1) := by decide +kernel
theorem dX0_pop_23 : decode cX0_pop 23 = .ok (.dup, 1) := by decide +kernel
theorem dX0_pop_24 : decode cX0_pop 24 = .ok (.getfield 22, 3) := by decide +kernel
theorem dX0_pop_27 : decode cX0_pop 27 = .ok (.iconst 1, 1) := by decide +kernel
theorem dX0_pop_28 : decode cX0_pop 28 = .ok (.isub, 1) := by decide +kernel
theorem dX0_pop_29 : decode cX0_pop 29 = .ok (.putfield 22, 3) := by decide +kernel
theorem dX0_pop_32 : decode cX0_pop 32 = .ok (.iconst 1, 1) := by decide +kernel
theorem dX0_pop_33 : decode cX0_pop 33 = .ok (.ireturn, 1) := by decide +kernel
theorem dX0_standingAt_0 : decode cX0_standingAt 0 = .ok (.iload_n 1, 1) := by decide +kernel
theorem dX0_standingAt_1 : decode cX0_standingAt 1 = .ok (.ifCond .lt 21, 3) := by decide +kernel
theorem dX0_standingAt_4 : decode cX0_standingAt 4 = .ok (.iload_n 1, 1) := by decide +kernel
theorem dX0_standingAt_5 : decode cX0_standingAt 5 = .ok (.aload_n 0, 1) := by decide +kernel
theorem dX0_standingAt_6 : decode cX0_standingAt 6 = .ok (.getfield 15, 3) := by decide +kernel
theorem dX0_standingAt_9 : decode cX0_standingAt 9 = .ok (.arraylength, 1) := by decide +kernel
theorem dX0_standingAt_10 : decode cX0_standingAt 10 = .ok (.if_icmp .ge 12, 3) := by decide +kernel
theorem dX0_standingAt_13 : decode cX0_standingAt 13 = .ok (.aload_n 0, 1) := by decide +kernel
theorem dX0_standingAt_14 : decode cX0_standingAt 14 = .ok (.getfield 15, 3) := by decide +kernel
theorem dX0_standingAt_17 : decode cX0_standingAt 17 = .ok (.iload_n 1, 1) := by decide +kernel
theorem dX0_standingAt_18 : decode cX0_standingAt 18 = .ok (.aaload, 1) := by decide +kernel
theorem dX0_standingAt_19 : decode cX0_standingAt 19 = .ok (.goto 4, 3) := by decide +kernel
theorem dX0_standingAt_22 : decode cX0_standingAt 22 = .ok (.aconst_null, 1) := by decide +kernel
theorem dX0_standingAt_23 : decode cX0_standingAt 23 = .ok (.areturn, 1) := by decide +kernel
theorem dX0_loseLowest_0 : decode cX0_loseLowest 0 = .ok (.iconst 0, 1) := by decide +kernel
theorem dX0_loseLowest_1 : decode cX0_loseLowest 1 = .ok (.istore_n 1, 1) := by decide +kernel
theorem dX0_loseLowest_2 : decode cX0_loseLowest 2 = .ok (.iload_n 1, 1) := by decide +kernel
theorem dX0_loseLowest_3 : decode cX0_loseLowest 3 = .ok (.iconst 1, 1) := by decide +kernel
theorem dX0_loseLowest_4 : decode cX0_loseLowest 4 = .ok (.iadd, 1) := by decide +kernel
theorem dX0_loseLowest_5 : decode cX0_loseLowest 5 = .ok (.aload_n 0, 1) := by decide +kernel
theorem dX0_loseLowest_6 : decode cX0_loseLowest 6 = .ok (.getfield 22, 3) := by decide +kernel
theorem dX0_loseLowest_9 : decode cX0_loseLowest 9 = .ok (.if_icmp .ge 36, 3) := by decide +kernel
theorem dX0_loseLowest_12 : decode cX0_loseLowest 12 = .ok (.aload_n 0, 1) := by decide +kernel
theorem dX0_loseLowest_13 : decode cX0_loseLowest 13 = .ok (.iload_n 1, 1) := by decide +kernel
theorem dX0_loseLowest_14 : decode cX0_loseLowest 14 = .ok (.invokevirtual 33, 3) := by decide +kernel
theorem dX0_loseLowest_17 : decode cX0_loseLowest 17 = .ok (.astore_n 2, 1) := by decide +kernel
theorem dX0_loseLowest_18 : decode cX0_loseLowest 18 = .ok (.aload_n 0, 1) := by decide +kernel
theorem dX0_loseLowest_19 : decode cX0_loseLowest 19 = .ok (.iload_n 1, 1) := by decide +kernel
theorem dX0_loseLowest_20 : decode cX0_loseLowest 20 = .ok (.iconst 1, 1) := by decide +kernel
theorem dX0_loseLowest_21 : decode cX0_loseLowest 21 = .ok (.iadd, 1) := by decide +kernel
theorem dX0_loseLowest_22 : decode cX0_loseLowest 22 = .ok (.invokevirtual 33, 3) := by decide +kernel
theorem dX0_loseLowest_25 : decode cX0_loseLowest 25 = .ok (.astore_n 3, 1) := by decide +kernel
theorem dX0_loseLowest_26 : decode cX0_loseLowest 26 = .ok (.aload_n 2, 1) := by decide +kernel
theorem dX0_loseLowest_27 : decode cX0_loseLowest 27 = .ok (.ifnull 12, 3) := by decide +kernel
theorem dX0_loseLowest_30 : decode cX0_loseLowest 30 = .ok (.aload_n 3, 1) := by decide +kernel
theorem dX0_loseLowest_31 : decode cX0_loseLowest 31 = .ok (.ifnull 8, 3) := by decide +kernel
theorem dX0_loseLowest_34 : decode cX0_loseLowest 34 = .ok (.aload_n 2, 1) := by decide +kernel
theorem dX0_loseLowest_35 : decode cX0_loseLowest 35 = .ok (.aload_n 3, 1) := by decide +kernel
theorem dX0_loseLowest_36 : decode cX0_loseLowest 36 = .ok (.invokevirtual 37, 3) := by decide +kernel
theorem dX0_loseLowest_39 : decode cX0_loseLowest 39 = .ok (.iinc 1 1, 3) := by decide +kernel
theorem dX0_loseLowest_42 : decode cX0_loseLowest 42 = .ok (.goto (-40), 3) := by decide +kernel
theorem dX0_loseLowest_45 : decode cX0_loseLowest 45 = .ok (.aload_n 0, 1) := by decide +kernel
theorem dX0_loseLowest_46 : decode cX0_loseLowest 46 = .ok (.iconst 0, 1) := by decide +kernel
theorem dX0_loseLowest_47 : decode cX0_loseLowest 47 = .ok (.aload_n 0, 1) := by decide +kernel
theorem dX0_loseLowest_48 : decode cX0_loseLowest 48 = .ok (.getfield 22, 3) := by decide +kernel
theorem dX0_loseLowest_51 : decode cX0_loseLowest 51 = .ok (.iconst 1, 1) := by decide +kernel
theorem dX0_loseLowest_52 : decode cX0_loseLowest 52 = .ok (.isub, 1) := by decide +kernel
theorem dX0_loseLowest_53 : decode cX0_loseLowest 53 = .ok (.invokestatic 7, 3) := by decide +kernel
theorem dX0_loseLowest_56 : decode cX0_loseLowest 56 = .ok (.putfield 22, 3) := by decide +kernel
theorem dX0_loseLowest_59 : decode cX0_loseLowest 59 = .ok (.return_, 1) := by decide +kernel
theorem dX1_init_0 : decode cX1_init 0 = .ok (.aload_n 0, 1) := by decide +kernel
theorem dX1_init_1 : decode cX1_init 1 = .ok (.invokespecial 3, 3) := by decide +kernel
theorem dX1_init_4 : decode cX1_init 4 = .ok (.aload_n 0, 1) := by decide +kernel
theorem dX1_init_5 : decode cX1_init 5 = .ok (.bipush 8, 2) := by decide +kernel
theorem dX1_init_7 : decode cX1_init 7 = .ok (.newarray .int, 2) := by decide +kernel
theorem dX1_init_9 : decode cX1_init 9 = .ok (.putfield 9, 3) := by decide +kernel
theorem dX1_init_12 : decode cX1_init 12 = .ok (.aload_n 0, 1) := by decide +kernel
theorem dX1_init_13 : decode cX1_init 13 = .ok (.bipush 8, 2) := by decide +kernel
theorem dX1_init_15 : decode cX1_init 15 = .ok (.newarray .int, 2) := by decide +kernel
theorem dX1_init_17 : decode cX1_init 17 = .ok (.putfield 15, 3) := by decide +kernel
theorem dX1_init_20 : decode cX1_init 20 = .ok (.aload_n 0, 1) := by decide +kernel
theorem dX1_init_21 : decode cX1_init 21 = .ok (.bipush 8, 2) := by decide +kernel
theorem dX1_init_23 : decode cX1_init 23 = .ok (.newarray .int, 2) := by decide +kernel
theorem dX1_init_25 : decode cX1_init 25 = .ok (.putfield 18, 3) := by decide +kernel
theorem dX1_init_28 : decode cX1_init 28 = .ok (.aload_n 0, 1) := by decide +kernel
theorem dX1_init_29 : decode cX1_init 29 = .ok (.bipush 8, 2) := by decide +kernel
theorem dX1_init_31 : decode cX1_init 31 = .ok (.newarray .int, 2) := by decide +kernel
theorem dX1_init_33 : decode cX1_init 33 = .ok (.putfield 21, 3) := by decide +kernel
theorem dX1_init_36 : decode cX1_init 36 = .ok (.aload_n 0, 1) := by decide +kernel
theorem dX1_init_37 : decode cX1_init 37 = .ok (.bipush 8, 2) := by decide +kernel
theorem dX1_init_39 : decode cX1_init 39 = .ok (.newarray .int, 2) := by decide +kernel
theorem dX1_init_41 : decode cX1_init 41 = .ok (.putfield 24, 3) := by decide +kernel
theorem dX1_init_44 : decode cX1_init 44 = .ok (.return_, 1) := by decide +kernel
theorem dX1_clear_0 : decode cX1_clear 0 = .ok (.aload_n 0, 1) := by decide +kernel
theorem dX1_clear_1 : decode cX1_clear 1 = .ok (.iconst 0, 1) := by decide +kernel
theorem dX1_clear_2 : decode cX1_clear 2 = .ok (.putfield 27, 3) := by decide +kernel
theorem dX1_clear_5 : decode cX1_clear 5 = .ok (.aload_n 0, 1) := by decide +kernel
theorem dX1_clear_6 : decode cX1_clear 6 = .ok (.iconst 0, 1) := by decide +kernel
theorem dX1_clear_7 : decode cX1_clear 7 = .ok (.putfield 31, 3) := by decide +kernel
theorem dX1_clear_10 : decode cX1_clear 10 = .ok (.return_, 1) := by decide +kernel
theorem dX1_addCousin_0 : decode cX1_addCousin 0 = .ok (.aload_n 0, 1) := by decide +kernel
theorem dX1_addCousin_1 : decode cX1_addCousin 1 = .ok (.getfield 27, 3) := by decide +kernel
theorem dX1_addCousin_4 : decode cX1_addCousin 4 = .ok (.bipush 8, 2) := by decide +kernel
theorem dX1_addCousin_6 : decode cX1_addCousin 6 = .ok (.if_icmp .ge 32, 3) := by decide +kernel
theorem dX1_addCousin_9 : decode cX1_addCousin 9 = .ok (.iload_n 1, 1) := by decide +kernel
theorem dX1_addCousin_10 : decode cX1_addCousin 10 = .ok (.iconst 0, 1) := by decide +kernel
theorem dX1_addCousin_11 : decode cX1_addCousin 11 = .ok (.iconst 3, 1) := by decide +kernel
theorem dX1_addCousin_12 : decode cX1_addCousin 12 = .ok (.invokestatic 34, 3) := by decide +kernel
theorem dX1_addCousin_15 : decode cX1_addCousin 15 = .ok (.ifCond .eq 23, 3) := by decide +kernel
theorem dX1_addCousin_18 : decode cX1_addCousin 18 = .ok (.iload_n 2, 1) := by decide +kernel
theorem dX1_addCousin_19 : decode cX1_addCousin 19 = .ok (.iconst 0, 1) := by decide +kernel
theorem dX1_addCousin_20 : decode cX1_addCousin 20 = .ok (.bipush 59, 2) := by decide +kernel
theorem dX1_addCousin_22 : decode cX1_addCousin 22 = .ok (.invokestatic 34, 3) := by decide +kernel
theorem dX1_addCousin_25 : decode cX1_addCousin 25 = .ok (.ifCond .eq 13, 3) := by decide +kernel
theorem dX1_addCousin_28 : decode cX1_addCousin 28 = .ok (.iload_n 3, 1) := by decide +kernel
theorem dX1_addCousin_29 : decode cX1_addCousin 29 = .ok (.iconst 0, 1) := by decide +kernel
theorem dX1_addCousin_30 : decode cX1_addCousin 30 = .ok (.bipush 9, 2) := by decide +kernel
theorem dX1_addCousin_32 : decode cX1_addCousin 32 = .ok (.invokestatic 34, 3) := by decide +kernel
theorem dX1_addCousin_35 : decode cX1_addCousin 35 = .ok (.ifCond .ne 5, 3) := by decide +kernel
theorem dX1_addCousin_38 : decode cX1_addCousin 38 = .ok (.iconst 0, 1) := by decide +kernel
theorem dX1_addCousin_39 : decode cX1_addCousin 39 = .ok (.ireturn, 1) := by decide +kernel
theorem dX1_addCousin_40 : decode cX1_addCousin 40 = .ok (.aload_n 0, 1) := by decide +kernel
theorem dX1_addCousin_41 : decode cX1_addCousin 41 = .ok (.getfield 9, 3) := by decide +kernel
theorem dX1_addCousin_44 : decode cX1_addCousin 44 = .ok (.aload_n 0, 1) := by decide +kernel
theorem dX1_addCousin_45 : decode cX1_addCousin 45 = .ok (.getfield 27, 3) := by decide +kernel
theorem dX1_addCousin_48 : decode cX1_addCousin 48 = .ok (.iload_n 1, 1) := by decide +kernel
theorem dX1_addCousin_49 : decode cX1_addCousin 49 = .ok (.invokestatic 38, 3) := by decide +kernel
theorem dX1_addCousin_52 : decode cX1_addCousin 52 = .ok (.aload_n 0, 1) := by decide +kernel
theorem dX1_addCousin_53 : decode cX1_addCousin 53 = .ok (.getfield 15, 3) := by decide +kernel
theorem dX1_addCousin_56 : decode cX1_addCousin 56 = .ok (.aload_n 0, 1) := by decide +kernel
theorem dX1_addCousin_57 : decode cX1_addCousin 57 = .ok (.getfield 27, 3) := by decide +kernel
theorem dX1_addCousin_60 : decode cX1_addCousin 60 = .ok (.iload_n 2, 1) := by decide +kernel
theorem dX1_addCousin_61 : decode cX1_addCousin 61 = .ok (.invokestatic 38, 3) := by decide +kernel
theorem dX1_addCousin_64 : decode cX1_addCousin 64 = .ok (.aload_n 0, 1) := by decide +kernel
theorem dX1_addCousin_65 : decode cX1_addCousin 65 = .ok (.getfield 18, 3) := by decide +kernel
theorem dX1_addCousin_68 : decode cX1_addCousin 68 = .ok (.aload_n 0, 1) := by decide +kernel
theorem dX1_addCousin_69 : decode cX1_addCousin 69 = .ok (.getfield 27, 3) := by decide +kernel
theorem dX1_addCousin_72 : decode cX1_addCousin 72 = .ok (.iload_n 3, 1) := by decide +kernel
theorem dX1_addCousin_73 : decode cX1_addCousin 73 = .ok (.invokestatic 38, 3) := by decide +kernel
theorem dX1_addCousin_76 : decode cX1_addCousin 76 = .ok (.aload_n 0, 1) := by decide +kernel
theorem dX1_addCousin_77 : decode cX1_addCousin 77 = .ok (.dup, 1) := by decide +kernel
theorem dX1_addCousin_78 : decode cX1_addCousin 78 = .ok (.getfield 27, 3) := by decide +kernel
theorem dX1_addCousin_81 : decode cX1_addCousin 81 = .ok (.iconst 1, 1) := by decide +kernel
theorem dX1_addCousin_82 : decode cX1_addCousin 82 = .ok (.iadd, 1) := by decide +kernel
theorem dX1_addCousin_83 : decode cX1_addCousin 83 = .ok (.putfield 27, 3) := by decide +kernel
theorem dX1_addCousin_86 : decode cX1_addCousin 86 = .ok (.iconst 1, 1) := by decide +kernel
theorem dX1_addCousin_87 : decode cX1_addCousin 87 = .ok (.ireturn, 1) := by decide +kernel
theorem dX1_addRoom_0 : decode cX1_addRoom 0 = .ok (.aload_n 0, 1) := by decide +kernel
theorem dX1_addRoom_1 : decode cX1_addRoom 1 = .ok (.getfield 31, 3) := by decide +kernel
theorem dX1_addRoom_4 : decode cX1_addRoom 4 = .ok (.bipush 8, 2) := by decide +kernel
theorem dX1_addRoom_6 : decode cX1_addRoom 6 = .ok (.if_icmp .ge 23, 3) := by decide +kernel
theorem dX1_addRoom_9 : decode cX1_addRoom 9 = .ok (.iload_n 1, 1) := by decide +kernel
theorem dX1_addRoom_10 : decode cX1_addRoom 10 = .ok (.iconst 0, 1) := by decide +kernel
theorem dX1_addRoom_11 : decode cX1_addRoom 11 = .ok (.bipush 9, 2) := by decide +kernel
theorem dX1_addRoom_13 : decode cX1_addRoom 13 = .ok (.invokestatic 34, 3) := by decide +kernel
theorem dX1_addRoom_16 : decode cX1_addRoom 16 = .ok (.ifCond .eq 13, 3) := by decide +kernel
theorem dX1_addRoom_19 : decode cX1_addRoom 19 = .ok (.iload_n 2, 1) := by decide +kernel
theorem dX1_addRoom_20 : decode cX1_addRoom 20 = .ok (.iconst 0, 1) := by decide +kernel
theorem dX1_addRoom_21 : decode cX1_addRoom 21 = .ok (.bipush 9, 2) := by decide +kernel
theorem dX1_addRoom_23 : decode cX1_addRoom 23 = .ok (.invokestatic 34, 3) := by decide +kernel
theorem dX1_addRoom_26 : decode cX1_addRoom 26 = .ok (.ifCond .ne 5, 3) := by decide +kernel
theorem dX1_addRoom_29 : decode cX1_addRoom 29 = .ok (.iconst 0, 1) := by decide +kernel
theorem dX1_addRoom_30 : decode cX1_addRoom 30 = .ok (.ireturn, 1) := by decide +kernel
theorem dX1_addRoom_31 : decode cX1_addRoom 31 = .ok (.aload_n 0, 1) := by decide +kernel
theorem dX1_addRoom_32 : decode cX1_addRoom 32 = .ok (.getfield 21, 3) := by decide +kernel
theorem dX1_addRoom_35 : decode cX1_addRoom 35 = .ok (.aload_n 0, 1) := by decide +kernel
theorem dX1_addRoom_36 : decode cX1_addRoom 36 = .ok (.getfield 31, 3) := by decide +kernel
theorem dX1_addRoom_39 : decode cX1_addRoom 39 = .ok (.iload_n 1, 1) := by decide +kernel
theorem dX1_addRoom_40 : decode cX1_addRoom 40 = .ok (.invokestatic 38, 3) := by decide +kernel
theorem dX1_addRoom_43 : decode cX1_addRoom 43 = .ok (.aload_n 0, 1) := by decide +kernel
theorem dX1_addRoom_44 : decode cX1_addRoom 44 = .ok (.getfield 24, 3) := by decide +kernel
theorem dX1_addRoom_47 : decode cX1_addRoom 47 = .ok (.aload_n 0, 1) := by decide +kernel
theorem dX1_addRoom_48 : decode cX1_addRoom 48 = .ok (.getfield 31, 3) := by decide +kernel
theorem dX1_addRoom_51 : decode cX1_addRoom 51 = .ok (.iload_n 2, 1) := by decide +kernel
theorem dX1_addRoom_52 : decode cX1_addRoom 52 = .ok (.invokestatic 38, 3) := by decide +kernel
theorem dX1_addRoom_55 : decode cX1_addRoom 55 = .ok (.aload_n 0, 1) := by decide +kernel
theorem dX1_addRoom_56 : decode cX1_addRoom 56 = .ok (.dup, 1) := by decide +kernel
theorem dX1_addRoom_57 : decode cX1_addRoom 57 = .ok (.getfield 31, 3) := by decide +kernel
theorem dX1_addRoom_60 : decode cX1_addRoom 60 = .ok (.iconst 1, 1) := by decide +kernel
theorem dX1_addRoom_61 : decode cX1_addRoom 61 = .ok (.iadd, 1) := by decide +kernel
theorem dX1_addRoom_62 : decode cX1_addRoom 62 = .ok (.putfield 31, 3) := by decide +kernel
theorem dX1_addRoom_65 : decode cX1_addRoom 65 = .ok (.iconst 1, 1) := by decide +kernel
theorem dX1_addRoom_66 : decode cX1_addRoom 66 = .ok (.ireturn, 1) := by decide +kernel
theorem dX1_canBeLaid_0 : decode cX1_canBeLaid 0 = .ok (.aload_n 0, 1) := by decide +kernel
theorem dX1_canBeLaid_1 : decode cX1_canBeLaid 1 = .ok (.getfield 27, 3) := by decide +kernel
theorem dX1_canBeLaid_4 : decode cX1_canBeLaid 4 = .ok (.iconst 1, 1) := by decide +kernel
theorem dX1_canBeLaid_5 : decode cX1_canBeLaid 5 = .ok (.if_icmp .lt 18, 3) := by decide +kernel
theorem dX1_canBeLaid_8 : decode cX1_canBeLaid 8 = .ok (.aload_n 0, 1) := by decide +kernel
theorem dX1_canBeLaid_9 : decode cX1_canBeLaid 9 = .ok (.getfield 31, 3) := by decide +kernel
theorem dX1_canBeLaid_12 : decode cX1_canBeLaid 12 = .ok (.aload_n 0, 1) := by decide +kernel
theorem dX1_canBeLaid_13 : decode cX1_canBeLaid 13 = .ok (.getfield 27, 3) := by decide +kernel
theorem dX1_canBeLaid_16 : decode cX1_canBeLaid 16 = .ok (.if_icmp .ne 7, 3) := by decide +kernel
theorem dX1_canBeLaid_19 : decode cX1_canBeLaid 19 = .ok (.iconst 1, 1) := by decide +kernel
theorem dX1_canBeLaid_20 : decode cX1_canBeLaid 20 = .ok (.goto 4, 3) := by decide +kernel
theorem dX1_canBeLaid_23 : decode cX1_canBeLaid 23 = .ok (.iconst 0, 1) := by decide +kernel
theorem dX1_canBeLaid_24 : decode cX1_canBeLaid 24 = .ok (.ireturn, 1) := by decide +kernel
theorem dX1_copyFrom_0 : decode cX1_copyFrom 0 = .ok (.aload_n 0, 1) := by decide +kernel
theorem dX1_copyFrom_1 : decode cX1_copyFrom 1 = .ok (.aload_n 1, 1) := by decide +kernel
theorem dX1_copyFrom_2 : decode cX1_copyFrom 2 = .ok (.getfield 27, 3) := by decide +kernel
theorem dX1_copyFrom_5 : decode cX1_copyFrom 5 = .ok (.putfield 27, 3) := by decide +kernel
theorem dX1_copyFrom_8 : decode cX1_copyFrom 8 = .ok (.aload_n 0, 1) := by decide +kernel
theorem dX1_copyFrom_9 : decode cX1_copyFrom 9 = .ok (.aload_n 1, 1) := by decide +kernel
theorem dX1_copyFrom_10 : decode cX1_copyFrom 10 = .ok (.getfield 31, 3) := by decide +kernel
theorem dX1_copyFrom_13 : decode cX1_copyFrom 13 = .ok (.putfield 31, 3) := by decide +kernel
theorem dX1_copyFrom_16 : decode cX1_copyFrom 16 = .ok (.aload_n 1, 1) := by decide +kernel
theorem dX1_copyFrom_17 : decode cX1_copyFrom 17 = .ok (.getfield 9, 3) := by decide +kernel
theorem dX1_copyFrom_20 : decode cX1_copyFrom 20 = .ok (.aload_n 0, 1) := by decide +kernel
theorem dX1_copyFrom_21 : decode cX1_copyFrom 21 = .ok (.getfield 9, 3) := by decide +kernel
theorem dX1_copyFrom_24 : decode cX1_copyFrom 24 = .ok (.invokestatic 42, 3) := by decide +kernel
theorem dX1_copyFrom_27 : decode cX1_copyFrom 27 = .ok (.aload_n 1, 1) := by decide +kernel
theorem dX1_copyFrom_28 : decode cX1_copyFrom 28 = .ok (.getfield 15, 3) := by decide +kernel
theorem dX1_copyFrom_31 : decode cX1_copyFrom 31 = .ok (.aload_n 0, 1) := by decide +kernel
theorem dX1_copyFrom_32 : decode cX1_copyFrom 32 = .ok (.getfield 15, 3) := by decide +kernel
theorem dX1_copyFrom_35 : decode cX1_copyFrom 35 = .ok (.invokestatic 42, 3) := by decide +kernel
theorem dX1_copyFrom_38 : decode cX1_copyFrom 38 = .ok (.aload_n 1, 1) := by decide +kernel
theorem dX1_copyFrom_39 : decode cX1_copyFrom 39 = .ok (.getfield 18, 3) := by decide +kernel
theorem dX1_copyFrom_42 : decode cX1_copyFrom 42 = .ok (.aload_n 0, 1) := by decide +kernel
theorem dX1_copyFrom_43 : decode cX1_copyFrom 43 = .ok (.getfield 18, 3) := by decide +kernel
theorem dX1_copyFrom_46 : decode cX1_copyFrom 46 = .ok (.invokestatic 42, 3) := by decide +kernel
theorem dX1_copyFrom_49 : decode cX1_copyFrom 49 = .ok (.aload_n 1, 1) := by decide +kernel
theorem dX1_copyFrom_50 : decode cX1_copyFrom 50 = .ok (.getfield 21, 3) := by decide +kernel
theorem dX1_copyFrom_53 : decode cX1_copyFrom 53 = .ok (.aload_n 0, 1) := by decide +kernel
theorem dX1_copyFrom_54 : decode cX1_copyFrom 54 = .ok (.getfield 21, 3) := by decide +kernel
theorem dX1_copyFrom_57 : decode cX1_copyFrom 57 = .ok (.invokestatic 42, 3) := by decide +kernel
theorem dX1_copyFrom_60 : decode cX1_copyFrom 60 = .ok (.aload_n 1, 1) := by decide +kernel
theorem dX1_copyFrom_61 : decode cX1_copyFrom 61 = .ok (.getfield 24, 3) := by decide +kernel
theorem dX1_copyFrom_64 : decode cX1_copyFrom 64 = .ok (.aload_n 0, 1) := by decide +kernel
theorem dX1_copyFrom_65 : decode cX1_copyFrom 65 = .ok (.getfield 24, 3) := by decide +kernel
theorem dX1_copyFrom_68 : decode cX1_copyFrom 68 = .ok (.invokestatic 42, 3) := by decide +kernel
theorem dX1_copyFrom_71 : decode cX1_copyFrom 71 = .ok (.return_, 1) := by decide +kernel
theorem dX1_cousins_0 : decode cX1_cousins 0 = .ok (.aload_n 0, 1) := by decide +kernel
theorem dX1_cousins_1 : decode cX1_cousins 1 = .ok (.getfield 27, 3) := by decide +kernel
theorem dX1_cousins_4 : decode cX1_cousins 4 = .ok (.ireturn, 1) := by decide +kernel
theorem dX1_rooms_0 : decode cX1_rooms 0 = .ok (.aload_n 0, 1) := by decide +kernel
theorem dX1_rooms_1 : decode cX1_rooms 1 = .ok (.getfield 31, 3) := by decide +kernel
theorem dX1_rooms_4 : decode cX1_rooms 4 = .ok (.ireturn, 1) := by decide +kernel
theorem dX1_kindOf_0 : decode cX1_kindOf 0 = .ok (.aload_n 0, 1) := by decide +kernel
theorem dX1_kindOf_1 : decode cX1_kindOf 1 = .ok (.getfield 9, 3) := by decide +kernel
theorem dX1_kindOf_4 : decode cX1_kindOf 4 = .ok (.iload_n 1, 1) := by decide +kernel
theorem dX1_kindOf_5 : decode cX1_kindOf 5 = .ok (.invokestatic 46, 3) := by decide +kernel
theorem dX1_kindOf_8 : decode cX1_kindOf 8 = .ok (.ireturn, 1) := by decide +kernel
theorem dX1_birthdayAtFirst_0 : decode cX1_birthdayAtFirst 0 = .ok (.aload_n 0, 1) := by decide +kernel
theorem dX1_birthdayAtFirst_1 : decode cX1_birthdayAtFirst 1 = .ok (.getfield 15, 3) := by decide +kernel
theorem dX1_birthdayAtFirst_4 : decode cX1_birthdayAtFirst 4 = .ok (.iload_n 1, 1) := by decide +kernel
theorem dX1_birthdayAtFirst_5 : decode cX1_birthdayAtFirst 5 = .ok (.invokestatic 46, 3) := by decide +kernel
theorem dX1_birthdayAtFirst_8 : decode cX1_birthdayAtFirst 8 = .ok (.ireturn, 1) := by decide +kernel
theorem dX1_wantOf_0 : decode cX1_wantOf 0 = .ok (.aload_n 0, 1) := by decide +kernel
theorem dX1_wantOf_1 : decode cX1_wantOf 1 = .ok (.getfield 18, 3) := by decide +kernel
theorem dX1_wantOf_4 : decode cX1_wantOf 4 = .ok (.iload_n 1, 1) := by decide +kernel
theorem dX1_wantOf_5 : decode cX1_wantOf 5 = .ok (.invokestatic 46, 3) := by decide +kernel
theorem dX1_wantOf_8 : decode cX1_wantOf 8 = .ok (.ireturn, 1) := by decide +kernel
theorem dX1_winterSun_0 : decode cX1_winterSun 0 = .ok (.aload_n 0, 1) := by decide +kernel
theorem dX1_winterSun_1 : decode cX1_winterSun 1 = .ok (.getfield 21, 3) := by decide +kernel
theorem dX1_winterSun_4 : decode cX1_winterSun 4 = .ok (.iload_n 1, 1) := by decide +kernel
theorem dX1_winterSun_5 : decode cX1_winterSun 5 = .ok (.invokestatic 46, 3) := by decide +kernel
theorem dX1_winterSun_8 : decode cX1_winterSun 8 = .ok (.ireturn, 1) := by decide +kernel
theorem dX1_summerSun_0 : decode cX1_summerSun 0 = .ok (.aload_n 0, 1) := by decide +kernel
theorem dX1_summerSun_1 : decode cX1_summerSun 1 = .ok (.getfield 24, 3) := by decide +kernel
theorem dX1_summerSun_4 : decode cX1_summerSun 4 = .ok (.iload_n 1, 1) := by decide +kernel
theorem dX1_summerSun_5 : decode cX1_summerSun 5 = .ok (.invokestatic 46, 3) := by decide +kernel
theorem dX1_summerSun_8 : decode cX1_summerSun 8 = .ok (.ireturn, 1) := by decide +kernel
theorem dX1_sunsOn_0 : decode cX1_sunsOn 0 = .ok (.iload_n 1, 1) := by decide +kernel
theorem dX1_sunsOn_1 : decode cX1_sunsOn 1 = .ok (.bipush 60, 2) := by decide +kernel
theorem dX1_sunsOn_3 : decode cX1_sunsOn 3 = .ok (.irem, 1) := by decide +kernel
theorem dX1_sunsOn_4 : decode cX1_sunsOn 4 = .ok (.bipush 30, 2) := by decide +kernel
theorem dX1_sunsOn_6 : decode cX1_sunsOn 6 = .ok (.if_icmp .ge 10, 3) := by decide +kernel
theorem dX1_sunsOn_9 : decode cX1_sunsOn 9 = .ok (.aload_n 0, 1) := by decide +kernel
theorem dX1_sunsOn_10 : decode cX1_sunsOn 10 = .ok (.getfield 21, 3) := by decide +kernel
theorem dX1_sunsOn_13 : decode cX1_sunsOn 13 = .ok (.goto 7, 3) := by decide +kernel
theorem dX1_sunsOn_16 : decode cX1_sunsOn 16 = .ok (.aload_n 0, 1) := by decide +kernel
theorem dX1_sunsOn_17 : decode cX1_sunsOn 17 = .ok (.getfield 24, 3) := by decide +kernel
theorem dX1_sunsOn_20 : decode cX1_sunsOn 20 = .ok (.areturn, 1) := by decide +kernel
theorem dX2_init_0 : decode cX2_init 0 = .ok (.aload_n 0, 1) := by decide +kernel
theorem dX2_init_1 : decode cX2_init 1 = .ok (.invokespecial 3, 3) := by decide +kernel
theorem dX2_init_4 : decode cX2_init 4 = .ok (.aload_n 0, 1) := by decide +kernel
theorem dX2_init_5 : decode cX2_init 5 = .ok (.aload_n 1, 1) := by decide +kernel
theorem dX2_init_6 : decode cX2_init 6 = .ok (.putfield 9, 3) := by decide +kernel
theorem dX2_init_9 : decode cX2_init 9 = .ok (.aload_n 0, 1) := by decide +kernel
theorem dX2_init_10 : decode cX2_init 10 = .ok (.aload_n 2, 1) := by decide +kernel
theorem dX2_init_11 : decode cX2_init 11 = .ok (.putfield 15, 3) := by decide +kernel
theorem dX2_init_14 : decode cX2_init 14 = .ok (.return_, 1) := by decide +kernel
theorem dX2_best_0 : decode cX2_best 0 = .ok (.aload_n 0, 1) := by decide +kernel
theorem dX2_best_1 : decode cX2_best 1 = .ok (.getfield 19, 3) := by decide +kernel
theorem dX2_best_4 : decode cX2_best 4 = .ok (.ireturn, 1) := by decide +kernel
theorem dX2_firstPair_0 : decode cX2_firstPair 0 = .ok (.aload_n 0, 1) := by decide +kernel
theorem dX2_firstPair_1 : decode cX2_firstPair 1 = .ok (.getfield 23, 3) := by decide +kernel
theorem dX2_firstPair_4 : decode cX2_firstPair 4 = .ok (.ireturn, 1) := by decide +kernel
theorem dX2_secondPair_0 : decode cX2_secondPair 0 = .ok (.aload_n 0, 1) := by decide +kernel
theorem dX2_secondPair_1 : decode cX2_secondPair 1 = .ok (.getfield 26, 3) := by decide +kernel
theorem dX2_secondPair_4 : decode cX2_secondPair 4 = .ok (.ireturn, 1) := by decide +kernel
theorem dX2_seekMostSun_0 : decode cX2_seekMostSun 0 = .ok (.aload_n 0, 1) := by decide +kernel
theorem dX2_seekMostSun_1 : decode cX2_seekMostSun 1 = .ok (.aload_n 1, 1) := by decide +kernel
theorem dX2_seekMostSun_2 : decode cX2_seekMostSun 2 = .ok (.iconst 0, 1) := by decide +kernel
theorem dX2_seekMostSun_3 : decode cX2_seekMostSun 3 = .ok (.iconst 0, 1) := by decide +kernel
theorem dX2_seekMostSun_4 : decode cX2_seekMostSun 4 = .ok (.invokevirtual 29, 3) := by decide +kernel
theorem dX2_seekMostSun_7 : decode cX2_seekMostSun 7 = .ok (.aload_n 0, 1) := by decide +kernel
theorem dX2_seekMostSun_8 : decode cX2_seekMostSun 8 = .ok (.getfield 15, 3) := by decide +kernel
theorem dX2_seekMostSun_11 : decode cX2_seekMostSun 11 = .ok (.iload_n 3, 1) := by decide +kernel
theorem dX2_seekMostSun_12 : decode cX2_seekMostSun 12 = .ok (.invokevirtual 33, 3) := by decide +kernel
theorem dX2_seekMostSun_15 : decode cX2_seekMostSun 15 = .ok (.aload_n 0, 1) := by decide +kernel
theorem dX2_seekMostSun_16 : decode cX2_seekMostSun 16 = .ok (.aload_n 0, 1) := by decide +kernel
theorem dX2_seekMostSun_17 : decode cX2_seekMostSun 17 = .ok (.getfield 15, 3) := by decide +kernel
theorem dX2_seekMostSun_20 : decode cX2_seekMostSun 20 = .ok (.iload_n 2, 1) := by decide +kernel
theorem dX2_seekMostSun_21 : decode cX2_seekMostSun 21 = .ok (.invokevirtual 39, 3) := by decide +kernel
theorem dX2_seekMostSun_24 : decode cX2_seekMostSun 24 = .ok (.iconst 0, 1) := by decide +kernel
theorem dX2_seekMostSun_25 : decode cX2_seekMostSun 25 = .ok (.iconst 0, 1) := by decide +kernel
theorem dX2_seekMostSun_26 : decode cX2_seekMostSun 26 = .ok (.invokevirtual 43, 3) := by decide +kernel
theorem dX2_seekMostSun_29 : decode cX2_seekMostSun 29 = .ok (.iconst 0, 1) := by decide +kernel
theorem dX2_seekMostSun_30 : decode cX2_seekMostSun 30 = .ok (.istore 4, 2) := by decide +kernel
theorem dX2_seekMostSun_32 : decode cX2_seekMostSun 32 = .ok (.iload 4, 2) := by decide +kernel
theorem dX2_seekMostSun_34 : decode cX2_seekMostSun 34 = .ok (.bipush 64, 2) := by decide +kernel
theorem dX2_seekMostSun_36 : decode cX2_seekMostSun 36 = .ok (.if_icmp .ge 111, 3) := by decide +kernel
theorem dX2_seekMostSun_39 : decode cX2_seekMostSun 39 = .ok (.iload 4, 2) := by decide +kernel
theorem dX2_seekMostSun_41 : decode cX2_seekMostSun 41 = .ok (.ifCond .eq 12, 3) := by decide +kernel
theorem dX2_seekMostSun_44 : decode cX2_seekMostSun 44 = .ok (.aload_n 0, 1) := by decide +kernel
theorem dX2_seekMostSun_45 : decode cX2_seekMostSun 45 = .ok (.iload 4, 2) := by decide +kernel
theorem dX2_seekMostSun_47 : decode cX2_seekMostSun 47 = .ok (.invokevirtual 47, 3) := by decide +kernel
theorem dX2_seekMostSun_50 : decode cX2_seekMostSun 50 = .ok (.ifCond .eq 10, 3) := by decide +kernel
theorem dX2_seekMostSun_53 : decode cX2_seekMostSun 53 = .ok (.iload 4, 2) := by decide +kernel
theorem dX2_seekMostSun_55 : decode cX2_seekMostSun 55 = .ok (.iconst 1, 1) := by decide +kernel
theorem dX2_seekMostSun_56 : decode cX2_seekMostSun 56 = .ok (.iadd, 1) := by decide +kernel
theorem dX2_seekMostSun_57 : decode cX2_seekMostSun 57 = .ok (.goto 5, 3) := by decide +kernel
theorem dX2_seekMostSun_60 : decode cX2_seekMostSun 60 = .ok (.bipush 64, 2) := by decide +kernel
theorem dX2_seekMostSun_62 : decode cX2_seekMostSun 62 = .ok (.istore 5, 2) := by decide +kernel
theorem dX2_seekMostSun_64 : decode cX2_seekMostSun 64 = .ok (.iload 5, 2) := by decide +kernel
theorem dX2_seekMostSun_66 : decode cX2_seekMostSun 66 = .ok (.istore 6, 2) := by decide +kernel
theorem dX2_seekMostSun_68 : decode cX2_seekMostSun 68 = .ok (.iload 6, 2) := by decide +kernel
theorem dX2_seekMostSun_70 : decode cX2_seekMostSun 70 = .ok (.bipush 64, 2) := by decide +kernel
theorem dX2_seekMostSun_72 : decode cX2_seekMostSun 72 = .ok (.if_icmp .ge 69, 3) := by decide +kernel
theorem dX2_seekMostSun_75 : decode cX2_seekMostSun 75 = .ok (.aload_n 0, 1) := by decide +kernel
theorem dX2_seekMostSun_76 : decode cX2_seekMostSun 76 = .ok (.iload 6, 2) := by decide +kernel
theorem dX2_seekMostSun_78 : decode cX2_seekMostSun 78 = .ok (.invokevirtual 47, 3) := by decide +kernel
theorem dX2_seekMostSun_81 : decode cX2_seekMostSun 81 = .ok (.ifCond .ne 6, 3) := by decide +kernel
theorem dX2_seekMostSun_84 : decode cX2_seekMostSun 84 = .ok (.goto 51, 3) := by decide +kernel
theorem dX2_seekMostSun_87 : decode cX2_seekMostSun 87 = .ok (.aload_n 0, 1) := by decide +kernel
theorem dX2_seekMostSun_88 : decode cX2_seekMostSun 88 = .ok (.aload_n 1, 1) := by decide +kernel
theorem dX2_seekMostSun_89 : decode cX2_seekMostSun 89 = .ok (.iload 4, 2) := by decide +kernel
theorem dX2_seekMostSun_91 : decode cX2_seekMostSun 91 = .ok (.iload 6, 2) := by decide +kernel
theorem dX2_seekMostSun_93 : decode cX2_seekMostSun 93 = .ok (.invokevirtual 29, 3) := by decide +kernel
theorem dX2_seekMostSun_96 : decode cX2_seekMostSun 96 = .ok (.aload_n 0, 1) := by decide +kernel
theorem dX2_seekMostSun_97 : decode cX2_seekMostSun 97 = .ok (.getfield 15, 3) := by decide +kernel
theorem dX2_seekMostSun_100 : decode cX2_seekMostSun 100 = .ok (.iload_n 3, 1) := by decide +kernel
theorem dX2_seekMostSun_101 : decode cX2_seekMostSun 101 = .ok (.invokevirtual 33, 3) := by decide +kernel
theorem dX2_seekMostSun_104 : decode cX2_seekMostSun 104 = .ok (.aload_n 0, 1) := by decide +kernel
theorem dX2_seekMostSun_105 : decode cX2_seekMostSun 105 = .ok (.getfield 15, 3) := by decide +kernel
theorem dX2_seekMostSun_108 : decode cX2_seekMostSun 108 = .ok (.iload_n 2, 1) := by decide +kernel
theorem dX2_seekMostSun_109 : decode cX2_seekMostSun 109 = .ok (.invokevirtual 39, 3) := by decide +kernel
theorem dX2_seekMostSun_112 : decode cX2_seekMostSun 112 = .ok (.aload_n 0, 1) := by decide +kernel
theorem dX2_seekMostSun_113 : decode cX2_seekMostSun 113 = .ok (.getfield 19, 3) := by decide +kernel
theorem dX2_seekMostSun_116 : decode cX2_seekMostSun 116 = .ok (.if_icmp .le 19, 3) := by decide +kernel
theorem dX2_seekMostSun_119 : decode cX2_seekMostSun 119 = .ok (.aload_n 0, 1) := by decide +kernel
theorem dX2_seekMostSun_120 : decode cX2_seekMostSun 120 = .ok (.aload_n 0, 1) := by decide +kernel
theorem dX2_seekMostSun_121 : decode cX2_seekMostSun 121 = .ok (.getfield 15, 3) := by decide +kernel
theorem dX2_seekMostSun_124 : decode cX2_seekMostSun 124 = .ok (.iload_n 2, 1) := by decide +kernel
theorem dX2_seekMostSun_125 : decode cX2_seekMostSun 125 = .ok (.invokevirtual 39, 3) := by decide +kernel
theorem dX2_seekMostSun_128 : decode cX2_seekMostSun 128 = .ok (.iload 4, 2) := by decide +kernel
theorem dX2_seekMostSun_130 : decode cX2_seekMostSun 130 = .ok (.iload 6, 2) := by decide +kernel
theorem dX2_seekMostSun_132 : decode cX2_seekMostSun 132 = .ok (.invokevirtual 43, 3) := by decide +kernel
theorem dX2_seekMostSun_135 : decode cX2_seekMostSun 135 = .ok (.iinc 6 1, 3) := by decide +kernel
theorem dX2_seekMostSun_138 : decode cX2_seekMostSun 138 = .ok (.goto (-70), 3) := by decide +kernel
theorem dX2_seekMostSun_141 : decode cX2_seekMostSun 141 = .ok (.iinc 4 1, 3) := by decide +kernel
theorem dX2_seekMostSun_144 : decode cX2_seekMostSun 144 = .ok (.goto (-112), 3) := by decide +kernel
theorem dX2_seekMostSun_147 : decode cX2_seekMostSun 147 = .ok (.return_, 1) := by decide +kernel
theorem dX2_seekFewestCold_0 : decode cX2_seekFewestCold 0 = .ok (.aload_n 0, 1) := by decide +kernel
theorem dX2_seekFewestCold_1 : decode cX2_seekFewestCold 1 = .ok (.aload_n 1, 1) := by decide +kernel
theorem dX2_seekFewestCold_2 : decode cX2_seekFewestCold 2 = .ok (.iconst 0, 1) := by decide +kernel
theorem dX2_seekFewestCold_3 : decode cX2_seekFewestCold 3 = .ok (.iconst 0, 1) := by decide +kernel
theorem dX2_seekFewestCold_4 : decode cX2_seekFewestCold 4 = .ok (.invokevirtual 29, 3) := by decide +kernel
theorem dX2_seekFewestCold_7 : decode cX2_seekFewestCold 7 = .ok (.aload_n 0, 1) := by decide +kernel
theorem dX2_seekFewestCold_8 : decode cX2_seekFewestCold 8 = .ok (.getfield 15, 3) := by decide +kernel
theorem dX2_seekFewestCold_11 : decode cX2_seekFewestCold 11 = .ok (.iload_n 2, 1) := by decide +kernel
theorem dX2_seekFewestCold_12 : decode cX2_seekFewestCold 12 = .ok (.invokevirtual 33, 3) := by decide +kernel
theorem dX2_seekFewestCold_15 : decode cX2_seekFewestCold 15 = .ok (.aload_n 0, 1) := by decide +kernel
theorem dX2_seekFewestCold_16 : decode cX2_seekFewestCold 16 = .ok (.aload_n 0, 1) := by decide +kernel
theorem dX2_seekFewestCold_17 : decode cX2_seekFewestCold 17 = .ok (.getfield 15, 3) := by decide +kernel
theorem dX2_seekFewestCold_20 : decode cX2_seekFewestCold 20 = .ok (.invokevirtual 51, 3) := by decide +kernel
theorem dX2_seekFewestCold_23 : decode cX2_seekFewestCold 23 = .ok (.iconst 0, 1) := by decide +kernel
theorem dX2_seekFewestCold_24 : decode cX2_seekFewestCold 24 = .ok (.iconst 0, 1) := by decide +kernel
theorem dX2_seekFewestCold_25 : decode cX2_seekFewestCold 25 = .ok (.invokevirtual 43, 3) := by decide +kernel
theorem dX2_seekFewestCold_28 : decode cX2_seekFewestCold 28 = .ok (.iconst 1, 1) := by decide +kernel
theorem dX2_seekFewestCold_29 : decode cX2_seekFewestCold 29 = .ok (.istore_n 3, 1) := by decide +kernel
theorem dX2_seekFewestCold_30 : decode cX2_seekFewestCold 30 = .ok (.iload_n 3, 1) := by decide +kernel
theorem dX2_seekFewestCold_31 : decode cX2_seekFewestCold 31 = .ok (.bipush 64, 2) := by decide +kernel
theorem dX2_seekFewestCold_33 : decode cX2_seekFewestCold 33 = .ok (.if_icmp .ge 62, 3) := by decide +kernel
theorem dX2_seekFewestCold_36 : decode cX2_seekFewestCold 36 = .ok (.aload_n 0, 1) := by decide +kernel
theorem dX2_seekFewestCold_37 : decode cX2_seekFewestCold 37 = .ok (.iload_n 3, 1) := by decide +kernel
theorem dX2_seekFewestCold_38 : decode cX2_seekFewestCold 38 = .ok (.invokevirtual 47, 3) := by decide +kernel
theorem dX2_seekFewestCold_41 : decode cX2_seekFewestCold 41 = .ok (.ifCond .ne 6, 3) := by decide +kernel
theorem dX2_seekFewestCold_44 : decode cX2_seekFewestCold 44 = .ok (.goto 45, 3) := by decide +kernel
theorem dX2_seekFewestCold_47 : decode cX2_seekFewestCold 47 = .ok (.aload_n 0, 1) := by decide +kernel
theorem dX2_seekFewestCold_48 : decode cX2_seekFewestCold 48 = .ok (.aload_n 1, 1) := by decide +kernel
theorem dX2_seekFewestCold_49 : decode cX2_seekFewestCold 49 = .ok (.iconst 0, 1) := by decide +kernel
theorem dX2_seekFewestCold_50 : decode cX2_seekFewestCold 50 = .ok (.iload_n 3, 1) := by decide +kernel
theorem dX2_seekFewestCold_51 : decode cX2_seekFewestCold 51 = .ok (.invokevirtual 29, 3) := by decide +kernel
theorem dX2_seekFewestCold_54 : decode cX2_seekFewestCold 54 = .ok (.aload_n 0, 1) := by decide +kernel
theorem dX2_seekFewestCold_55 : decode cX2_seekFewestCold 55 = .ok (.getfield 15, 3) := by decide +kernel
theorem dX2_seekFewestCold_58 : decode cX2_seekFewestCold 58 = .ok (.iload_n 2, 1) := by decide +kernel
theorem dX2_seekFewestCold_59 : decode cX2_seekFewestCold 59 = .ok (.invokevirtual 33, 3) := by decide +kernel
theorem dX2_seekFewestCold_62 : decode cX2_seekFewestCold 62 = .ok (.aload_n 0, 1) := by decide +kernel
theorem dX2_seekFewestCold_63 : decode cX2_seekFewestCold 63 = .ok (.getfield 15, 3) := by decide +kernel
theorem dX2_seekFewestCold_66 : decode cX2_seekFewestCold 66 = .ok (.invokevirtual 51, 3) := by decide +kernel
theorem dX2_seekFewestCold_69 : decode cX2_seekFewestCold 69 = .ok (.aload_n 0, 1) := by decide +kernel
theorem dX2_seekFewestCold_70 : decode cX2_seekFewestCold 70 = .ok (.getfield 19, 3) := by decide +kernel
theorem dX2_seekFewestCold_73 : decode cX2_seekFewestCold 73 = .ok (.if_icmp .ge 16, 3) := by decide +kernel
theorem dX2_seekFewestCold_76 : decode cX2_seekFewestCold 76 = .ok (.aload_n 0, 1) := by decide +kernel
theorem dX2_seekFewestCold_77 : decode cX2_seekFewestCold 77 = .ok (.aload_n 0, 1) := by decide +kernel
theorem dX2_seekFewestCold_78 : decode cX2_seekFewestCold 78 = .ok (.getfield 15, 3) := by decide +kernel
theorem dX2_seekFewestCold_81 : decode cX2_seekFewestCold 81 = .ok (.invokevirtual 51, 3) := by decide +kernel
theorem dX2_seekFewestCold_84 : decode cX2_seekFewestCold 84 = .ok (.iconst 0, 1) := by decide +kernel
theorem dX2_seekFewestCold_85 : decode cX2_seekFewestCold 85 = .ok (.iload_n 3, 1) := by decide +kernel
theorem dX2_seekFewestCold_86 : decode cX2_seekFewestCold 86 = .ok (.invokevirtual 43, 3) := by decide +kernel
theorem dX2_seekFewestCold_89 : decode cX2_seekFewestCold 89 = .ok (.iinc 3 1, 3) := by decide +kernel
theorem dX2_seekFewestCold_92 : decode cX2_seekFewestCold 92 = .ok (.goto (-62), 3) := by decide +kernel
theorem dX2_seekFewestCold_95 : decode cX2_seekFewestCold 95 = .ok (.return_, 1) := by decide +kernel
theorem dX2_ownersByOneSwap_0 : decode cX2_ownersByOneSwap 0 = .ok (.iconst 0, 1) := by decide +kernel
theorem dX2_ownersByOneSwap_1 : decode cX2_ownersByOneSwap 1 = .ok (.istore 4, 2) := by decide +kernel
theorem dX2_ownersByOneSwap_3 : decode cX2_ownersByOneSwap 3 = .ok (.iconst 0, 1) := by decide +kernel
theorem dX2_ownersByOneSwap_4 : decode cX2_ownersByOneSwap 4 = .ok (.istore 5, 2) := by decide +kernel
theorem dX2_ownersByOneSwap_6 : decode cX2_ownersByOneSwap 6 = .ok (.iload 5, 2) := by decide +kernel
theorem dX2_ownersByOneSwap_8 : decode cX2_ownersByOneSwap 8 = .ok (.bipush 64, 2) := by decide +kernel
theorem dX2_ownersByOneSwap_10 : decode cX2_ownersByOneSwap 10 = .ok (.if_icmp .ge 69, 3) := by decide +kernel
theorem dX2_ownersByOneSwap_13 : decode cX2_ownersByOneSwap 13 = .ok (.iload 5, 2) := by decide +kernel
theorem dX2_ownersByOneSwap_15 : decode cX2_ownersByOneSwap 15 = .ok (.ifCond .eq 15, 3) := by decide +kernel
theorem dX2_ownersByOneSwap_18 : decode cX2_ownersByOneSwap 18 = .ok (.aload_n 0, 1) := by decide +kernel
theorem dX2_ownersByOneSwap_19 : decode cX2_ownersByOneSwap 19 = .ok (.iload 5, 2) := by decide +kernel
theorem dX2_ownersByOneSwap_21 : decode cX2_ownersByOneSwap 21 = .ok (.invokevirtual 47, 3) := by decide +kernel
theorem dX2_ownersByOneSwap_24 : decode cX2_ownersByOneSwap 24 = .ok (.ifCond .ne 6, 3) := by decide +kernel
theorem dX2_ownersByOneSwap_27 : decode cX2_ownersByOneSwap 27 = .ok (.goto 46, 3) := by decide +kernel
theorem dX2_ownersByOneSwap_30 : decode cX2_ownersByOneSwap 30 = .ok (.aload_n 0, 1) := by decide +kernel
theorem dX2_ownersByOneSwap_31 : decode cX2_ownersByOneSwap 31 = .ok (.aload_n 1, 1) := by decide +kernel
theorem dX2_ownersByOneSwap_32 : decode cX2_ownersByOneSwap 32 = .ok (.iconst 0, 1) := by decide +kernel
theorem dX2_ownersByOneSwap_33 : decode cX2_ownersByOneSwap 33 = .ok (.iload 5, 2) := by decide +kernel
theorem dX2_ownersByOneSwap_35 : decode cX2_ownersByOneSwap 35 = .ok (.invokevirtual 29, 3) := by decide +kernel
theorem dX2_ownersByOneSwap_38 : decode cX2_ownersByOneSwap 38 = .ok (.aload_n 0, 1) := by decide +kernel
theorem dX2_ownersByOneSwap_39 : decode cX2_ownersByOneSwap 39 = .ok (.getfield 15, 3) := by decide +kernel
theorem dX2_ownersByOneSwap_42 : decode cX2_ownersByOneSwap 42 = .ok (.iload_n 3, 1) := by decide +kernel
theorem dX2_ownersByOneSwap_43 : decode cX2_ownersByOneSwap 43 = .ok (.iconst 1, 1) := by decide +kernel
theorem dX2_ownersByOneSwap_44 : decode cX2_ownersByOneSwap 44 = .ok (.iadd, 1) := by decide +kernel
theorem dX2_ownersByOneSwap_45 : decode cX2_ownersByOneSwap 45 = .ok (.invokevirtual 33, 3) := by decide +kernel
theorem dX2_ownersByOneSwap_48 : decode cX2_ownersByOneSwap 48 = .ok (.iload 4, 2) := by decide +kernel
theorem dX2_ownersByOneSwap_50 : decode cX2_ownersByOneSwap 50 = .ok (.iconst 1, 1) := by decide +kernel
theorem dX2_ownersByOneSwap_51 : decode cX2_ownersByOneSwap 51 = .ok (.aload_n 0, 1) := by decide +kernel
theorem dX2_ownersByOneSwap_52 : decode cX2_ownersByOneSwap 52 = .ok (.getfield 15, 3) := by decide +kernel
theorem dX2_ownersByOneSwap_55 : decode cX2_ownersByOneSwap 55 = .ok (.invokevirtual 55, 3) := by decide +kernel
theorem dX2_ownersByOneSwap_58 : decode cX2_ownersByOneSwap 58 = .ok (.iload_n 2, 1) := by decide +kernel
theorem dX2_ownersByOneSwap_59 : decode cX2_ownersByOneSwap 59 = .ok (.aload_n 0, 1) := by decide +kernel
theorem dX2_ownersByOneSwap_60 : decode cX2_ownersByOneSwap 60 = .ok (.getfield 9, 3) := by decide +kernel
theorem dX2_ownersByOneSwap_63 : decode cX2_ownersByOneSwap 63 = .ok (.invokevirtual 59, 3) := by decide +kernel
theorem dX2_ownersByOneSwap_66 : decode cX2_ownersByOneSwap 66 = .ok (.invokevirtual 64, 3) := by decide +kernel
theorem dX2_ownersByOneSwap_69 : decode cX2_ownersByOneSwap 69 = .ok (.ishl, 1) := by decide +kernel
theorem dX2_ownersByOneSwap_70 : decode cX2_ownersByOneSwap 70 = .ok (.ior, 1) := by decide +kernel
theorem dX2_ownersByOneSwap_71 : decode cX2_ownersByOneSwap 71 = .ok (.istore 4, 2) := by decide +kernel
theorem dX2_ownersByOneSwap_73 : decode cX2_ownersByOneSwap 73 = .ok (.iinc 5 1, 3) := by decide +kernel
theorem dX2_ownersByOneSwap_76 : decode cX2_ownersByOneSwap 76 = .ok (.goto (-70), 3) := by decide +kernel
theorem dX2_ownersByOneSwap_79 : decode cX2_ownersByOneSwap 79 = .ok (.iload 4, 2) := by decide +kernel
theorem dX2_ownersByOneSwap_81 : decode cX2_ownersByOneSwap 81 = .ok (.ireturn, 1) := by decide +kernel
theorem dX2_isPair_0 : decode cX2_isPair 0 = .ok (.iload_n 1, 1) := by decide +kernel
theorem dX2_isPair_1 : decode cX2_isPair 1 = .ok (.bipush 8, 2) := by decide +kernel
theorem dX2_isPair_3 : decode cX2_isPair 3 = .ok (.idiv, 1) := by decide +kernel
theorem dX2_isPair_4 : decode cX2_isPair 4 = .ok (.iload_n 1, 1) := by decide +kernel
theorem dX2_isPair_5 : decode cX2_isPair 5 = .ok (.bipush 8, 2) := by decide +kernel
theorem dX2_isPair_7 : decode cX2_isPair 7 = .ok (.irem, 1) := by decide +kernel
theorem dX2_isPair_8 : decode cX2_isPair 8 = .ok (.if_icmp .ge 21, 3) := by decide +kernel
theorem dX2_isPair_11 : decode cX2_isPair 11 = .ok (.iload_n 1, 1) := by decide +kernel
theorem dX2_isPair_12 : decode cX2_isPair 12 = .ok (.bipush 8, 2) := by decide +kernel
theorem dX2_isPair_14 : decode cX2_isPair 14 = .ok (.irem, 1) := by decide +kernel
theorem dX2_isPair_15 : decode cX2_isPair 15 = .ok (.aload_n 0, 1) := by decide +kernel
theorem dX2_isPair_16 : decode cX2_isPair 16 = .ok (.getfield 9, 3) := by decide +kernel
theorem dX2_isPair_19 : decode cX2_isPair 19 = .ok (.invokevirtual 59, 3) := by decide +kernel
theorem dX2_isPair_22 : decode cX2_isPair 22 = .ok (.if_icmp .ge 7, 3) := by decide +kernel
theorem dX2_isPair_25 : decode cX2_isPair 25 = .ok (.iconst 1, 1) := by decide +kernel
theorem dX2_isPair_26 : decode cX2_isPair 26 = .ok (.goto 4, 3) := by decide +kernel
theorem dX2_isPair_29 : decode cX2_isPair 29 = .ok (.iconst 0, 1) := by decide +kernel
theorem dX2_isPair_30 : decode cX2_isPair 30 = .ok (.ireturn, 1) := by decide +kernel
theorem dX2_beginBy_0 : decode cX2_beginBy 0 = .ok (.aload_n 0, 1) := by decide +kernel
theorem dX2_beginBy_1 : decode cX2_beginBy 1 = .ok (.getfield 15, 3) := by decide +kernel
theorem dX2_beginBy_4 : decode cX2_beginBy 4 = .ok (.aload_n 1, 1) := by decide +kernel
theorem dX2_beginBy_5 : decode cX2_beginBy 5 = .ok (.invokevirtual 70, 3) := by decide +kernel
theorem dX2_beginBy_8 : decode cX2_beginBy 8 = .ok (.aload_n 0, 1) := by decide +kernel
theorem dX2_beginBy_9 : decode cX2_beginBy 9 = .ok (.getfield 15, 3) := by decide +kernel
theorem dX2_beginBy_12 : decode cX2_beginBy 12 = .ok (.invokevirtual 55, 3) := by decide +kernel
theorem dX2_beginBy_15 : decode cX2_beginBy 15 = .ok (.iload_n 2, 1) := by decide +kernel
theorem dX2_beginBy_16 : decode cX2_beginBy 16 = .ok (.bipush 8, 2) := by decide +kernel
theorem dX2_beginBy_18 : decode cX2_beginBy 18 = .ok (.idiv, 1) := by decide +kernel
theorem dX2_beginBy_19 : decode cX2_beginBy 19 = .ok (.iload_n 2, 1) := by decide +kernel
theorem dX2_beginBy_20 : decode cX2_beginBy 20 = .ok (.bipush 8, 2) := by decide +kernel
theorem dX2_beginBy_22 : decode cX2_beginBy 22 = .ok (.irem, 1) := by decide +kernel
theorem dX2_beginBy_23 : decode cX2_beginBy 23 = .ok (.invokevirtual 74, 3) := by decide +kernel
theorem dX2_beginBy_26 : decode cX2_beginBy 26 = .ok (.aload_n 0, 1) := by decide +kernel
theorem dX2_beginBy_27 : decode cX2_beginBy 27 = .ok (.getfield 15, 3) := by decide +kernel
theorem dX2_beginBy_30 : decode cX2_beginBy 30 = .ok (.invokevirtual 55, 3) := by decide +kernel
theorem dX2_beginBy_33 : decode cX2_beginBy 33 = .ok (.iload_n 3, 1) := by decide +kernel
theorem dX2_beginBy_34 : decode cX2_beginBy 34 = .ok (.bipush 8, 2) := by decide +kernel
theorem dX2_beginBy_36 : decode cX2_beginBy 36 = .ok (.idiv, 1) := by decide +kernel
theorem dX2_beginBy_37 : decode cX2_beginBy 37 = .ok (.iload_n 3, 1) := by decide +kernel
theorem dX2_beginBy_38 : decode cX2_beginBy 38 = .ok (.bipush 8, 2) := by decide +kernel
theorem dX2_beginBy_40 : decode cX2_beginBy 40 = .ok (.irem, 1) := by decide +kernel
theorem dX2_beginBy_41 : decode cX2_beginBy 41 = .ok (.invokevirtual 74, 3) := by decide +kernel
theorem dX2_beginBy_44 : decode cX2_beginBy 44 = .ok (.return_, 1) := by decide +kernel
theorem dX2_take_0 : decode cX2_take 0 = .ok (.aload_n 0, 1) := by decide +kernel
theorem dX2_take_1 : decode cX2_take 1 = .ok (.iload_n 1, 1) := by decide +kernel
theorem dX2_take_2 : decode cX2_take 2 = .ok (.putfield 19, 3) := by decide +kernel
theorem dX2_take_5 : decode cX2_take 5 = .ok (.aload_n 0, 1) := by decide +kernel
theorem dX2_take_6 : decode cX2_take 6 = .ok (.iload_n 2, 1) := by decide +kernel
theorem dX2_take_7 : decode cX2_take 7 = .ok (.ifCond .eq 7, 3) := by decide +kernel
theorem dX2_take_10 : decode cX2_take 10 = .ok (.iload_n 2, 1) := by decide +kernel
theorem dX2_take_11 : decode cX2_take 11 = .ok (.goto 13, 3) := by decide +kernel
theorem dX2_take_14 : decode cX2_take 14 = .ok (.iload_n 3, 1) := by decide +kernel
theorem dX2_take_15 : decode cX2_take 15 = .ok (.ifCond .eq 7, 3) := by decide +kernel
theorem dX2_take_18 : decode cX2_take 18 = .ok (.iload_n 3, 1) := by decide +kernel
theorem dX2_take_19 : decode cX2_take 19 = .ok (.goto 5, 3) := by decide +kernel
theorem dX2_take_22 : decode cX2_take 22 = .ok (.bipush (-4), 2) := by decide +kernel
theorem dX2_take_24 : decode cX2_take 24 = .ok (.putfield 23, 3) := by decide +kernel
theorem dX2_take_27 : decode cX2_take 27 = .ok (.aload_n 0, 1) := by decide +kernel
theorem dX2_take_28 : decode cX2_take 28 = .ok (.iload_n 2, 1) := by decide +kernel
theorem dX2_take_29 : decode cX2_take 29 = .ok (.ifCond .eq 7, 3) := by decide +kernel
theorem dX2_take_32 : decode cX2_take 32 = .ok (.iload_n 3, 1) := by decide +kernel
theorem dX2_take_33 : decode cX2_take 33 = .ok (.goto 5, 3) := by decide +kernel
theorem dX2_take_36 : decode cX2_take 36 = .ok (.bipush (-4), 2) := by decide +kernel
theorem dX2_take_38 : decode cX2_take 38 = .ok (.putfield 26, 3) := by decide +kernel
theorem dX2_take_41 : decode cX2_take 41 = .ok (.return_, 1) := by decide +kernel
theorem dX3_init_0 : decode cX3_init 0 = .ok (.aload_n 0, 1) := by decide +kernel
theorem dX3_init_1 : decode cX3_init 1 = .ok (.invokespecial 3, 3) := by decide +kernel
theorem dX3_init_4 : decode cX3_init 4 = .ok (.aload_n 0, 1) := by decide +kernel
theorem dX3_init_5 : decode cX3_init 5 = .ok (.bipush 8, 2) := by decide +kernel
theorem dX3_init_7 : decode cX3_init 7 = .ok (.newarray .int, 2) := by decide +kernel
theorem dX3_init_9 : decode cX3_init 9 = .ok (.putfield 9, 3) := by decide +kernel
theorem dX3_init_12 : decode cX3_init 12 = .ok (.aload_n 0, 1) := by decide +kernel
theorem dX3_init_13 : decode cX3_init 13 = .ok (.bipush 8, 2) := by decide +kernel
theorem dX3_init_15 : decode cX3_init 15 = .ok (.newarray .int, 2) := by decide +kernel
theorem dX3_init_17 : decode cX3_init 17 = .ok (.putfield 15, 3) := by decide +kernel
theorem dX3_init_20 : decode cX3_init 20 = .ok (.aload_n 0, 1) := by decide +kernel
theorem dX3_init_21 : decode cX3_init 21 = .ok (.bipush 8, 2) := by decide +kernel
theorem dX3_init_23 : decode cX3_init 23 = .ok (.newarray .int, 2) := by decide +kernel
theorem dX3_init_25 : decode cX3_init 25 = .ok (.putfield 18, 3) := by decide +kernel
theorem dX3_init_28 : decode cX3_init 28 = .ok (.return_, 1) := by decide +kernel
theorem dX3_isFull_0 : decode cX3_isFull 0 = .ok (.aload_n 0, 1) := by decide +kernel
theorem dX3_isFull_1 : decode cX3_isFull 1 = .ok (.getfield 21, 3) := by decide +kernel
theorem dX3_isFull_4 : decode cX3_isFull 4 = .ok (.bipush 8, 2) := by decide +kernel
theorem dX3_isFull_6 : decode cX3_isFull 6 = .ok (.if_icmp .lt 7, 3) := by decide +kernel
theorem dX3_isFull_9 : decode cX3_isFull 9 = .ok (.iconst 1, 1) := by decide +kernel
theorem dX3_isFull_10 : decode cX3_isFull 10 = .ok (.goto 4, 3) := by decide +kernel
theorem dX3_isFull_13 : decode cX3_isFull 13 = .ok (.iconst 0, 1) := by decide +kernel
theorem dX3_isFull_14 : decode cX3_isFull 14 = .ok (.ireturn, 1) := by decide +kernel
theorem dX3_size_0 : decode cX3_size 0 = .ok (.aload_n 0, 1) := by decide +kernel
theorem dX3_size_1 : decode cX3_size 1 = .ok (.getfield 21, 3) := by decide +kernel
theorem dX3_size_4 : decode cX3_size 4 = .ok (.ireturn, 1) := by decide +kernel
theorem dX3_clear_0 : decode cX3_clear 0 = .ok (.aload_n 0, 1) := by decide +kernel
theorem dX3_clear_1 : decode cX3_clear 1 = .ok (.iconst 0, 1) := by decide +kernel
theorem dX3_clear_2 : decode cX3_clear 2 = .ok (.putfield 21, 3) := by decide +kernel
theorem dX3_clear_5 : decode cX3_clear 5 = .ok (.return_, 1) := by decide +kernel
theorem dX3_add_0 : decode cX3_add 0 = .ok (.aload_n 0, 1) := by decide +kernel
theorem dX3_add_1 : decode cX3_add 1 = .ok (.getfield 21, 3) := by decide +kernel
theorem dX3_add_4 : decode cX3_add 4 = .ok (.istore 4, 2) := by decide +kernel
theorem dX3_add_6 : decode cX3_add 6 = .ok (.iload 4, 2) := by decide +kernel
theorem dX3_add_8 : decode cX3_add 8 = .ok (.ifCond .le 63, 3) := by decide +kernel
theorem dX3_add_11 : decode cX3_add 11 = .ok (.aload_n 0, 1) := by decide +kernel
theorem dX3_add_12 : decode cX3_add 12 = .ok (.getfield 18, 3) := by decide +kernel
theorem dX3_add_15 : decode cX3_add 15 = .ok (.iload 4, 2) := by decide +kernel
theorem dX3_add_17 : decode cX3_add 17 = .ok (.iconst 1, 1) := by decide +kernel
theorem dX3_add_18 : decode cX3_add 18 = .ok (.isub, 1) := by decide +kernel
theorem dX3_add_19 : decode cX3_add 19 = .ok (.invokestatic 25, 3) := by decide +kernel
theorem dX3_add_22 : decode cX3_add 22 = .ok (.iload_n 3, 1) := by decide +kernel
theorem dX3_add_23 : decode cX3_add 23 = .ok (.if_icmp .le 48, 3) := by decide +kernel
theorem dX3_add_26 : decode cX3_add 26 = .ok (.aload_n 0, 1) := by decide +kernel
theorem dX3_add_27 : decode cX3_add 27 = .ok (.iload 4, 2) := by decide +kernel
theorem dX3_add_29 : decode cX3_add 29 = .ok (.aload_n 0, 1) := by decide +kernel
theorem dX3_add_30 : decode cX3_add 30 = .ok (.getfield 9, 3) := by decide +kernel
theorem dX3_add_33 : decode cX3_add 33 = .ok (.iload 4, 2) := by decide +kernel
theorem dX3_add_35 : decode cX3_add 35 = .ok (.iconst 1, 1) := by decide +kernel
theorem dX3_add_36 : decode cX3_add 36 = .ok (.isub, 1) := by decide +kernel
theorem dX3_add_37 : decode cX3_add 37 = .ok (.invokestatic 25, 3) := by decide +kernel
theorem dX3_add_40 : decode cX3_add 40 = .ok (.aload_n 0, 1) := by decide +kernel
theorem dX3_add_41 : decode cX3_add 41 = .ok (.getfield 15, 3) := by decide +kernel
theorem dX3_add_44 : decode cX3_add 44 = .ok (.iload 4, 2) := by decide +kernel
theorem dX3_add_46 : decode cX3_add 46 = .ok (.iconst 1, 1) := by decide +kernel
theorem dX3_add_47 : decode cX3_add 47 = .ok (.isub, 1) := by decide +kernel
theorem dX3_add_48 : decode cX3_add 48 = .ok (.invokestatic 25, 3) := by decide +kernel
theorem dX3_add_51 : decode cX3_add 51 = .ok (.aload_n 0, 1) := by decide +kernel
theorem dX3_add_52 : decode cX3_add 52 = .ok (.getfield 18, 3) := by decide +kernel
theorem dX3_add_55 : decode cX3_add 55 = .ok (.iload 4, 2) := by decide +kernel
theorem dX3_add_57 : decode cX3_add 57 = .ok (.iconst 1, 1) := by decide +kernel
theorem dX3_add_58 : decode cX3_add 58 = .ok (.isub, 1) := by decide +kernel
theorem dX3_add_59 : decode cX3_add 59 = .ok (.invokestatic 25, 3) := by decide +kernel
theorem dX3_add_62 : decode cX3_add 62 = .ok (.invokevirtual 29, 3) := by decide +kernel
theorem dX3_add_65 : decode cX3_add 65 = .ok (.iinc 4 (-1), 3) := by decide +kernel
theorem dX3_add_68 : decode cX3_add 68 = .ok (.goto (-62), 3) := by decide +kernel
theorem dX3_add_71 : decode cX3_add 71 = .ok (.aload_n 0, 1) := by decide +kernel
theorem dX3_add_72 : decode cX3_add 72 = .ok (.iload 4, 2) := by decide +kernel
theorem dX3_add_74 : decode cX3_add 74 = .ok (.iload_n 1, 1) := by decide +kernel
theorem dX3_add_75 : decode cX3_add 75 = .ok (.iload_n 2, 1) := by decide +kernel
theorem dX3_add_76 : decode cX3_add 76 = .ok (.iload_n 3, 1) := by decide +kernel
theorem dX3_add_77 : decode cX3_add 77 = .ok (.invokevirtual 29, 3) := by decide +kernel
theorem dX3_add_80 : decode cX3_add 80 = .ok (.aload_n 0, 1) := by decide +kernel
theorem dX3_add_81 : decode cX3_add 81 = .ok (.dup, 1) := by decide +kernel
theorem dX3_add_82 : decode cX3_add 82 = .ok (.getfield 21, 3) := by decide +kernel
theorem dX3_add_85 : decode cX3_add 85 = .ok (.iconst 1, 1) := by decide +kernel
theorem dX3_add_86 : decode cX3_add 86 = .ok (.iadd, 1) := by decide +kernel
theorem dX3_add_87 : decode cX3_add 87 = .ok (.putfield 21, 3) := by decide +kernel
theorem dX3_add_90 : decode cX3_add 90 = .ok (.return_, 1) := by decide +kernel
theorem dX3_set_0 : decode cX3_set 0 = .ok (.aload_n 0, 1) := by decide +kernel
theorem dX3_set_1 : decode cX3_set 1 = .ok (.getfield 9, 3) := by decide +kernel
theorem dX3_set_4 : decode cX3_set 4 = .ok (.iload_n 1, 1) := by decide +kernel
theorem dX3_set_5 : decode cX3_set 5 = .ok (.iload_n 2, 1) := by decide +kernel
theorem dX3_set_6 : decode cX3_set 6 = .ok (.invokestatic 33, 3) := by decide +kernel
theorem dX3_set_9 : decode cX3_set 9 = .ok (.aload_n 0, 1) := by decide +kernel
theorem dX3_set_10 : decode cX3_set 10 = .ok (.getfield 15, 3) := by decide +kernel
theorem dX3_set_13 : decode cX3_set 13 = .ok (.iload_n 1, 1) := by decide +kernel
theorem dX3_set_14 : decode cX3_set 14 = .ok (.iload_n 3, 1) := by decide +kernel
theorem dX3_set_15 : decode cX3_set 15 = .ok (.invokestatic 33, 3) := by decide +kernel
theorem dX3_set_18 : decode cX3_set 18 = .ok (.aload_n 0, 1) := by decide +kernel
theorem dX3_set_19 : decode cX3_set 19 = .ok (.getfield 18, 3) := by decide +kernel
theorem dX3_set_22 : decode cX3_set 22 = .ok (.iload_n 1, 1) := by decide +kernel
theorem dX3_set_23 : decode cX3_set 23 = .ok (.iload 4, 2) := by decide +kernel
theorem dX3_set_25 : decode cX3_set 25 = .ok (.invokestatic 33, 3) := by decide +kernel
theorem dX3_set_28 : decode cX3_set 28 = .ok (.return_, 1) := by decide +kernel
theorem dX3_allHoldOn_0 : decode cX3_allHoldOn 0 = .ok (.iconst 0, 1) := by decide +kernel
theorem dX3_allHoldOn_1 : decode cX3_allHoldOn 1 = .ok (.istore_n 2, 1) := by decide +kernel
theorem dX3_allHoldOn_2 : decode cX3_allHoldOn 2 = .ok (.iconst 0, 1) := by decide +kernel
theorem dX3_allHoldOn_3 : decode cX3_allHoldOn 3 = .ok (.istore_n 3, 1) := by decide +kernel
theorem dX3_allHoldOn_4 : decode cX3_allHoldOn 4 = .ok (.iload_n 3, 1) := by decide +kernel
theorem dX3_allHoldOn_5 : decode cX3_allHoldOn 5 = .ok (.aload_n 0, 1) := by decide +kernel
theorem dX3_allHoldOn_6 : decode cX3_allHoldOn 6 = .ok (.getfield 21, 3) := by decide +kernel
theorem dX3_allHoldOn_9 : decode cX3_allHoldOn 9 = .ok (.if_icmp .ge 60, 3) := by decide +kernel
theorem dX3_allHoldOn_12 : decode cX3_allHoldOn 12 = .ok (.aload_n 0, 1) := by decide +kernel
theorem dX3_allHoldOn_13 : decode cX3_allHoldOn 13 = .ok (.getfield 18, 3) := by decide +kernel
theorem dX3_allHoldOn_16 : decode cX3_allHoldOn 16 = .ok (.iload_n 3, 1) := by decide +kernel
theorem dX3_allHoldOn_17 : decode cX3_allHoldOn 17 = .ok (.invokestatic 25, 3) := by decide +kernel
theorem dX3_allHoldOn_20 : decode cX3_allHoldOn 20 = .ok (.iconst 1, 1) := by decide +kernel
theorem dX3_allHoldOn_21 : decode cX3_allHoldOn 21 = .ok (.iadd, 1) := by decide +kernel
theorem dX3_allHoldOn_22 : decode cX3_allHoldOn 22 = .ok (.istore 4, 2) := by decide +kernel
theorem dX3_allHoldOn_24 : decode cX3_allHoldOn 24 = .ok (.aload_n 1, 1) := by decide +kernel
theorem dX3_allHoldOn_25 : decode cX3_allHoldOn 25 = .ok (.iload 4, 2) := by decide +kernel
theorem dX3_allHoldOn_27 : decode cX3_allHoldOn 27 = .ok (.iload_n 2, 1) := by decide +kernel
theorem dX3_allHoldOn_28 : decode cX3_allHoldOn 28 = .ok (.isub, 1) := by decide +kernel
theorem dX3_allHoldOn_29 : decode cX3_allHoldOn 29 = .ok (.invokevirtual 37, 3) := by decide +kernel
theorem dX3_allHoldOn_32 : decode cX3_allHoldOn 32 = .ok (.iload 4, 2) := by decide +kernel
theorem dX3_allHoldOn_34 : decode cX3_allHoldOn 34 = .ok (.istore_n 2, 1) := by decide +kernel
theorem dX3_allHoldOn_35 : decode cX3_allHoldOn 35 = .ok (.aload_n 1, 1) := by decide +kernel
theorem dX3_allHoldOn_36 : decode cX3_allHoldOn 36 = .ok (.invokevirtual 43, 3) := by decide +kernel
theorem dX3_allHoldOn_39 : decode cX3_allHoldOn 39 = .ok (.aload_n 0, 1) := by decide +kernel
theorem dX3_allHoldOn_40 : decode cX3_allHoldOn 40 = .ok (.getfield 9, 3) := by decide +kernel
theorem dX3_allHoldOn_43 : decode cX3_allHoldOn 43 = .ok (.iload_n 3, 1) := by decide +kernel
theorem dX3_allHoldOn_44 : decode cX3_allHoldOn 44 = .ok (.invokestatic 25, 3) := by decide +kernel
theorem dX3_allHoldOn_47 : decode cX3_allHoldOn 47 = .ok (.invokevirtual 47, 3) := by decide +kernel
theorem dX3_allHoldOn_50 : decode cX3_allHoldOn 50 = .ok (.aload_n 0, 1) := by decide +kernel
theorem dX3_allHoldOn_51 : decode cX3_allHoldOn 51 = .ok (.getfield 15, 3) := by decide +kernel
theorem dX3_allHoldOn_54 : decode cX3_allHoldOn 54 = .ok (.iload_n 3, 1) := by decide +kernel
theorem dX3_allHoldOn_55 : decode cX3_allHoldOn 55 = .ok (.invokestatic 25, 3) := by decide +kernel
theorem dX3_allHoldOn_58 : decode cX3_allHoldOn 58 = .ok (.if_icmp .eq 5, 3) := by decide +kernel
theorem dX3_allHoldOn_61 : decode cX3_allHoldOn 61 = .ok (.iconst 0, 1) := by decide +kernel
theorem dX3_allHoldOn_62 : decode cX3_allHoldOn 62 = .ok (.ireturn, 1) := by decide +kernel
theorem dX3_allHoldOn_63 : decode cX3_allHoldOn 63 = .ok (.iinc 3 1, 3) := by decide +kernel
theorem dX3_allHoldOn_66 : decode cX3_allHoldOn 66 = .ok (.goto (-62), 3) := by decide +kernel
theorem dX3_allHoldOn_69 : decode cX3_allHoldOn 69 = .ok (.iconst 1, 1) := by decide +kernel
theorem dX3_allHoldOn_70 : decode cX3_allHoldOn 70 = .ok (.ireturn, 1) := by decide +kernel
theorem dX4_init_0 : decode cX4_init 0 = .ok (.aload_n 0, 1) := by decide +kernel
theorem dX4_init_1 : decode cX4_init 1 = .ok (.invokespecial 3, 3) := by decide +kernel
theorem dX4_init_4 : decode cX4_init 4 = .ok (.aload_n 0, 1) := by decide +kernel
theorem dX4_init_5 : decode cX4_init 5 = .ok (.bipush 8, 2) := by decide +kernel
theorem dX4_init_7 : decode cX4_init 7 = .ok (.newarray .int, 2) := by decide +kernel
theorem dX4_init_9 : decode cX4_init 9 = .ok (.putfield 9, 3) := by decide +kernel
theorem dX4_init_12 : decode cX4_init 12 = .ok (.aload_n 0, 1) := by decide +kernel
theorem dX4_init_13 : decode cX4_init 13 = .ok (.bipush 8, 2) := by decide +kernel
theorem dX4_init_15 : decode cX4_init 15 = .ok (.newarray .int, 2) := by decide +kernel
theorem dX4_init_17 : decode cX4_init 17 = .ok (.putfield 15, 3) := by decide +kernel
theorem dX4_init_20 : decode cX4_init 20 = .ok (.return_, 1) := by decide +kernel
theorem dX4_beginAs_0 : decode cX4_beginAs 0 = .ok (.aload_n 0, 1) := by decide +kernel
theorem dX4_beginAs_1 : decode cX4_beginAs 1 = .ok (.iconst 0, 1) := by decide +kernel
theorem dX4_beginAs_2 : decode cX4_beginAs 2 = .ok (.putfield 18, 3) := by decide +kernel
theorem dX4_beginAs_5 : decode cX4_beginAs 5 = .ok (.iconst 0, 1) := by decide +kernel
theorem dX4_beginAs_6 : decode cX4_beginAs 6 = .ok (.istore_n 2, 1) := by decide +kernel
theorem dX4_beginAs_7 : decode cX4_beginAs 7 = .ok (.iload_n 2, 1) := by decide +kernel
theorem dX4_beginAs_8 : decode cX4_beginAs 8 = .ok (.bipush 8, 2) := by decide +kernel
theorem dX4_beginAs_10 : decode cX4_beginAs 10 = .ok (.if_icmp .ge 31, 3) := by decide +kernel
theorem dX4_beginAs_13 : decode cX4_beginAs 13 = .ok (.aload_n 0, 1) := by decide +kernel
theorem dX4_beginAs_14 : decode cX4_beginAs 14 = .ok (.getfield 9, 3) := by decide +kernel
theorem dX4_beginAs_17 : decode cX4_beginAs 17 = .ok (.iload_n 2, 1) := by decide +kernel
theorem dX4_beginAs_18 : decode cX4_beginAs 18 = .ok (.iload_n 2, 1) := by decide +kernel
theorem dX4_beginAs_19 : decode cX4_beginAs 19 = .ok (.invokestatic 22, 3) := by decide +kernel
theorem dX4_beginAs_22 : decode cX4_beginAs 22 = .ok (.aload_n 0, 1) := by decide +kernel
theorem dX4_beginAs_23 : decode cX4_beginAs 23 = .ok (.getfield 15, 3) := by decide +kernel
theorem dX4_beginAs_26 : decode cX4_beginAs 26 = .ok (.iload_n 2, 1) := by decide +kernel
theorem dX4_beginAs_27 : decode cX4_beginAs 27 = .ok (.aload_n 1, 1) := by decide +kernel
theorem dX4_beginAs_28 : decode cX4_beginAs 28 = .ok (.iload_n 2, 1) := by decide +kernel
theorem dX4_beginAs_29 : decode cX4_beginAs 29 = .ok (.invokevirtual 26, 3) := by decide +kernel
theorem dX4_beginAs_32 : decode cX4_beginAs 32 = .ok (.invokestatic 22, 3) := by decide +kernel
theorem dX4_beginAs_35 : decode cX4_beginAs 35 = .ok (.iinc 2 1, 3) := by decide +kernel
theorem dX4_beginAs_38 : decode cX4_beginAs 38 = .ok (.goto (-31), 3) := by decide +kernel
theorem dX4_beginAs_41 : decode cX4_beginAs 41 = .ok (.return_, 1) := by decide +kernel
theorem dX4_copyFrom_0 : decode cX4_copyFrom 0 = .ok (.aload_n 0, 1) := by decide +kernel
theorem dX4_copyFrom_1 : decode cX4_copyFrom 1 = .ok (.aload_n 1, 1) := by decide +kernel
theorem dX4_copyFrom_2 : decode cX4_copyFrom 2 = .ok (.getfield 18, 3) := by decide +kernel
theorem dX4_copyFrom_5 : decode cX4_copyFrom 5 = .ok (.putfield 18, 3) := by decide +kernel
theorem dX4_copyFrom_8 : decode cX4_copyFrom 8 = .ok (.aload_n 1, 1) := by decide +kernel
theorem dX4_copyFrom_9 : decode cX4_copyFrom 9 = .ok (.getfield 9, 3) := by decide +kernel
theorem dX4_copyFrom_12 : decode cX4_copyFrom 12 = .ok (.aload_n 0, 1) := by decide +kernel
theorem dX4_copyFrom_13 : decode cX4_copyFrom 13 = .ok (.getfield 9, 3) := by decide +kernel
theorem dX4_copyFrom_16 : decode cX4_copyFrom 16 = .ok (.invokestatic 32, 3) := by decide +kernel
theorem dX4_copyFrom_19 : decode cX4_copyFrom 19 = .ok (.aload_n 1, 1) := by decide +kernel
theorem dX4_copyFrom_20 : decode cX4_copyFrom 20 = .ok (.getfield 15, 3) := by decide +kernel
theorem dX4_copyFrom_23 : decode cX4_copyFrom 23 = .ok (.aload_n 0, 1) := by decide +kernel
theorem dX4_copyFrom_24 : decode cX4_copyFrom 24 = .ok (.getfield 15, 3) := by decide +kernel
theorem dX4_copyFrom_27 : decode cX4_copyFrom 27 = .ok (.invokestatic 32, 3) := by decide +kernel
theorem dX4_copyFrom_30 : decode cX4_copyFrom 30 = .ok (.return_, 1) := by decide +kernel
theorem dX4_day_0 : decode cX4_day 0 = .ok (.aload_n 0, 1) := by decide +kernel
theorem dX4_day_1 : decode cX4_day 1 = .ok (.getfield 18, 3) := by decide +kernel
theorem dX4_day_4 : decode cX4_day 4 = .ok (.ireturn, 1) := by decide +kernel
theorem dX4_addDays_0 : decode cX4_addDays 0 = .ok (.aload_n 0, 1) := by decide +kernel
theorem dX4_addDays_1 : decode cX4_addDays 1 = .ok (.dup, 1) := by decide +kernel
theorem dX4_addDays_2 : decode cX4_addDays 2 = .ok (.getfield 18, 3) := by decide +kernel
theorem dX4_addDays_5 : decode cX4_addDays 5 = .ok (.iload_n 1, 1) := by decide +kernel
theorem dX4_addDays_6 : decode cX4_addDays 6 = .ok (.iadd, 1) := by decide +kernel
theorem dX4_addDays_7 : decode cX4_addDays 7 = .ok (.putfield 18, 3) := by decide +kernel
theorem dX4_addDays_10 : decode cX4_addDays 10 = .ok (.return_, 1) := by decide +kernel
theorem dX4_roomOf_0 : decode cX4_roomOf 0 = .ok (.iload_n 1, 1) := by decide +kernel
theorem dX4_roomOf_1 : decode cX4_roomOf 1 = .ok (.ifCond .lt 21, 3) := by decide +kernel
theorem dX4_roomOf_4 : decode cX4_roomOf 4 = .ok (.iload_n 1, 1) := by decide +kernel
theorem dX4_roomOf_5 : decode cX4_roomOf 5 = .ok (.aload_n 0, 1) := by decide +kernel
theorem dX4_roomOf_6 : decode cX4_roomOf 6 = .ok (.getfield 9, 3) := by decide +kernel
theorem dX4_roomOf_9 : decode cX4_roomOf 9 = .ok (.arraylength, 1) := by decide +kernel
theorem dX4_roomOf_10 : decode cX4_roomOf 10 = .ok (.if_icmp .ge 12, 3) := by decide +kernel
theorem dX4_roomOf_13 : decode cX4_roomOf 13 = .ok (.aload_n 0, 1) := by decide +kernel
theorem dX4_roomOf_14 : decode cX4_roomOf 14 = .ok (.getfield 9, 3) := by decide +kernel
theorem dX4_roomOf_17 : decode cX4_roomOf 17 = .ok (.iload_n 1, 1) := by decide +kernel
theorem dX4_roomOf_18 : decode cX4_roomOf 18 = .ok (.iaload, 1) := by decide +kernel
theorem dX4_roomOf_19 : decode cX4_roomOf 19 = .ok (.goto 4, 3) := by decide +kernel
theorem dX4_roomOf_22 : decode cX4_roomOf 22 = .ok (.iconst 0, 1) := by decide +kernel
theorem dX4_roomOf_23 : decode cX4_roomOf 23 = .ok (.ireturn, 1) := by decide +kernel
theorem dX4_ownerOf_0 : decode cX4_ownerOf 0 = .ok (.iconst 0, 1) := by decide +kernel
theorem dX4_ownerOf_1 : decode cX4_ownerOf 1 = .ok (.istore_n 3, 1) := by decide +kernel
theorem dX4_ownerOf_2 : decode cX4_ownerOf 2 = .ok (.iload_n 3, 1) := by decide +kernel
theorem dX4_ownerOf_3 : decode cX4_ownerOf 3 = .ok (.iload_n 2, 1) := by decide +kernel
theorem dX4_ownerOf_4 : decode cX4_ownerOf 4 = .ok (.if_icmp .ge 23, 3) := by decide +kernel
theorem dX4_ownerOf_7 : decode cX4_ownerOf 7 = .ok (.aload_n 0, 1) := by decide +kernel
theorem dX4_ownerOf_8 : decode cX4_ownerOf 8 = .ok (.getfield 9, 3) := by decide +kernel
theorem dX4_ownerOf_11 : decode cX4_ownerOf 11 = .ok (.iload_n 3, 1) := by decide +kernel
theorem dX4_ownerOf_12 : decode cX4_ownerOf 12 = .ok (.invokestatic 36, 3) := by decide +kernel
theorem dX4_ownerOf_15 : decode cX4_ownerOf 15 = .ok (.iload_n 1, 1) := by decide +kernel
theorem dX4_ownerOf_16 : decode cX4_ownerOf 16 = .ok (.if_icmp .ne 5, 3) := by decide +kernel
theorem dX4_ownerOf_19 : decode cX4_ownerOf 19 = .ok (.iload_n 3, 1) := by decide +kernel
theorem dX4_ownerOf_20 : decode cX4_ownerOf 20 = .ok (.ireturn, 1) := by decide +kernel
theorem dX4_ownerOf_21 : decode cX4_ownerOf 21 = .ok (.iinc 3 1, 3) := by decide +kernel
theorem dX4_ownerOf_24 : decode cX4_ownerOf 24 = .ok (.goto (-22), 3) := by decide +kernel
theorem dX4_ownerOf_27 : decode cX4_ownerOf 27 = .ok (.bipush (-4), 2) := by decide +kernel
theorem dX4_ownerOf_29 : decode cX4_ownerOf 29 = .ok (.ireturn, 1) := by decide +kernel
theorem dX4_birthdayOf_0 : decode cX4_birthdayOf 0 = .ok (.aload_n 0, 1) := by decide +kernel
theorem dX4_birthdayOf_1 : decode cX4_birthdayOf 1 = .ok (.getfield 15, 3) := by decide +kernel
theorem dX4_birthdayOf_4 : decode cX4_birthdayOf 4 = .ok (.iload_n 1, 1) := by decide +kernel
theorem dX4_birthdayOf_5 : decode cX4_birthdayOf 5 = .ok (.invokestatic 36, 3) := by decide +kernel
theorem dX4_birthdayOf_8 : decode cX4_birthdayOf 8 = .ok (.ireturn, 1) := by decide +kernel
theorem dX4_setBirthday_0 : decode cX4_setBirthday 0 = .ok (.aload_n 0, 1) := by decide +kernel
theorem dX4_setBirthday_1 : decode cX4_setBirthday 1 = .ok (.getfield 15, 3) := by decide +kernel
theorem dX4_setBirthday_4 : decode cX4_setBirthday 4 = .ok (.iload_n 1, 1) := by decide +kernel
theorem dX4_setBirthday_5 : decode cX4_setBirthday 5 = .ok (.iload_n 2, 1) := by decide +kernel
theorem dX4_setBirthday_6 : decode cX4_setBirthday 6 = .ok (.invokestatic 22, 3) := by decide +kernel
theorem dX4_setBirthday_9 : decode cX4_setBirthday 9 = .ok (.return_, 1) := by decide +kernel
theorem dX4_exchange_0 : decode cX4_exchange 0 = .ok (.aload_n 0, 1) := by decide +kernel
theorem dX4_exchange_1 : decode cX4_exchange 1 = .ok (.getfield 9, 3) := by decide +kernel
theorem dX4_exchange_4 : decode cX4_exchange 4 = .ok (.iload_n 1, 1) := by decide +kernel
theorem dX4_exchange_5 : decode cX4_exchange 5 = .ok (.invokestatic 36, 3) := by decide +kernel
theorem dX4_exchange_8 : decode cX4_exchange 8 = .ok (.istore_n 3, 1) := by decide +kernel
theorem dX4_exchange_9 : decode cX4_exchange 9 = .ok (.aload_n 0, 1) := by decide +kernel
theorem dX4_exchange_10 : decode cX4_exchange 10 = .ok (.getfield 9, 3) := by decide +kernel
theorem dX4_exchange_13 : decode cX4_exchange 13 = .ok (.iload_n 1, 1) := by decide +kernel
theorem dX4_exchange_14 : decode cX4_exchange 14 = .ok (.aload_n 0, 1) := by decide +kernel
theorem dX4_exchange_15 : decode cX4_exchange 15 = .ok (.getfield 9, 3) := by decide +kernel
theorem dX4_exchange_18 : decode cX4_exchange 18 = .ok (.iload_n 2, 1) := by decide +kernel
theorem dX4_exchange_19 : decode cX4_exchange 19 = .ok (.invokestatic 36, 3) := by decide +kernel
theorem dX4_exchange_22 : decode cX4_exchange 22 = .ok (.invokestatic 22, 3) := by decide +kernel
theorem dX4_exchange_25 : decode cX4_exchange 25 = .ok (.aload_n 0, 1) := by decide +kernel
theorem dX4_exchange_26 : decode cX4_exchange 26 = .ok (.getfield 9, 3) := by decide +kernel
theorem dX4_exchange_29 : decode cX4_exchange 29 = .ok (.iload_n 2, 1) := by decide +kernel
theorem dX4_exchange_30 : decode cX4_exchange 30 = .ok (.iload_n 3, 1) := by decide +kernel
theorem dX4_exchange_31 : decode cX4_exchange 31 = .ok (.invokestatic 22, 3) := by decide +kernel
theorem dX4_exchange_34 : decode cX4_exchange 34 = .ok (.return_, 1) := by decide +kernel
theorem dX4_hasRoomsOf_0 : decode cX4_hasRoomsOf 0 = .ok (.iconst 0, 1) := by decide +kernel
theorem dX4_hasRoomsOf_1 : decode cX4_hasRoomsOf 1 = .ok (.istore_n 3, 1) := by decide +kernel
theorem dX4_hasRoomsOf_2 : decode cX4_hasRoomsOf 2 = .ok (.iload_n 3, 1) := by decide +kernel
theorem dX4_hasRoomsOf_3 : decode cX4_hasRoomsOf 3 = .ok (.iload_n 2, 1) := by decide +kernel
theorem dX4_hasRoomsOf_4 : decode cX4_hasRoomsOf 4 = .ok (.if_icmp .ge 24, 3) := by decide +kernel
theorem dX4_hasRoomsOf_7 : decode cX4_hasRoomsOf 7 = .ok (.aload_n 0, 1) := by decide +kernel
theorem dX4_hasRoomsOf_8 : decode cX4_hasRoomsOf 8 = .ok (.iload_n 3, 1) := by decide +kernel
theorem dX4_hasRoomsOf_9 : decode cX4_hasRoomsOf 9 = .ok (.invokevirtual 40, 3) := by decide +kernel
theorem dX4_hasRoomsOf_12 : decode cX4_hasRoomsOf 12 = .ok (.aload_n 1, 1) := by decide +kernel
theorem dX4_hasRoomsOf_13 : decode cX4_hasRoomsOf 13 = .ok (.iload_n 3, 1) := by decide +kernel
theorem dX4_hasRoomsOf_14 : decode cX4_hasRoomsOf 14 = .ok (.invokevirtual 40, 3) := by decide +kernel
theorem dX4_hasRoomsOf_17 : decode cX4_hasRoomsOf 17 = .ok (.if_icmp .eq 5, 3) := by decide +kernel
theorem dX4_hasRoomsOf_20 : decode cX4_hasRoomsOf 20 = .ok (.iconst 0, 1) := by decide +kernel
theorem dX4_hasRoomsOf_21 : decode cX4_hasRoomsOf 21 = .ok (.ireturn, 1) := by decide +kernel
theorem dX4_hasRoomsOf_22 : decode cX4_hasRoomsOf 22 = .ok (.iinc 3 1, 3) := by decide +kernel
theorem dX4_hasRoomsOf_25 : decode cX4_hasRoomsOf 25 = .ok (.goto (-23), 3) := by decide +kernel
theorem dX4_hasRoomsOf_28 : decode cX4_hasRoomsOf 28 = .ok (.iconst 1, 1) := by decide +kernel
theorem dX4_hasRoomsOf_29 : decode cX4_hasRoomsOf 29 = .ok (.ireturn, 1) := by decide +kernel
theorem dX4_daysToBirthdayOf_0 : decode cX4_daysToBirthdayOf 0 = .ok (.aload_n 0, 1) := by decide +kernel
theorem dX4_daysToBirthdayOf_1 : decode cX4_daysToBirthdayOf 1 = .ok (.iload_n 1, 1) := by decide +kernel
theorem dX4_daysToBirthdayOf_2 : decode cX4_daysToBirthdayOf 2 = .ok (.invokevirtual 43, 3) := by decide +kernel
theorem dX4_daysToBirthdayOf_5 : decode cX4_daysToBirthdayOf 5 = .ok (.aload_n 0, 1) := by decide +kernel
theorem dX4_daysToBirthdayOf_6 : decode cX4_daysToBirthdayOf 6 = .ok (.getfield 18, 3) := by decide +kernel
theorem dX4_daysToBirthdayOf_9 : decode cX4_daysToBirthdayOf 9 = .ok (.isub, 1) := by decide +kernel
theorem dX4_daysToBirthdayOf_10 : decode cX4_daysToBirthdayOf 10 = .ok (.bipush 60, 2) := by decide +kernel
theorem dX4_daysToBirthdayOf_12 : decode cX4_daysToBirthdayOf 12 = .ok (.invokestatic 46, 3) := by decide +kernel
theorem dX4_daysToBirthdayOf_15 : decode cX4_daysToBirthdayOf 15 = .ok (.ireturn, 1) := by decide +kernel
theorem dX5_init_0 : decode cX5_init 0 = .ok (.aload_n 0, 1) := by decide +kernel
theorem dX5_init_1 : decode cX5_init 1 = .ok (.invokespecial 3, 3) := by decide +kernel
theorem dX5_init_4 : decode cX5_init 4 = .ok (.aload_n 0, 1) := by decide +kernel
theorem dX5_init_5 : decode cX5_init 5 = .ok (.sipush 200, 3) := by decide +kernel
theorem dX5_init_8 : decode cX5_init 8 = .ok (.newarray .char, 2) := by decide +kernel
theorem dX5_init_10 : decode cX5_init 10 = .ok (.putfield 9, 3) := by decide +kernel
theorem dX5_init_13 : decode cX5_init 13 = .ok (.aload_n 0, 1) := by decide +kernel
theorem dX5_init_14 : decode cX5_init 14 = .ok (.iconst 3, 1) := by decide +kernel
theorem dX5_init_15 : decode cX5_init 15 = .ok (.newarray .int, 2) := by decide +kernel
theorem dX5_init_17 : decode cX5_init 17 = .ok (.putfield 15, 3) := by decide +kernel
theorem dX5_init_20 : decode cX5_init 20 = .ok (.return_, 1) := by decide +kernel
theorem dX5_isFull_0 : decode cX5_isFull 0 = .ok (.aload_n 0, 1) := by decide +kernel
theorem dX5_isFull_1 : decode cX5_isFull 1 = .ok (.getfield 19, 3) := by decide +kernel
theorem dX5_isFull_4 : decode cX5_isFull 4 = .ok (.sipush 200, 3) := by decide +kernel
theorem dX5_isFull_7 : decode cX5_isFull 7 = .ok (.if_icmp .lt 7, 3) := by decide +kernel
theorem dX5_isFull_10 : decode cX5_isFull 10 = .ok (.iconst 1, 1) := by decide +kernel
theorem dX5_isFull_11 : decode cX5_isFull 11 = .ok (.goto 4, 3) := by decide +kernel
theorem dX5_isFull_14 : decode cX5_isFull 14 = .ok (.iconst 0, 1) := by decide +kernel
theorem dX5_isFull_15 : decode cX5_isFull 15 = .ok (.ireturn, 1) := by decide +kernel
theorem dX5_size_0 : decode cX5_size 0 = .ok (.aload_n 0, 1) := by decide +kernel
theorem dX5_size_1 : decode cX5_size 1 = .ok (.getfield 19, 3) := by decide +kernel
theorem dX5_size_4 : decode cX5_size 4 = .ok (.ireturn, 1) := by decide +kernel
theorem dX5_add_0 : decode cX5_add 0 = .ok (.aload_n 0, 1) := by decide +kernel
theorem dX5_add_1 : decode cX5_add 1 = .ok (.getfield 19, 3) := by decide +kernel
theorem dX5_add_4 : decode cX5_add 4 = .ok (.ifCond .lt 35, 3) := by decide +kernel
theorem dX5_add_7 : decode cX5_add 7 = .ok (.aload_n 0, 1) := by decide +kernel
theorem dX5_add_8 : decode cX5_add 8 = .ok (.getfield 19, 3) := by decide +kernel
theorem dX5_add_11 : decode cX5_add 11 = .ok (.aload_n 0, 1) := by decide +kernel
theorem dX5_add_12 : decode cX5_add 12 = .ok (.getfield 9, 3) := by decide +kernel
theorem dX5_add_15 : decode cX5_add 15 = .ok (.arraylength, 1) := by decide +kernel
theorem dX5_add_16 : decode cX5_add 16 = .ok (.if_icmp .ge 23, 3) := by decide +kernel
theorem dX5_add_19 : decode cX5_add 19 = .ok (.aload_n 0, 1) := by decide +kernel
theorem dX5_add_20 : decode cX5_add 20 = .ok (.getfield 9, 3) := by decide +kernel
theorem dX5_add_23 : decode cX5_add 23 = .ok (.aload_n 0, 1) := by decide +kernel
theorem dX5_add_24 : decode cX5_add 24 = .ok (.getfield 19, 3) := by decide +kernel
theorem dX5_add_27 : decode cX5_add 27 = .ok (.iload_n 1, 1) := by decide +kernel
theorem dX5_add_28 : decode cX5_add 28 = .ok (.castore, 1) := by decide +kernel
theorem dX5_add_29 : decode cX5_add 29 = .ok (.aload_n 0, 1) := by decide +kernel
theorem dX5_add_30 : decode cX5_add 30 = .ok (.dup, 1) := by decide +kernel
theorem dX5_add_31 : decode cX5_add 31 = .ok (.getfield 19, 3) := by decide +kernel
theorem dX5_add_34 : decode cX5_add 34 = .ok (.iconst 1, 1) := by decide +kernel
theorem dX5_add_35 : decode cX5_add 35 = .ok (.iadd, 1) := by decide +kernel
theorem dX5_add_36 : decode cX5_add 36 = .ok (.putfield 19, 3) := by decide +kernel
theorem dX5_add_39 : decode cX5_add 39 = .ok (.return_, 1) := by decide +kernel
theorem dX5_clear_0 : decode cX5_clear 0 = .ok (.aload_n 0, 1) := by decide +kernel
theorem dX5_clear_1 : decode cX5_clear 1 = .ok (.iconst 0, 1) := by decide +kernel
theorem dX5_clear_2 : decode cX5_clear 2 = .ok (.putfield 19, 3) := by decide +kernel
theorem dX5_clear_5 : decode cX5_clear 5 = .ok (.return_, 1) := by decide +kernel
theorem dX5_readInto_0 : decode cX5_readInto 0 = .ok (.aload_n 1, 1) := by decide +kernel
theorem dX5_readInto_1 : decode cX5_readInto 1 = .ok (.invokevirtual 23, 3) := by decide +kernel
theorem dX5_readInto_4 : decode cX5_readInto 4 = .ok (.aload_n 0, 1) := by decide +kernel
theorem dX5_readInto_5 : decode cX5_readInto 5 = .ok (.iconst 0, 1) := by decide +kernel
theorem dX5_readInto_6 : decode cX5_readInto 6 = .ok (.putfield 28, 3) := by decide +kernel
theorem dX5_readInto_9 : decode cX5_readInto 9 = .ok (.iconst 0, 1) := by decide +kernel
theorem dX5_readInto_10 : decode cX5_readInto 10 = .ok (.istore_n 2, 1) := by decide +kernel
theorem dX5_readInto_11 : decode cX5_readInto 11 = .ok (.iload_n 2, 1) := by decide +kernel
theorem dX5_readInto_12 : decode cX5_readInto 12 = .ok (.sipush 200, 3) := by decide +kernel
theorem dX5_readInto_15 : decode cX5_readInto 15 = .ok (.if_icmp .ge 35, 3) := by decide +kernel
theorem dX5_readInto_18 : decode cX5_readInto 18 = .ok (.aload_n 0, 1) := by decide +kernel
theorem dX5_readInto_19 : decode cX5_readInto 19 = .ok (.getfield 28, 3) := by decide +kernel
theorem dX5_readInto_22 : decode cX5_readInto 22 = .ok (.aload_n 0, 1) := by decide +kernel
theorem dX5_readInto_23 : decode cX5_readInto 23 = .ok (.getfield 19, 3) := by decide +kernel
theorem dX5_readInto_26 : decode cX5_readInto 26 = .ok (.if_icmp .ge 24, 3) := by decide +kernel
theorem dX5_readInto_29 : decode cX5_readInto 29 = .ok (.aload_n 0, 1) := by decide +kernel
theorem dX5_readInto_30 : decode cX5_readInto 30 = .ok (.getfield 28, 3) := by decide +kernel
theorem dX5_readInto_33 : decode cX5_readInto 33 = .ok (.istore_n 3, 1) := by decide +kernel
theorem dX5_readInto_34 : decode cX5_readInto 34 = .ok (.aload_n 0, 1) := by decide +kernel
theorem dX5_readInto_35 : decode cX5_readInto 35 = .ok (.aload_n 1, 1) := by decide +kernel
theorem dX5_readInto_36 : decode cX5_readInto 36 = .ok (.invokevirtual 31, 3) := by decide +kernel
theorem dX5_readInto_39 : decode cX5_readInto 39 = .ok (.ifCond .ne 5, 3) := by decide +kernel
theorem dX5_readInto_42 : decode cX5_readInto 42 = .ok (.iload_n 3, 1) := by decide +kernel
theorem dX5_readInto_43 : decode cX5_readInto 43 = .ok (.ireturn, 1) := by decide +kernel
theorem dX5_readInto_44 : decode cX5_readInto 44 = .ok (.iinc 2 1, 3) := by decide +kernel
theorem dX5_readInto_47 : decode cX5_readInto 47 = .ok (.goto (-36), 3) := by decide +kernel
theorem dX5_readInto_50 : decode cX5_readInto 50 = .ok (.bipush (-4), 2) := by decide +kernel
theorem dX5_readInto_52 : decode cX5_readInto 52 = .ok (.ireturn, 1) := by decide +kernel
theorem dX5_readItem_0 : decode cX5_readItem 0 = .ok (.aload_n 0, 1) := by decide +kernel
theorem dX5_readItem_1 : decode cX5_readItem 1 = .ok (.invokevirtual 35, 3) := by decide +kernel
theorem dX5_readItem_4 : decode cX5_readItem 4 = .ok (.istore_n 2, 1) := by decide +kernel
theorem dX5_readItem_5 : decode cX5_readItem 5 = .ok (.aload_n 0, 1) := by decide +kernel
theorem dX5_readItem_6 : decode cX5_readItem 6 = .ok (.dup, 1) := by decide +kernel
theorem dX5_readItem_7 : decode cX5_readItem 7 = .ok (.getfield 28, 3) := by decide +kernel
theorem dX5_readItem_10 : decode cX5_readItem 10 = .ok (.iconst 1, 1) := by decide +kernel
theorem dX5_readItem_11 : decode cX5_readItem 11 = .ok (.iadd, 1) := by decide +kernel
theorem dX5_readItem_12 : decode cX5_readItem 12 = .ok (.putfield 28, 3) := by decide +kernel
theorem dX5_readItem_15 : decode cX5_readItem 15 = .ok (.iload_n 2, 1) := by decide +kernel
theorem dX5_readItem_16 : decode cX5_readItem 16 = .ok (.bipush 99, 2) := by decide +kernel
theorem dX5_readItem_18 : decode cX5_readItem 18 = .ok (.if_icmp .ne 48, 3) := by decide +kernel
theorem dX5_readItem_21 : decode cX5_readItem 21 = .ok (.aload_n 0, 1) := by decide +kernel
theorem dX5_readItem_22 : decode cX5_readItem 22 = .ok (.iconst 3, 1) := by decide +kernel
theorem dX5_readItem_23 : decode cX5_readItem 23 = .ok (.invokevirtual 39, 3) := by decide +kernel
theorem dX5_readItem_26 : decode cX5_readItem 26 = .ok (.ifCond .eq 38, 3) := by decide +kernel
theorem dX5_readItem_29 : decode cX5_readItem 29 = .ok (.aload_n 1, 1) := by decide +kernel
theorem dX5_readItem_30 : decode cX5_readItem 30 = .ok (.aload_n 0, 1) := by decide +kernel
theorem dX5_readItem_31 : decode cX5_readItem 31 = .ok (.getfield 15, 3) := by decide +kernel
theorem dX5_readItem_34 : decode cX5_readItem 34 = .ok (.iconst 0, 1) := by decide +kernel
theorem dX5_readItem_35 : decode cX5_readItem 35 = .ok (.invokestatic 43, 3) := by decide +kernel
theorem dX5_readItem_38 : decode cX5_readItem 38 = .ok (.aload_n 0, 1) := by decide +kernel
theorem dX5_readItem_39 : decode cX5_readItem 39 = .ok (.getfield 15, 3) := by decide +kernel
theorem dX5_readItem_42 : decode cX5_readItem 42 = .ok (.iconst 1, 1) := by decide +kernel
theorem dX5_readItem_43 : decode cX5_readItem 43 = .ok (.invokestatic 43, 3) := by decide +kernel
theorem dX5_readItem_46 : decode cX5_readItem 46 = .ok (.aload_n 0, 1) := by decide +kernel
theorem dX5_readItem_47 : decode cX5_readItem 47 = .ok (.getfield 15, 3) := by decide +kernel
theorem dX5_readItem_50 : decode cX5_readItem 50 = .ok (.iconst 2, 1) := by decide +kernel
theorem dX5_readItem_51 : decode cX5_readItem 51 = .ok (.invokestatic 43, 3) := by decide +kernel
theorem dX5_readItem_54 : decode cX5_readItem 54 = .ok (.invokevirtual 47, 3) := by decide +kernel
theorem dX5_readItem_57 : decode cX5_readItem 57 = .ok (.ifCond .eq 7, 3) := by decide +kernel
theorem dX5_readItem_60 : decode cX5_readItem 60 = .ok (.iconst 1, 1) := by decide +kernel
theorem dX5_readItem_61 : decode cX5_readItem 61 = .ok (.goto 4, 3) := by decide +kernel
theorem dX5_readItem_64 : decode cX5_readItem 64 = .ok (.iconst 0, 1) := by decide +kernel
theorem dX5_readItem_65 : decode cX5_readItem 65 = .ok (.ireturn, 1) := by decide +kernel
theorem dX5_readItem_66 : decode cX5_readItem 66 = .ok (.iload_n 2, 1) := by decide +kernel
theorem dX5_readItem_67 : decode cX5_readItem 67 = .ok (.bipush 114, 2) := by decide +kernel
theorem dX5_readItem_69 : decode cX5_readItem 69 = .ok (.if_icmp .ne 40, 3) := by decide +kernel
theorem dX5_readItem_72 : decode cX5_readItem 72 = .ok (.aload_n 0, 1) := by decide +kernel
theorem dX5_readItem_73 : decode cX5_readItem 73 = .ok (.iconst 2, 1) := by decide +kernel
theorem dX5_readItem_74 : decode cX5_readItem 74 = .ok (.invokevirtual 39, 3) := by decide +kernel
theorem dX5_readItem_77 : decode cX5_readItem 77 = .ok (.ifCond .eq 30, 3) := by decide +kernel
theorem dX5_readItem_80 : decode cX5_readItem 80 = .ok (.aload_n 1, 1) := by decide +kernel
theorem dX5_readItem_81 : decode cX5_readItem 81 = .ok (.aload_n 0, 1) := by decide +kernel
theorem dX5_readItem_82 : decode cX5_readItem 82 = .ok (.getfield 15, 3) := by decide +kernel
theorem dX5_readItem_85 : decode cX5_readItem 85 = .ok (.iconst 0, 1) := by decide +kernel
theorem dX5_readItem_86 : decode cX5_readItem 86 = .ok (.invokestatic 43, 3) := by decide +kernel
theorem dX5_readItem_89 : decode cX5_readItem 89 = .ok (.aload_n 0, 1) := by decide +kernel
theorem dX5_readItem_90 : decode cX5_readItem 90 = .ok (.getfield 15, 3) := by decide +kernel
theorem dX5_readItem_93 : decode cX5_readItem 93 = .ok (.iconst 1, 1) := by decide +kernel
theorem dX5_readItem_94 : decode cX5_readItem 94 = .ok (.invokestatic 43, 3) := by decide +kernel
theorem dX5_readItem_97 : decode cX5_readItem 97 = .ok (.invokevirtual 51, 3) := by decide +kernel
theorem dX5_readItem_100 : decode cX5_readItem 100 = .ok (.ifCond .eq 7, 3) := by decide +kernel
theorem dX5_readItem_103 : decode cX5_readItem 103 = .ok (.iconst 1, 1) := by decide +kernel
theorem dX5_readItem_104 : decode cX5_readItem 104 = .ok (.goto 4, 3) := by decide +kernel
