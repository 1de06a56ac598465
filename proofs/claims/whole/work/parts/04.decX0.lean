theorem dX0_init_0 : decode cX0_init 0 = .ok (.aload_n 0, 1) := by decide +kernel
theorem dX0_init_1 : decode cX0_init 1 = .ok (.invokespecial 1, 3) := by decide +kernel
theorem dX0_init_4 : decode cX0_init 4 = .ok (.lload_n 1, 1) := by decide +kernel
theorem dX0_init_5 : decode cX0_init 5 = .ok (.lload_n 3, 1) := by decide +kernel
theorem dX0_init_6 : decode cX0_init 6 = .ok (.invokestatic 7, 3) := by decide +kernel
theorem dX0_init_9 : decode cX0_init 9 = .ok (.lstore 5, 2) := by decide +kernel
theorem dX0_init_11 : decode cX0_init 11 = .ok (.lload_n 3, 1) := by decide +kernel
theorem dX0_init_12 : decode cX0_init 12 = .ok (.lload 5, 2) := by decide +kernel
theorem dX0_init_14 : decode cX0_init 14 = .ok (.ldiv, 1) := by decide +kernel
theorem dX0_init_15 : decode cX0_init 15 = .ok (.lstore 7, 2) := by decide +kernel
theorem dX0_init_17 : decode cX0_init 17 = .ok (.aload_n 0, 1) := by decide +kernel
theorem dX0_init_18 : decode cX0_init 18 = .ok (.lload_n 1, 1) := by decide +kernel
theorem dX0_init_19 : decode cX0_init 19 = .ok (.lload 5, 2) := by decide +kernel
theorem dX0_init_21 : decode cX0_init 21 = .ok (.ldiv, 1) := by decide +kernel
theorem dX0_init_22 : decode cX0_init 22 = .ok (.putfield 13, 3) := by decide +kernel
theorem dX0_init_25 : decode cX0_init 25 = .ok (.aload_n 0, 1) := by decide +kernel
theorem dX0_init_26 : decode cX0_init 26 = .ok (.lload 7, 2) := by decide +kernel
theorem dX0_init_28 : decode cX0_init 28 = .ok (.lconst 0, 1) := by decide +kernel
theorem dX0_init_29 : decode cX0_init 29 = .ok (.lcmp, 1) := by decide +kernel
theorem dX0_init_30 : decode cX0_init 30 = .ok (.ifCond .le 8, 3) := by decide +kernel
theorem dX0_init_33 : decode cX0_init 33 = .ok (.lload 7, 2) := by decide +kernel
theorem dX0_init_35 : decode cX0_init 35 = .ok (.goto 4, 3) := by decide +kernel
theorem dX0_init_38 : decode cX0_init 38 = .ok (.lconst 1, 1) := by decide +kernel
theorem dX0_init_39 : decode cX0_init 39 = .ok (.putfield 17, 3) := by decide +kernel
theorem dX0_init_42 : decode cX0_init 42 = .ok (.return_, 1) := by decide +kernel
theorem dX0_commonDivisor_0 : decode cX0_commonDivisor 0 = .ok (.lload_n 0, 1) := by decide +kernel
theorem dX0_commonDivisor_1 : decode cX0_commonDivisor 1 = .ok (.lstore 4, 2) := by decide +kernel
theorem dX0_commonDivisor_3 : decode cX0_commonDivisor 3 = .ok (.lload_n 2, 1) := by decide +kernel
theorem dX0_commonDivisor_4 : decode cX0_commonDivisor 4 = .ok (.lstore 6, 2) := by decide +kernel
theorem dX0_commonDivisor_6 : decode cX0_commonDivisor 6 = .ok (.iconst 0, 1) := by decide +kernel
theorem dX0_commonDivisor_7 : decode cX0_commonDivisor 7 = .ok (.istore 8, 2) := by decide +kernel
theorem dX0_commonDivisor_9 : decode cX0_commonDivisor 9 = .ok (.iload 8, 2) := by decide +kernel
theorem dX0_commonDivisor_11 : decode cX0_commonDivisor 11 = .ok (.bipush 100, 2) := by decide +kernel
theorem dX0_commonDivisor_13 : decode cX0_commonDivisor 13 = .ok (.if_icmp .ge 31, 3) := by decide +kernel
theorem dX0_commonDivisor_16 : decode cX0_commonDivisor 16 = .ok (.lload 6, 2) := by decide +kernel
theorem dX0_commonDivisor_18 : decode cX0_commonDivisor 18 = .ok (.lconst 0, 1) := by decide +kernel
theorem dX0_commonDivisor_19 : decode cX0_commonDivisor 19 = .ok (.lcmp, 1) := by decide +kernel
theorem dX0_commonDivisor_20 : decode cX0_commonDivisor 20 = .ok (.ifCond .eq 24, 3) := by decide +kernel
theorem dX0_commonDivisor_23 : decode cX0_commonDivisor 23 = .ok (.lload 4, 2) := by decide +kernel
theorem dX0_commonDivisor_25 : decode cX0_commonDivisor 25 = .ok (.lload 6, 2) := by decide +kernel
theorem dX0_commonDivisor_27 : decode cX0_commonDivisor 27 = .ok (.lrem, 1) := by decide +kernel
theorem dX0_commonDivisor_28 : decode cX0_commonDivisor 28 = .ok (.lstore 9, 2) := by decide +kernel
theorem dX0_commonDivisor_30 : decode cX0_commonDivisor 30 = .ok (.lload 6, 2) := by decide +kernel
theorem dX0_commonDivisor_32 : decode cX0_commonDivisor 32 = .ok (.lstore 4, 2) := by decide +kernel
theorem dX0_commonDivisor_34 : decode cX0_commonDivisor 34 = .ok (.lload 9, 2) := by decide +kernel
theorem dX0_commonDivisor_36 : decode cX0_commonDivisor 36 = .ok (.lstore 6, 2) := by decide +kernel
theorem dX0_commonDivisor_38 : decode cX0_commonDivisor 38 = .ok (.iinc 8 1, 3) := by decide +kernel
theorem dX0_commonDivisor_41 : decode cX0_commonDivisor 41 = .ok (.goto (-32), 3) := by decide +kernel
theorem dX0_commonDivisor_44 : decode cX0_commonDivisor 44 = .ok (.lload 4, 2) := by decide +kernel
theorem dX0_commonDivisor_46 : decode cX0_commonDivisor 46 = .ok (.lconst 0, 1) := by decide +kernel
theorem dX0_commonDivisor_47 : decode cX0_commonDivisor 47 = .ok (.lcmp, 1) := by decide +kernel
theorem dX0_commonDivisor_48 : decode cX0_commonDivisor 48 = .ok (.ifCond .le 8, 3) := by decide +kernel
theorem dX0_commonDivisor_51 : decode cX0_commonDivisor 51 = .ok (.lload 4, 2) := by decide +kernel
theorem dX0_commonDivisor_53 : decode cX0_commonDivisor 53 = .ok (.goto 4, 3) := by decide +kernel
theorem dX0_commonDivisor_56 : decode cX0_commonDivisor 56 = .ok (.lconst 1, 1) := by decide +kernel
theorem dX0_commonDivisor_57 : decode cX0_commonDivisor 57 = .ok (.lreturn, 1) := by decide +kernel
theorem dX0_part_0 : decode cX0_part 0 = .ok (.iload_n 1, 1) := by decide +kernel
theorem dX0_part_1 : decode cX0_part 1 = .ok (.ifCond .ne 10, 3) := by decide +kernel
theorem dX0_part_4 : decode cX0_part 4 = .ok (.aload_n 0, 1) := by decide +kernel
theorem dX0_part_5 : decode cX0_part 5 = .ok (.getfield 13, 3) := by decide +kernel
theorem dX0_part_8 : decode cX0_part 8 = .ok (.goto 7, 3) := by decide +kernel
theorem dX0_part_11 : decode cX0_part 11 = .ok (.aload_n 0, 1) := by decide +kernel
theorem dX0_part_12 : decode cX0_part 12 = .ok (.getfield 17, 3) := by decide +kernel
theorem dX0_part_15 : decode cX0_part 15 = .ok (.lreturn, 1) := by decide +kernel
theorem dX0_cutOff_0 : decode cX0_cutOff 0 = .ok (.aload_n 0, 1) := by decide +kernel
theorem dX0_cutOff_1 : decode cX0_cutOff 1 = .ok (.getfield 13, 3) := by decide +kernel
theorem dX0_cutOff_4 : decode cX0_cutOff 4 = .ok (.aload_n 0, 1) := by decide +kernel
theorem dX0_cutOff_5 : decode cX0_cutOff 5 = .ok (.getfield 17, 3) := by decide +kernel
theorem dX0_cutOff_8 : decode cX0_cutOff 8 = .ok (.ldiv, 1) := by decide +kernel
theorem dX0_cutOff_9 : decode cX0_cutOff 9 = .ok (.lreturn, 1) := by decide +kernel
theorem dX0_isLess_0 : decode cX0_isLess 0 = .ok (.aload_n 0, 1) := by decide +kernel
theorem dX0_isLess_1 : decode cX0_isLess 1 = .ok (.getfield 13, 3) := by decide +kernel
theorem dX0_isLess_4 : decode cX0_isLess 4 = .ok (.aload_n 1, 1) := by decide +kernel
theorem dX0_isLess_5 : decode cX0_isLess 5 = .ok (.getfield 17, 3) := by decide +kernel
theorem dX0_isLess_8 : decode cX0_isLess 8 = .ok (.lmul, 1) := by decide +kernel
theorem dX0_isLess_9 : decode cX0_isLess 9 = .ok (.aload_n 1, 1) := by decide +kernel
theorem dX0_isLess_10 : decode cX0_isLess 10 = .ok (.getfield 13, 3) := by decide +kernel
theorem dX0_isLess_13 : decode cX0_isLess 13 = .ok (.aload_n 0, 1) := by decide +kernel
theorem dX0_isLess_14 : decode cX0_isLess 14 = .ok (.getfield 17, 3) := by decide +kernel
theorem dX0_isLess_17 : decode cX0_isLess 17 = .ok (.lmul, 1) := by decide +kernel
theorem dX0_isLess_18 : decode cX0_isLess 18 = .ok (.lcmp, 1) := by decide +kernel
theorem dX0_isLess_19 : decode cX0_isLess 19 = .ok (.ifCond .ge 7, 3) := by decide +kernel
theorem dX0_isLess_22 : decode cX0_isLess 22 = .ok (.iconst 1, 1) := by decide +kernel
theorem dX0_isLess_23 : decode cX0_isLess 23 = .ok (.goto 4, 3) := by decide +kernel
theorem dX0_isLess_26 : decode cX0_isLess 26 = .ok (.iconst 0, 1) := by decide +kernel
theorem dX0_isLess_27 : decode cX0_isLess 27 = .ok (.ireturn, 1) := by decide +kernel
theorem dX0_isSame_0 : decode cX0_isSame 0 = .ok (.aload_n 0, 1) := by decide +kernel
theorem dX0_isSame_1 : decode cX0_isSame 1 = .ok (.getfield 13, 3) := by decide +kernel
theorem dX0_isSame_4 : decode cX0_isSame 4 = .ok (.aload_n 1, 1) := by decide +kernel
theorem dX0_isSame_5 : decode cX0_isSame 5 = .ok (.getfield 13, 3) := by decide +kernel
theorem dX0_isSame_8 : decode cX0_isSame 8 = .ok (.lcmp, 1) := by decide +kernel
theorem dX0_isSame_9 : decode cX0_isSame 9 = .ok (.ifCond .ne 19, 3) := by decide +kernel
theorem dX0_isSame_12 : decode cX0_isSame 12 = .ok (.aload_n 0, 1) := by decide +kernel
theorem dX0_isSame_13 : decode cX0_isSame 13 = .ok (.getfield 17, 3) := by decide +kernel
theorem dX0_isSame_16 : decode cX0_isSame 16 = .ok (.aload_n 1, 1) := by decide +kernel
theorem dX0_isSame_17 : decode cX0_isSame 17 = .ok (.getfield 17, 3) := by decide +kernel
theorem dX0_isSame_20 : decode cX0_isSame 20 = .ok (.lcmp, 1) := by decide +kernel
theorem dX0_isSame_21 : decode cX0_isSame 21 = .ok (.ifCond .ne 7, 3) := by decide +kernel
theorem dX0_isSame_24 : decode cX0_isSame 24 = .ok (.iconst 1, 1) := by decide +kernel
theorem dX0_isSame_25 : decode cX0_isSame 25 = .ok (.goto 4, 3) := by decide +kernel
theorem dX0_isSame_28 : decode cX0_isSame 28 = .ok (.iconst 0, 1) := by decide +kernel
theorem dX0_isSame_29 : decode cX0_isSame 29 = .ok (.ireturn, 1) := by decide +kernel
theorem dX0_plus_0 : decode cX0_plus 0 = .ok (.new 8, 3) := by decide +kernel
theorem dX0_plus_3 : decode cX0_plus 3 = .ok (.dup, 1) := by decide +kernel
theorem dX0_plus_4 : decode cX0_plus 4 = .ok (.aload_n 0, 1) := by decide +kernel
theorem dX0_plus_5 : decode cX0_plus 5 = .ok (.getfield 13, 3) := by decide +kernel
theorem dX0_plus_8 : decode cX0_plus 8 = .ok (.aload_n 1, 1) := by decide +kernel
theorem dX0_plus_9 : decode cX0_plus 9 = .ok (.getfield 17, 3) := by decide +kernel
theorem dX0_plus_12 : decode cX0_plus 12 = .ok (.lmul, 1) := by decide +kernel
theorem dX0_plus_13 : decode cX0_plus 13 = .ok (.aload_n 1, 1) := by decide +kernel
theorem dX0_plus_14 : decode cX0_plus 14 = .ok (.getfield 13, 3) := by decide +kernel
theorem dX0_plus_17 : decode cX0_plus 17 = .ok (.aload_n 0, 1) := by decide +kernel
theorem dX0_plus_18 : decode cX0_plus 18 = .ok (.getfield 17, 3) := by decide +kernel
theorem dX0_plus_21 : decode cX0_plus 21 = .ok (.lmul, 1) := by decide +kernel
theorem dX0_plus_22 : decode cX0_plus 22 = .ok (.ladd, 1) := by decide +kernel
theorem dX0_plus_23 : decode cX0_plus 23 = .ok (.aload_n 0, 1) := by decide +kernel
theorem dX0_plus_24 : decode cX0_plus 24 = .ok (.getfield 17, 3) := by decide +kernel
theorem dX0_plus_27 : decode cX0_plus 27 = .ok (.aload_n 1, 1) := by decide +kernel
theorem dX0_plus_28 : decode cX0_plus 28 = .ok (.getfield 17, 3) := by decide +kernel
theorem dX0_plus_31 : decode cX0_plus 31 = .ok (.lmul, 1) := by decide +kernel
theorem dX0_plus_32 : decode cX0_plus 32 = .ok (.invokespecial 20, 3) := by decide +kernel
theorem dX0_plus_35 : decode cX0_plus 35 = .ok (.areturn, 1) := by decide +kernel
theorem dX0_takenFrom_0 : decode cX0_takenFrom 0 = .ok (.new 8, 3) := by decide +kernel
theorem dX0_takenFrom_3 : decode cX0_takenFrom 3 = .ok (.dup, 1) := by decide +kernel
theorem dX0_takenFrom_4 : decode cX0_takenFrom 4 = .ok (.lload_n 1, 1) := by decide +kernel
theorem dX0_takenFrom_5 : decode cX0_takenFrom 5 = .ok (.aload_n 0, 1) := by decide +kernel
theorem dX0_takenFrom_6 : decode cX0_takenFrom 6 = .ok (.getfield 17, 3) := by decide +kernel
theorem dX0_takenFrom_9 : decode cX0_takenFrom 9 = .ok (.lmul, 1) := by decide +kernel
theorem dX0_takenFrom_10 : decode cX0_takenFrom 10 = .ok (.aload_n 0, 1) := by decide +kernel
theorem dX0_takenFrom_11 : decode cX0_takenFrom 11 = .ok (.getfield 13, 3) := by decide +kernel
theorem dX0_takenFrom_14 : decode cX0_takenFrom 14 = .ok (.lsub, 1) := by decide +kernel
theorem dX0_takenFrom_15 : decode cX0_takenFrom 15 = .ok (.aload_n 0, 1) := by decide +kernel
theorem dX0_takenFrom_16 : decode cX0_takenFrom 16 = .ok (.getfield 17, 3) := by decide +kernel
theorem dX0_takenFrom_19 : decode cX0_takenFrom 19 = .ok (.invokespecial 20, 3) := by decide +kernel
theorem dX0_takenFrom_22 : decode cX0_takenFrom 22 = .ok (.areturn, 1) := by decide +kernel
theorem dX0_times_0 : decode cX0_times 0 = .ok (.new 8, 3) := by decide +kernel
theorem dX0_times_3 : decode cX0_times 3 = .ok (.dup, 1) := by decide +kernel
theorem dX0_times_4 : decode cX0_times 4 = .ok (.aload_n 0, 1) := by decide +kernel
theorem dX0_times_5 : decode cX0_times 5 = .ok (.getfield 13, 3) := by decide +kernel
theorem dX0_times_8 : decode cX0_times 8 = .ok (.aload_n 1, 1) := by decide +kernel
theorem dX0_times_9 : decode cX0_times 9 = .ok (.getfield 13, 3) := by decide +kernel
theorem dX0_times_12 : decode cX0_times 12 = .ok (.lmul, 1) := by decide +kernel
theorem dX0_times_13 : decode cX0_times 13 = .ok (.aload_n 0, 1) := by decide +kernel
theorem dX0_times_14 : decode cX0_times 14 = .ok (.getfield 17, 3) := by decide +kernel
theorem dX0_times_17 : decode cX0_times 17 = .ok (.aload_n 1, 1) := by decide +kernel
theorem dX0_times_18 : decode cX0_times 18 = .ok (.getfield 17, 3) := by decide +kernel
theorem dX0_times_21 : decode cX0_times 21 = .ok (.lmul, 1) := by decide +kernel
theorem dX0_times_22 : decode cX0_times 22 = .ok (.invokespecial 20, 3) := by decide +kernel
theorem dX0_times_25 : decode cX0_times 25 = .ok (.areturn, 1) := by decide +kernel
theorem dX0_times__0 : decode cX0_times_ 0 = .ok (.new 8, 3) := by decide +kernel
theorem dX0_times__3 : decode cX0_times_ 3 = .ok (.dup, 1) := by decide +kernel
theorem dX0_times__4 : decode cX0_times_ 4 = .ok (.aload_n 0, 1) := by decide +kernel
theorem dX0_times__5 : decode cX0_times_ 5 = .ok (.getfield 13, 3) := by decide +kernel
theorem dX0_times__8 : decode cX0_times_ 8 = .ok (.lload_n 1, 1) := by decide +kernel
theorem dX0_times__9 : decode cX0_times_ 9 = .ok (.lmul, 1) := by decide +kernel
theorem dX0_times__10 : decode cX0_times_ 10 = .ok (.aload_n 0, 1) := by decide +kernel
theorem dX0_times__11 : decode cX0_times_ 11 = .ok (.getfield 17, 3) := by decide +kernel
theorem dX0_times__14 : decode cX0_times_ 14 = .ok (.invokespecial 20, 3) := by decide +kernel
theorem dX0_times__17 : decode cX0_times_ 17 = .ok (.areturn, 1) := by decide +kernel
theorem dX0_inverse_0 : decode cX0_inverse 0 = .ok (.new 8, 3) := by decide +kernel
theorem dX0_inverse_3 : decode cX0_inverse 3 = .ok (.dup, 1) := by decide +kernel
theorem dX0_inverse_4 : decode cX0_inverse 4 = .ok (.aload_n 0, 1) := by decide +kernel
theorem dX0_inverse_5 : decode cX0_inverse 5 = .ok (.getfield 17, 3) := by decide +kernel
theorem dX0_inverse_8 : decode cX0_inverse 8 = .ok (.aload_n 0, 1) := by decide +kernel
theorem dX0_inverse_9 : decode cX0_inverse 9 = .ok (.getfield 13, 3) := by decide +kernel
theorem dX0_inverse_12 : decode cX0_inverse 12 = .ok (.invokespecial 20, 3) := by decide +kernel
theorem dX0_inverse_15 : decode cX0_inverse 15 = .ok (.areturn, 1) := by decide +kernel
theorem dX0_dividedBy_0 : decode cX0_dividedBy 0 = .ok (.new 8, 3) := by decide +kernel
theorem dX0_dividedBy_3 : decode cX0_dividedBy 3 = .ok (.dup, 1) := by decide +kernel
theorem dX0_dividedBy_4 : decode cX0_dividedBy 4 = .ok (.aload_n 0, 1) := by decide +kernel
theorem dX0_dividedBy_5 : decode cX0_dividedBy 5 = .ok (.getfield 13, 3) := by decide +kernel
theorem dX0_dividedBy_8 : decode cX0_dividedBy 8 = .ok (.aload_n 1, 1) := by decide +kernel
theorem dX0_dividedBy_9 : decode cX0_dividedBy 9 = .ok (.getfield 17, 3) := by decide +kernel
theorem dX0_dividedBy_12 : decode cX0_dividedBy 12 = .ok (.lmul, 1) := by decide +kernel
theorem dX0_dividedBy_13 : decode cX0_dividedBy 13 = .ok (.aload_n 0, 1) := by decide +kernel
theorem dX0_dividedBy_14 : decode cX0_dividedBy 14 = .ok (.getfield 17, 3) := by decide +kernel
theorem dX0_dividedBy_17 : decode cX0_dividedBy 17 = .ok (.aload_n 1, 1) := by decide +kernel
theorem dX0_dividedBy_18 : decode cX0_dividedBy 18 = .ok (.getfield 13, 3) := by decide +kernel
theorem dX0_dividedBy_21 : decode cX0_dividedBy 21 = .ok (.lmul, 1) := by decide +kernel
theorem dX0_dividedBy_22 : decode cX0_dividedBy 22 = .ok (.invokespecial 20, 3) := by decide +kernel
theorem dX0_dividedBy_25 : decode cX0_dividedBy 25 = .ok (.areturn, 1) := by decide +kernel
