theorem dX2_init_0 : decode cX2_init 0 = .ok (.aload_n 0, 1) := by decide +kernel
theorem dX2_init_1 : decode cX2_init 1 = .ok (.invokespecial 1, 3) := by decide +kernel
theorem dX2_init_4 : decode cX2_init 4 = .ok (.aload_n 0, 1) := by decide +kernel
theorem dX2_init_5 : decode cX2_init 5 = .ok (.ldc2_w 7, 3) := by decide +kernel
theorem dX2_init_8 : decode cX2_init 8 = .ok (.putfield 9, 3) := by decide +kernel
theorem dX2_init_11 : decode cX2_init 11 = .ok (.aload_n 0, 1) := by decide +kernel
theorem dX2_init_12 : decode cX2_init 12 = .ok (.ldc2_w 15, 3) := by decide +kernel
theorem dX2_init_15 : decode cX2_init 15 = .ok (.putfield 17, 3) := by decide +kernel
theorem dX2_init_18 : decode cX2_init 18 = .ok (.aload_n 0, 1) := by decide +kernel
theorem dX2_init_19 : decode cX2_init 19 = .ok (.iconst 4, 1) := by decide +kernel
theorem dX2_init_20 : decode cX2_init 20 = .ok (.newarray .long, 2) := by decide +kernel
theorem dX2_init_22 : decode cX2_init 22 = .ok (.putfield 20, 3) := by decide +kernel
theorem dX2_init_25 : decode cX2_init 25 = .ok (.aload_n 0, 1) := by decide +kernel
theorem dX2_init_26 : decode cX2_init 26 = .ok (.iconst 4, 1) := by decide +kernel
theorem dX2_init_27 : decode cX2_init 27 = .ok (.newarray .long, 2) := by decide +kernel
theorem dX2_init_29 : decode cX2_init 29 = .ok (.putfield 24, 3) := by decide +kernel
theorem dX2_init_32 : decode cX2_init 32 = .ok (.aload_n 0, 1) := by decide +kernel
theorem dX2_init_33 : decode cX2_init 33 = .ok (.iconst 4, 1) := by decide +kernel
theorem dX2_init_34 : decode cX2_init 34 = .ok (.newarray .boolean, 2) := by decide +kernel
theorem dX2_init_36 : decode cX2_init 36 = .ok (.putfield 27, 3) := by decide +kernel
theorem dX2_init_39 : decode cX2_init 39 = .ok (.iconst 0, 1) := by decide +kernel
theorem dX2_init_40 : decode cX2_init 40 = .ok (.istore_n 1, 1) := by decide +kernel
theorem dX2_init_41 : decode cX2_init 41 = .ok (.iload_n 1, 1) := by decide +kernel
theorem dX2_init_42 : decode cX2_init 42 = .ok (.iconst 4, 1) := by decide +kernel
theorem dX2_init_43 : decode cX2_init 43 = .ok (.if_icmp .ge 23, 3) := by decide +kernel
theorem dX2_init_46 : decode cX2_init 46 = .ok (.aload_n 0, 1) := by decide +kernel
theorem dX2_init_47 : decode cX2_init 47 = .ok (.getfield 20, 3) := by decide +kernel
theorem dX2_init_50 : decode cX2_init 50 = .ok (.iload_n 1, 1) := by decide +kernel
theorem dX2_init_51 : decode cX2_init 51 = .ok (.lconst 1, 1) := by decide +kernel
theorem dX2_init_52 : decode cX2_init 52 = .ok (.lastore, 1) := by decide +kernel
theorem dX2_init_53 : decode cX2_init 53 = .ok (.aload_n 0, 1) := by decide +kernel
theorem dX2_init_54 : decode cX2_init 54 = .ok (.getfield 24, 3) := by decide +kernel
theorem dX2_init_57 : decode cX2_init 57 = .ok (.iload_n 1, 1) := by decide +kernel
theorem dX2_init_58 : decode cX2_init 58 = .ok (.lconst 1, 1) := by decide +kernel
theorem dX2_init_59 : decode cX2_init 59 = .ok (.lastore, 1) := by decide +kernel
theorem dX2_init_60 : decode cX2_init 60 = .ok (.iinc 1 1, 3) := by decide +kernel
theorem dX2_init_63 : decode cX2_init 63 = .ok (.goto (-22), 3) := by decide +kernel
theorem dX2_init_66 : decode cX2_init 66 = .ok (.return_, 1) := by decide +kernel
theorem dX2_thrown_0 : decode cX2_thrown 0 = .ok (.aload_n 0, 1) := by decide +kernel
theorem dX2_thrown_1 : decode cX2_thrown 1 = .ok (.getfield 31, 3) := by decide +kernel
theorem dX2_thrown_4 : decode cX2_thrown 4 = .ok (.ireturn, 1) := by decide +kernel
theorem dX2_isIn_0 : decode cX2_isIn 0 = .ok (.lload_n 0, 1) := by decide +kernel
theorem dX2_isIn_1 : decode cX2_isIn 1 = .ok (.lload_n 2, 1) := by decide +kernel
theorem dX2_isIn_2 : decode cX2_isIn 2 = .ok (.lcmp, 1) := by decide +kernel
theorem dX2_isIn_3 : decode cX2_isIn 3 = .ok (.ifCond .lt 14, 3) := by decide +kernel
theorem dX2_isIn_6 : decode cX2_isIn 6 = .ok (.lload_n 0, 1) := by decide +kernel
theorem dX2_isIn_7 : decode cX2_isIn 7 = .ok (.lload 4, 2) := by decide +kernel
theorem dX2_isIn_9 : decode cX2_isIn 9 = .ok (.lcmp, 1) := by decide +kernel
theorem dX2_isIn_10 : decode cX2_isIn 10 = .ok (.ifCond .gt 7, 3) := by decide +kernel
theorem dX2_isIn_13 : decode cX2_isIn 13 = .ok (.iconst 1, 1) := by decide +kernel
theorem dX2_isIn_14 : decode cX2_isIn 14 = .ok (.goto 4, 3) := by decide +kernel
theorem dX2_isIn_17 : decode cX2_isIn 17 = .ok (.iconst 0, 1) := by decide +kernel
theorem dX2_isIn_18 : decode cX2_isIn 18 = .ok (.ireturn, 1) := by decide +kernel
theorem dX2_put_0 : decode cX2_put 0 = .ok (.lload_n 1, 1) := by decide +kernel
theorem dX2_put_1 : decode cX2_put 1 = .ok (.lstore 5, 2) := by decide +kernel
theorem dX2_put_3 : decode cX2_put 3 = .ok (.lload_n 3, 1) := by decide +kernel
theorem dX2_put_4 : decode cX2_put 4 = .ok (.lstore 7, 2) := by decide +kernel
theorem dX2_put_6 : decode cX2_put 6 = .ok (.lload 7, 2) := by decide +kernel
theorem dX2_put_8 : decode cX2_put 8 = .ok (.lconst 0, 1) := by decide +kernel
theorem dX2_put_9 : decode cX2_put 9 = .ok (.lcmp, 1) := by decide +kernel
theorem dX2_put_10 : decode cX2_put 10 = .ok (.ifCond .eq 21, 3) := by decide +kernel
theorem dX2_put_13 : decode cX2_put 13 = .ok (.lload 5, 2) := by decide +kernel
theorem dX2_put_15 : decode cX2_put 15 = .ok (.lload 7, 2) := by decide +kernel
theorem dX2_put_17 : decode cX2_put 17 = .ok (.lrem, 1) := by decide +kernel
theorem dX2_put_18 : decode cX2_put 18 = .ok (.lstore 9, 2) := by decide +kernel
theorem dX2_put_20 : decode cX2_put 20 = .ok (.lload 7, 2) := by decide +kernel
theorem dX2_put_22 : decode cX2_put 22 = .ok (.lstore 5, 2) := by decide +kernel
theorem dX2_put_24 : decode cX2_put 24 = .ok (.lload 9, 2) := by decide +kernel
theorem dX2_put_26 : decode cX2_put 26 = .ok (.lstore 7, 2) := by decide +kernel
theorem dX2_put_28 : decode cX2_put 28 = .ok (.goto (-22), 3) := by decide +kernel
theorem dX2_put_31 : decode cX2_put 31 = .ok (.aload_n 0, 1) := by decide +kernel
theorem dX2_put_32 : decode cX2_put 32 = .ok (.lload_n 1, 1) := by decide +kernel
theorem dX2_put_33 : decode cX2_put 33 = .ok (.lload 5, 2) := by decide +kernel
theorem dX2_put_35 : decode cX2_put 35 = .ok (.ldiv, 1) := by decide +kernel
theorem dX2_put_36 : decode cX2_put 36 = .ok (.putfield 35, 3) := by decide +kernel
theorem dX2_put_39 : decode cX2_put 39 = .ok (.aload_n 0, 1) := by decide +kernel
theorem dX2_put_40 : decode cX2_put 40 = .ok (.lload_n 3, 1) := by decide +kernel
theorem dX2_put_41 : decode cX2_put 41 = .ok (.lload 5, 2) := by decide +kernel
theorem dX2_put_43 : decode cX2_put 43 = .ok (.ldiv, 1) := by decide +kernel
theorem dX2_put_44 : decode cX2_put 44 = .ok (.putfield 38, 3) := by decide +kernel
theorem dX2_put_47 : decode cX2_put 47 = .ok (.return_, 1) := by decide +kernel
theorem dX2_told_0 : decode cX2_told 0 = .ok (.iload_n 1, 1) := by decide +kernel
theorem dX2_told_1 : decode cX2_told 1 = .ok (.ifCond .ne 10, 3) := by decide +kernel
theorem dX2_told_4 : decode cX2_told 4 = .ok (.aload_n 0, 1) := by decide +kernel
theorem dX2_told_5 : decode cX2_told 5 = .ok (.getfield 35, 3) := by decide +kernel
theorem dX2_told_8 : decode cX2_told 8 = .ok (.goto 7, 3) := by decide +kernel
theorem dX2_told_11 : decode cX2_told 11 = .ok (.aload_n 0, 1) := by decide +kernel
theorem dX2_told_12 : decode cX2_told 12 = .ok (.getfield 38, 3) := by decide +kernel
theorem dX2_told_15 : decode cX2_told 15 = .ok (.lreturn, 1) := by decide +kernel
theorem dX2_lesser_0 : decode cX2_lesser 0 = .ok (.lload_n 1, 1) := by decide +kernel
theorem dX2_lesser_1 : decode cX2_lesser 1 = .ok (.aload_n 0, 1) := by decide +kernel
theorem dX2_lesser_2 : decode cX2_lesser 2 = .ok (.getfield 38, 3) := by decide +kernel
theorem dX2_lesser_5 : decode cX2_lesser 5 = .ok (.lmul, 1) := by decide +kernel
theorem dX2_lesser_6 : decode cX2_lesser 6 = .ok (.aload_n 0, 1) := by decide +kernel
theorem dX2_lesser_7 : decode cX2_lesser 7 = .ok (.getfield 35, 3) := by decide +kernel
theorem dX2_lesser_10 : decode cX2_lesser 10 = .ok (.lload_n 3, 1) := by decide +kernel
theorem dX2_lesser_11 : decode cX2_lesser 11 = .ok (.lmul, 1) := by decide +kernel
theorem dX2_lesser_12 : decode cX2_lesser 12 = .ok (.lcmp, 1) := by decide +kernel
theorem dX2_lesser_13 : decode cX2_lesser 13 = .ok (.ifCond .ge 9, 3) := by decide +kernel
theorem dX2_lesser_16 : decode cX2_lesser 16 = .ok (.aload_n 0, 1) := by decide +kernel
theorem dX2_lesser_17 : decode cX2_lesser 17 = .ok (.lload_n 1, 1) := by decide +kernel
theorem dX2_lesser_18 : decode cX2_lesser 18 = .ok (.lload_n 3, 1) := by decide +kernel
theorem dX2_lesser_19 : decode cX2_lesser 19 = .ok (.invokevirtual 41, 3) := by decide +kernel
theorem dX2_lesser_22 : decode cX2_lesser 22 = .ok (.return_, 1) := by decide +kernel
theorem dX2_outline_0 : decode cX2_outline 0 = .ok (.aload_n 0, 1) := by decide +kernel
theorem dX2_outline_1 : decode cX2_outline 1 = .ok (.lload_n 1, 1) := by decide +kernel
theorem dX2_outline_2 : decode cX2_outline 2 = .ok (.lconst 1, 1) := by decide +kernel
theorem dX2_outline_3 : decode cX2_outline 3 = .ok (.ldc2_w 45, 3) := by decide +kernel
theorem dX2_outline_6 : decode cX2_outline 6 = .ok (.invokestatic 47, 3) := by decide +kernel
theorem dX2_outline_9 : decode cX2_outline 9 = .ok (.ifCond .eq 18, 3) := by decide +kernel
theorem dX2_outline_12 : decode cX2_outline 12 = .ok (.lload_n 3, 1) := by decide +kernel
theorem dX2_outline_13 : decode cX2_outline 13 = .ok (.lconst 1, 1) := by decide +kernel
theorem dX2_outline_14 : decode cX2_outline 14 = .ok (.ldc2_w 45, 3) := by decide +kernel
theorem dX2_outline_17 : decode cX2_outline 17 = .ok (.invokestatic 47, 3) := by decide +kernel
theorem dX2_outline_20 : decode cX2_outline 20 = .ok (.ifCond .eq 7, 3) := by decide +kernel
theorem dX2_outline_23 : decode cX2_outline 23 = .ok (.iconst 0, 1) := by decide +kernel
theorem dX2_outline_24 : decode cX2_outline 24 = .ok (.goto 4, 3) := by decide +kernel
theorem dX2_outline_27 : decode cX2_outline 27 = .ok (.iconst 1, 1) := by decide +kernel
theorem dX2_outline_28 : decode cX2_outline 28 = .ok (.putfield 31, 3) := by decide +kernel
theorem dX2_outline_31 : decode cX2_outline 31 = .ok (.aload_n 0, 1) := by decide +kernel
theorem dX2_outline_32 : decode cX2_outline 32 = .ok (.getfield 31, 3) := by decide +kernel
theorem dX2_outline_35 : decode cX2_outline 35 = .ok (.ifCond .gt 21, 3) := by decide +kernel
theorem dX2_outline_38 : decode cX2_outline 38 = .ok (.lload_n 1, 1) := by decide +kernel
theorem dX2_outline_39 : decode cX2_outline 39 = .ok (.aload_n 0, 1) := by decide +kernel
theorem dX2_outline_40 : decode cX2_outline 40 = .ok (.getfield 9, 3) := by decide +kernel
theorem dX2_outline_43 : decode cX2_outline 43 = .ok (.lcmp, 1) := by decide +kernel
theorem dX2_outline_44 : decode cX2_outline 44 = .ok (.ifCond .ne 14, 3) := by decide +kernel
theorem dX2_outline_47 : decode cX2_outline 47 = .ok (.lload_n 3, 1) := by decide +kernel
theorem dX2_outline_48 : decode cX2_outline 48 = .ok (.aload_n 0, 1) := by decide +kernel
theorem dX2_outline_49 : decode cX2_outline 49 = .ok (.getfield 17, 3) := by decide +kernel
theorem dX2_outline_52 : decode cX2_outline 52 = .ok (.lcmp, 1) := by decide +kernel
theorem dX2_outline_53 : decode cX2_outline 53 = .ok (.ifCond .ne 5, 3) := by decide +kernel
theorem dX2_outline_56 : decode cX2_outline 56 = .ok (.iconst 0, 1) := by decide +kernel
theorem dX2_outline_57 : decode cX2_outline 57 = .ok (.ireturn, 1) := by decide +kernel
theorem dX2_outline_58 : decode cX2_outline 58 = .ok (.aload_n 0, 1) := by decide +kernel
theorem dX2_outline_59 : decode cX2_outline 59 = .ok (.lload_n 1, 1) := by decide +kernel
theorem dX2_outline_60 : decode cX2_outline 60 = .ok (.putfield 9, 3) := by decide +kernel
theorem dX2_outline_63 : decode cX2_outline 63 = .ok (.aload_n 0, 1) := by decide +kernel
theorem dX2_outline_64 : decode cX2_outline 64 = .ok (.lload_n 3, 1) := by decide +kernel
theorem dX2_outline_65 : decode cX2_outline 65 = .ok (.putfield 17, 3) := by decide +kernel
theorem dX2_outline_68 : decode cX2_outline 68 = .ok (.iconst 1, 1) := by decide +kernel
theorem dX2_outline_69 : decode cX2_outline 69 = .ok (.ireturn, 1) := by decide +kernel
theorem dX2_slope_0 : decode cX2_slope 0 = .ok (.aload_n 0, 1) := by decide +kernel
theorem dX2_slope_1 : decode cX2_slope 1 = .ok (.iload_n 1, 1) := by decide +kernel
theorem dX2_slope_2 : decode cX2_slope 2 = .ok (.ifCond .lt 8, 3) := by decide +kernel
theorem dX2_slope_5 : decode cX2_slope 5 = .ok (.iload_n 1, 1) := by decide +kernel
theorem dX2_slope_6 : decode cX2_slope 6 = .ok (.iconst 3, 1) := by decide +kernel
theorem dX2_slope_7 : decode cX2_slope 7 = .ok (.if_icmp .le 7, 3) := by decide +kernel
theorem dX2_slope_10 : decode cX2_slope 10 = .ok (.iconst 1, 1) := by decide +kernel
theorem dX2_slope_11 : decode cX2_slope 11 = .ok (.goto 31, 3) := by decide +kernel
theorem dX2_slope_14 : decode cX2_slope 14 = .ok (.lload_n 2, 1) := by decide +kernel
theorem dX2_slope_15 : decode cX2_slope 15 = .ok (.lconst 1, 1) := by decide +kernel
theorem dX2_slope_16 : decode cX2_slope 16 = .ok (.ldc2_w 51, 3) := by decide +kernel
theorem dX2_slope_19 : decode cX2_slope 19 = .ok (.invokestatic 47, 3) := by decide +kernel
theorem dX2_slope_22 : decode cX2_slope 22 = .ok (.ifCond .eq 19, 3) := by decide +kernel
theorem dX2_slope_25 : decode cX2_slope 25 = .ok (.lload 4, 2) := by decide +kernel
theorem dX2_slope_27 : decode cX2_slope 27 = .ok (.lconst 1, 1) := by decide +kernel
theorem dX2_slope_28 : decode cX2_slope 28 = .ok (.ldc2_w 51, 3) := by decide +kernel
theorem dX2_slope_31 : decode cX2_slope 31 = .ok (.invokestatic 47, 3) := by decide +kernel
theorem dX2_slope_34 : decode cX2_slope 34 = .ok (.ifCond .eq 7, 3) := by decide +kernel
theorem dX2_slope_37 : decode cX2_slope 37 = .ok (.iconst 0, 1) := by decide +kernel
theorem dX2_slope_38 : decode cX2_slope 38 = .ok (.goto 4, 3) := by decide +kernel
theorem dX2_slope_41 : decode cX2_slope 41 = .ok (.iconst 2, 1) := by decide +kernel
theorem dX2_slope_42 : decode cX2_slope 42 = .ok (.putfield 31, 3) := by decide +kernel
theorem dX2_slope_45 : decode cX2_slope 45 = .ok (.aload_n 0, 1) := by decide +kernel
theorem dX2_slope_46 : decode cX2_slope 46 = .ok (.getfield 31, 3) := by decide +kernel
theorem dX2_slope_49 : decode cX2_slope 49 = .ok (.ifCond .le 5, 3) := by decide +kernel
theorem dX2_slope_52 : decode cX2_slope 52 = .ok (.iconst 0, 1) := by decide +kernel
theorem dX2_slope_53 : decode cX2_slope 53 = .ok (.ireturn, 1) := by decide +kernel
theorem dX2_slope_54 : decode cX2_slope 54 = .ok (.aload_n 0, 1) := by decide +kernel
theorem dX2_slope_55 : decode cX2_slope 55 = .ok (.getfield 27, 3) := by decide +kernel
theorem dX2_slope_58 : decode cX2_slope 58 = .ok (.iload_n 1, 1) := by decide +kernel
theorem dX2_slope_59 : decode cX2_slope 59 = .ok (.baload, 1) := by decide +kernel
theorem dX2_slope_60 : decode cX2_slope 60 = .ok (.ifCond .ne 24, 3) := by decide +kernel
theorem dX2_slope_63 : decode cX2_slope 63 = .ok (.lload_n 2, 1) := by decide +kernel
theorem dX2_slope_64 : decode cX2_slope 64 = .ok (.aload_n 0, 1) := by decide +kernel
theorem dX2_slope_65 : decode cX2_slope 65 = .ok (.getfield 24, 3) := by decide +kernel
theorem dX2_slope_68 : decode cX2_slope 68 = .ok (.iload_n 1, 1) := by decide +kernel
theorem dX2_slope_69 : decode cX2_slope 69 = .ok (.laload, 1) := by decide +kernel
theorem dX2_slope_70 : decode cX2_slope 70 = .ok (.lmul, 1) := by decide +kernel
theorem dX2_slope_71 : decode cX2_slope 71 = .ok (.lload 4, 2) := by decide +kernel
theorem dX2_slope_73 : decode cX2_slope 73 = .ok (.aload_n 0, 1) := by decide +kernel
theorem dX2_slope_74 : decode cX2_slope 74 = .ok (.getfield 20, 3) := by decide +kernel
theorem dX2_slope_77 : decode cX2_slope 77 = .ok (.iload_n 1, 1) := by decide +kernel
theorem dX2_slope_78 : decode cX2_slope 78 = .ok (.laload, 1) := by decide +kernel
theorem dX2_slope_79 : decode cX2_slope 79 = .ok (.lmul, 1) := by decide +kernel
theorem dX2_slope_80 : decode cX2_slope 80 = .ok (.lcmp, 1) := by decide +kernel
theorem dX2_slope_81 : decode cX2_slope 81 = .ok (.ifCond .eq 7, 3) := by decide +kernel
theorem dX2_slope_84 : decode cX2_slope 84 = .ok (.iconst 1, 1) := by decide +kernel
theorem dX2_slope_85 : decode cX2_slope 85 = .ok (.goto 4, 3) := by decide +kernel
theorem dX2_slope_88 : decode cX2_slope 88 = .ok (.iconst 0, 1) := by decide +kernel
theorem dX2_slope_89 : decode cX2_slope 89 = .ok (.istore 6, 2) := by decide +kernel
theorem dX2_slope_91 : decode cX2_slope 91 = .ok (.aload_n 0, 1) := by decide +kernel
theorem dX2_slope_92 : decode cX2_slope 92 = .ok (.lload_n 2, 1) := by decide +kernel
theorem dX2_slope_93 : decode cX2_slope 93 = .ok (.lload 4, 2) := by decide +kernel
theorem dX2_slope_95 : decode cX2_slope 95 = .ok (.invokevirtual 41, 3) := by decide +kernel
theorem dX2_slope_98 : decode cX2_slope 98 = .ok (.aload_n 0, 1) := by decide +kernel
theorem dX2_slope_99 : decode cX2_slope 99 = .ok (.getfield 20, 3) := by decide +kernel
theorem dX2_slope_102 : decode cX2_slope 102 = .ok (.iload_n 1, 1) := by decide +kernel
theorem dX2_slope_103 : decode cX2_slope 103 = .ok (.aload_n 0, 1) := by decide +kernel
theorem dX2_slope_104 : decode cX2_slope 104 = .ok (.getfield 35, 3) := by decide +kernel
theorem dX2_slope_107 : decode cX2_slope 107 = .ok (.lastore, 1) := by decide +kernel
theorem dX2_slope_108 : decode cX2_slope 108 = .ok (.aload_n 0, 1) := by decide +kernel
theorem dX2_slope_109 : decode cX2_slope 109 = .ok (.getfield 24, 3) := by decide +kernel
theorem dX2_slope_112 : decode cX2_slope 112 = .ok (.iload_n 1, 1) := by decide +kernel
theorem dX2_slope_113 : decode cX2_slope 113 = .ok (.aload_n 0, 1) := by decide +kernel
theorem dX2_slope_114 : decode cX2_slope 114 = .ok (.getfield 38, 3) := by decide +kernel
theorem dX2_slope_117 : decode cX2_slope 117 = .ok (.lastore, 1) := by decide +kernel
theorem dX2_slope_118 : decode cX2_slope 118 = .ok (.aload_n 0, 1) := by decide +kernel
theorem dX2_slope_119 : decode cX2_slope 119 = .ok (.getfield 27, 3) := by decide +kernel
theorem dX2_slope_122 : decode cX2_slope 122 = .ok (.iload_n 1, 1) := by decide +kernel
theorem dX2_slope_123 : decode cX2_slope 123 = .ok (.iconst 0, 1) := by decide +kernel
theorem dX2_slope_124 : decode cX2_slope 124 = .ok (.bastore, 1) := by decide +kernel
theorem dX2_slope_125 : decode cX2_slope 125 = .ok (.iload 6, 2) := by decide +kernel
theorem dX2_slope_127 : decode cX2_slope 127 = .ok (.ireturn, 1) := by decide +kernel
theorem dX2_gable_0 : decode cX2_gable 0 = .ok (.iload_n 1, 1) := by decide +kernel
theorem dX2_gable_1 : decode cX2_gable 1 = .ok (.ifCond .lt 8, 3) := by decide +kernel
theorem dX2_gable_4 : decode cX2_gable 4 = .ok (.iload_n 1, 1) := by decide +kernel
theorem dX2_gable_5 : decode cX2_gable 5 = .ok (.iconst 3, 1) := by decide +kernel
theorem dX2_gable_6 : decode cX2_gable 6 = .ok (.if_icmp .le 10, 3) := by decide +kernel
theorem dX2_gable_9 : decode cX2_gable 9 = .ok (.aload_n 0, 1) := by decide +kernel
theorem dX2_gable_10 : decode cX2_gable 10 = .ok (.iconst 1, 1) := by decide +kernel
theorem dX2_gable_11 : decode cX2_gable 11 = .ok (.putfield 31, 3) := by decide +kernel
theorem dX2_gable_14 : decode cX2_gable 14 = .ok (.iconst 0, 1) := by decide +kernel
theorem dX2_gable_15 : decode cX2_gable 15 = .ok (.ireturn, 1) := by decide +kernel
theorem dX2_gable_16 : decode cX2_gable 16 = .ok (.iconst 0, 1) := by decide +kernel
theorem dX2_gable_17 : decode cX2_gable 17 = .ok (.istore_n 2, 1) := by decide +kernel
theorem dX2_gable_18 : decode cX2_gable 18 = .ok (.iconst 0, 1) := by decide +kernel
theorem dX2_gable_19 : decode cX2_gable 19 = .ok (.istore_n 3, 1) := by decide +kernel
theorem dX2_gable_20 : decode cX2_gable 20 = .ok (.iload_n 3, 1) := by decide +kernel
theorem dX2_gable_21 : decode cX2_gable 21 = .ok (.iconst 4, 1) := by decide +kernel
theorem dX2_gable_22 : decode cX2_gable 22 = .ok (.if_icmp .ge 33, 3) := by decide +kernel
theorem dX2_gable_25 : decode cX2_gable 25 = .ok (.iload_n 2, 1) := by decide +kernel
theorem dX2_gable_26 : decode cX2_gable 26 = .ok (.ifCond .ne 17, 3) := by decide +kernel
theorem dX2_gable_29 : decode cX2_gable 29 = .ok (.iload_n 3, 1) := by decide +kernel
theorem dX2_gable_30 : decode cX2_gable 30 = .ok (.iload_n 1, 1) := by decide +kernel
theorem dX2_gable_31 : decode cX2_gable 31 = .ok (.if_icmp .eq 16, 3) := by decide +kernel
theorem dX2_gable_34 : decode cX2_gable 34 = .ok (.aload_n 0, 1) := by decide +kernel
theorem dX2_gable_35 : decode cX2_gable 35 = .ok (.getfield 27, 3) := by decide +kernel
theorem dX2_gable_38 : decode cX2_gable 38 = .ok (.iload_n 3, 1) := by decide +kernel
theorem dX2_gable_39 : decode cX2_gable 39 = .ok (.baload, 1) := by decide +kernel
theorem dX2_gable_40 : decode cX2_gable 40 = .ok (.ifCond .ne 7, 3) := by decide +kernel
theorem dX2_gable_43 : decode cX2_gable 43 = .ok (.iconst 1, 1) := by decide +kernel
theorem dX2_gable_44 : decode cX2_gable 44 = .ok (.goto 4, 3) := by decide +kernel
theorem dX2_gable_47 : decode cX2_gable 47 = .ok (.iconst 0, 1) := by decide +kernel
theorem dX2_gable_48 : decode cX2_gable 48 = .ok (.istore_n 2, 1) := by decide +kernel
theorem dX2_gable_49 : decode cX2_gable 49 = .ok (.iinc 3 1, 3) := by decide +kernel
theorem dX2_gable_52 : decode cX2_gable 52 = .ok (.goto (-32), 3) := by decide +kernel
theorem dX2_gable_55 : decode cX2_gable 55 = .ok (.aload_n 0, 1) := by decide +kernel
theorem dX2_gable_56 : decode cX2_gable 56 = .ok (.iload_n 2, 1) := by decide +kernel
theorem dX2_gable_57 : decode cX2_gable 57 = .ok (.ifCond .eq 7, 3) := by decide +kernel
theorem dX2_gable_60 : decode cX2_gable 60 = .ok (.iconst 0, 1) := by decide +kernel
theorem dX2_gable_61 : decode cX2_gable 61 = .ok (.goto 4, 3) := by decide +kernel
theorem dX2_gable_64 : decode cX2_gable 64 = .ok (.iconst 2, 1) := by decide +kernel
theorem dX2_gable_65 : decode cX2_gable 65 = .ok (.putfield 31, 3) := by decide +kernel
theorem dX2_gable_68 : decode cX2_gable 68 = .ok (.aload_n 0, 1) := by decide +kernel
theorem dX2_gable_69 : decode cX2_gable 69 = .ok (.getfield 31, 3) := by decide +kernel
theorem dX2_gable_72 : decode cX2_gable 72 = .ok (.ifCond .gt 12, 3) := by decide +kernel
theorem dX2_gable_75 : decode cX2_gable 75 = .ok (.aload_n 0, 1) := by decide +kernel
theorem dX2_gable_76 : decode cX2_gable 76 = .ok (.getfield 27, 3) := by decide +kernel
theorem dX2_gable_79 : decode cX2_gable 79 = .ok (.iload_n 1, 1) := by decide +kernel
theorem dX2_gable_80 : decode cX2_gable 80 = .ok (.baload, 1) := by decide +kernel
theorem dX2_gable_81 : decode cX2_gable 81 = .ok (.ifCond .eq 5, 3) := by decide +kernel
theorem dX2_gable_84 : decode cX2_gable 84 = .ok (.iconst 0, 1) := by decide +kernel
theorem dX2_gable_85 : decode cX2_gable 85 = .ok (.ireturn, 1) := by decide +kernel
theorem dX2_gable_86 : decode cX2_gable 86 = .ok (.aload_n 0, 1) := by decide +kernel
theorem dX2_gable_87 : decode cX2_gable 87 = .ok (.getfield 27, 3) := by decide +kernel
theorem dX2_gable_90 : decode cX2_gable 90 = .ok (.iload_n 1, 1) := by decide +kernel
theorem dX2_gable_91 : decode cX2_gable 91 = .ok (.iconst 1, 1) := by decide +kernel
theorem dX2_gable_92 : decode cX2_gable 92 = .ok (.bastore, 1) := by decide +kernel
theorem dX2_gable_93 : decode cX2_gable 93 = .ok (.iconst 1, 1) := by decide +kernel
theorem dX2_gable_94 : decode cX2_gable 94 = .ok (.ireturn, 1) := by decide +kernel
theorem dX2_depth_0 : decode cX2_depth 0 = .ok (.iload_n 1, 1) := by decide +kernel
theorem dX2_depth_1 : decode cX2_depth 1 = .ok (.iconst 2, 1) := by decide +kernel
theorem dX2_depth_2 : decode cX2_depth 2 = .ok (.irem, 1) := by decide +kernel
theorem dX2_depth_3 : decode cX2_depth 3 = .ok (.ifCond .ne 10, 3) := by decide +kernel
theorem dX2_depth_6 : decode cX2_depth 6 = .ok (.aload_n 0, 1) := by decide +kernel
theorem dX2_depth_7 : decode cX2_depth 7 = .ok (.getfield 17, 3) := by decide +kernel
theorem dX2_depth_10 : decode cX2_depth 10 = .ok (.goto 7, 3) := by decide +kernel
theorem dX2_depth_13 : decode cX2_depth 13 = .ok (.aload_n 0, 1) := by decide +kernel
theorem dX2_depth_14 : decode cX2_depth 14 = .ok (.getfield 9, 3) := by decide +kernel
theorem dX2_depth_17 : decode cX2_depth 17 = .ok (.lreturn, 1) := by decide +kernel
theorem dX2_width_0 : decode cX2_width 0 = .ok (.iload_n 1, 1) := by decide +kernel
theorem dX2_width_1 : decode cX2_width 1 = .ok (.iconst 2, 1) := by decide +kernel
theorem dX2_width_2 : decode cX2_width 2 = .ok (.irem, 1) := by decide +kernel
theorem dX2_width_3 : decode cX2_width 3 = .ok (.ifCond .ne 10, 3) := by decide +kernel
theorem dX2_width_6 : decode cX2_width 6 = .ok (.aload_n 0, 1) := by decide +kernel
theorem dX2_width_7 : decode cX2_width 7 = .ok (.getfield 9, 3) := by decide +kernel
theorem dX2_width_10 : decode cX2_width 10 = .ok (.goto 7, 3) := by decide +kernel
theorem dX2_width_13 : decode cX2_width 13 = .ok (.aload_n 0, 1) := by decide +kernel
theorem dX2_width_14 : decode cX2_width 14 = .ok (.getfield 17, 3) := by decide +kernel
theorem dX2_width_17 : decode cX2_width 17 = .ok (.lreturn, 1) := by decide +kernel
theorem dX2_far_0 : decode cX2_far 0 = .ok (.iload_n 1, 1) := by decide +kernel
theorem dX2_far_1 : decode cX2_far 1 = .ok (.ifCond .ne 8, 3) := by decide +kernel
theorem dX2_far_4 : decode cX2_far 4 = .ok (.lload 4, 2) := by decide +kernel
theorem dX2_far_6 : decode cX2_far 6 = .ok (.goto 33, 3) := by decide +kernel
theorem dX2_far_9 : decode cX2_far 9 = .ok (.iload_n 1, 1) := by decide +kernel
theorem dX2_far_10 : decode cX2_far 10 = .ok (.iconst 1, 1) := by decide +kernel
theorem dX2_far_11 : decode cX2_far 11 = .ok (.if_icmp .ne 12, 3) := by decide +kernel
theorem dX2_far_14 : decode cX2_far 14 = .ok (.aload_n 0, 1) := by decide +kernel
theorem dX2_far_15 : decode cX2_far 15 = .ok (.getfield 9, 3) := by decide +kernel
theorem dX2_far_18 : decode cX2_far 18 = .ok (.lload_n 2, 1) := by decide +kernel
theorem dX2_far_19 : decode cX2_far 19 = .ok (.lsub, 1) := by decide +kernel
theorem dX2_far_20 : decode cX2_far 20 = .ok (.goto 19, 3) := by decide +kernel
theorem dX2_far_23 : decode cX2_far 23 = .ok (.iload_n 1, 1) := by decide +kernel
theorem dX2_far_24 : decode cX2_far 24 = .ok (.iconst 2, 1) := by decide +kernel
theorem dX2_far_25 : decode cX2_far 25 = .ok (.if_icmp .ne 13, 3) := by decide +kernel
theorem dX2_far_28 : decode cX2_far 28 = .ok (.aload_n 0, 1) := by decide +kernel
theorem dX2_far_29 : decode cX2_far 29 = .ok (.getfield 17, 3) := by decide +kernel
theorem dX2_far_32 : decode cX2_far 32 = .ok (.lload 4, 2) := by decide +kernel
theorem dX2_far_34 : decode cX2_far 34 = .ok (.lsub, 1) := by decide +kernel
theorem dX2_far_35 : decode cX2_far 35 = .ok (.goto 4, 3) := by decide +kernel
theorem dX2_far_38 : decode cX2_far 38 = .ok (.lload_n 2, 1) := by decide +kernel
theorem dX2_far_39 : decode cX2_far 39 = .ok (.lreturn, 1) := by decide +kernel
theorem dX2_lowest_0 : decode cX2_lowest 0 = .ok (.iconst (-1), 1) := by decide +kernel
theorem dX2_lowest_1 : decode cX2_lowest 1 = .ok (.istore 5, 2) := by decide +kernel
theorem dX2_lowest_3 : decode cX2_lowest 3 = .ok (.iconst 0, 1) := by decide +kernel
theorem dX2_lowest_4 : decode cX2_lowest 4 = .ok (.istore 6, 2) := by decide +kernel
theorem dX2_lowest_6 : decode cX2_lowest 6 = .ok (.iload 6, 2) := by decide +kernel
theorem dX2_lowest_8 : decode cX2_lowest 8 = .ok (.iconst 4, 1) := by decide +kernel
theorem dX2_lowest_9 : decode cX2_lowest 9 = .ok (.if_icmp .ge 82, 3) := by decide +kernel
theorem dX2_lowest_12 : decode cX2_lowest 12 = .ok (.aload_n 0, 1) := by decide +kernel
theorem dX2_lowest_13 : decode cX2_lowest 13 = .ok (.getfield 27, 3) := by decide +kernel
theorem dX2_lowest_16 : decode cX2_lowest 16 = .ok (.iload 6, 2) := by decide +kernel
theorem dX2_lowest_18 : decode cX2_lowest 18 = .ok (.baload, 1) := by decide +kernel
theorem dX2_lowest_19 : decode cX2_lowest 19 = .ok (.ifCond .ne 66, 3) := by decide +kernel
theorem dX2_lowest_22 : decode cX2_lowest 22 = .ok (.aload_n 0, 1) := by decide +kernel
theorem dX2_lowest_23 : decode cX2_lowest 23 = .ok (.getfield 20, 3) := by decide +kernel
theorem dX2_lowest_26 : decode cX2_lowest 26 = .ok (.iload 6, 2) := by decide +kernel
theorem dX2_lowest_28 : decode cX2_lowest 28 = .ok (.laload, 1) := by decide +kernel
theorem dX2_lowest_29 : decode cX2_lowest 29 = .ok (.aload_n 0, 1) := by decide +kernel
theorem dX2_lowest_30 : decode cX2_lowest 30 = .ok (.iload 6, 2) := by decide +kernel
theorem dX2_lowest_32 : decode cX2_lowest 32 = .ok (.lload_n 1, 1) := by decide +kernel
theorem dX2_lowest_33 : decode cX2_lowest 33 = .ok (.lload_n 3, 1) := by decide +kernel
theorem dX2_lowest_34 : decode cX2_lowest 34 = .ok (.invokevirtual 53, 3) := by decide +kernel
theorem dX2_lowest_37 : decode cX2_lowest 37 = .ok (.lmul, 1) := by decide +kernel
theorem dX2_lowest_38 : decode cX2_lowest 38 = .ok (.lstore 7, 2) := by decide +kernel
theorem dX2_lowest_40 : decode cX2_lowest 40 = .ok (.iload 5, 2) := by decide +kernel
theorem dX2_lowest_42 : decode cX2_lowest 42 = .ok (.ifCond .lt 26, 3) := by decide +kernel
theorem dX2_lowest_45 : decode cX2_lowest 45 = .ok (.lload 7, 2) := by decide +kernel
theorem dX2_lowest_47 : decode cX2_lowest 47 = .ok (.aload_n 0, 1) := by decide +kernel
theorem dX2_lowest_48 : decode cX2_lowest 48 = .ok (.getfield 38, 3) := by decide +kernel
theorem dX2_lowest_51 : decode cX2_lowest 51 = .ok (.lmul, 1) := by decide +kernel
theorem dX2_lowest_52 : decode cX2_lowest 52 = .ok (.aload_n 0, 1) := by decide +kernel
theorem dX2_lowest_53 : decode cX2_lowest 53 = .ok (.getfield 35, 3) := by decide +kernel
theorem dX2_lowest_56 : decode cX2_lowest 56 = .ok (.aload_n 0, 1) := by decide +kernel
theorem dX2_lowest_57 : decode cX2_lowest 57 = .ok (.getfield 24, 3) := by decide +kernel
theorem dX2_lowest_60 : decode cX2_lowest 60 = .ok (.iload 6, 2) := by decide +kernel
theorem dX2_lowest_62 : decode cX2_lowest 62 = .ok (.laload, 1) := by decide +kernel
theorem dX2_lowest_63 : decode cX2_lowest 63 = .ok (.lmul, 1) := by decide +kernel
theorem dX2_lowest_64 : decode cX2_lowest 64 = .ok (.lcmp, 1) := by decide +kernel
theorem dX2_lowest_65 : decode cX2_lowest 65 = .ok (.ifCond .ge 20, 3) := by decide +kernel
theorem dX2_lowest_68 : decode cX2_lowest 68 = .ok (.aload_n 0, 1) := by decide +kernel
theorem dX2_lowest_69 : decode cX2_lowest 69 = .ok (.lload 7, 2) := by decide +kernel
theorem dX2_lowest_71 : decode cX2_lowest 71 = .ok (.aload_n 0, 1) := by decide +kernel
theorem dX2_lowest_72 : decode cX2_lowest 72 = .ok (.getfield 24, 3) := by decide +kernel
theorem dX2_lowest_75 : decode cX2_lowest 75 = .ok (.iload 6, 2) := by decide +kernel
theorem dX2_lowest_77 : decode cX2_lowest 77 = .ok (.laload, 1) := by decide +kernel
theorem dX2_lowest_78 : decode cX2_lowest 78 = .ok (.invokevirtual 41, 3) := by decide +kernel
theorem dX2_lowest_81 : decode cX2_lowest 81 = .ok (.iload 6, 2) := by decide +kernel
theorem dX2_lowest_83 : decode cX2_lowest 83 = .ok (.istore 5, 2) := by decide +kernel
theorem dX2_lowest_85 : decode cX2_lowest 85 = .ok (.iinc 6 1, 3) := by decide +kernel
theorem dX2_lowest_88 : decode cX2_lowest 88 = .ok (.goto (-82), 3) := by decide +kernel
theorem dX2_lowest_91 : decode cX2_lowest 91 = .ok (.iload 5, 2) := by decide +kernel
theorem dX2_lowest_93 : decode cX2_lowest 93 = .ok (.ireturn, 1) := by decide +kernel
theorem dX2_isInside_0 : decode cX2_isInside 0 = .ok (.lload_n 1, 1) := by decide +kernel
theorem dX2_isInside_1 : decode cX2_isInside 1 = .ok (.lconst 0, 1) := by decide +kernel
theorem dX2_isInside_2 : decode cX2_isInside 2 = .ok (.aload_n 0, 1) := by decide +kernel
theorem dX2_isInside_3 : decode cX2_isInside 3 = .ok (.getfield 9, 3) := by decide +kernel
theorem dX2_isInside_6 : decode cX2_isInside 6 = .ok (.invokestatic 47, 3) := by decide +kernel
theorem dX2_isInside_9 : decode cX2_isInside 9 = .ok (.ifCond .eq 19, 3) := by decide +kernel
theorem dX2_isInside_12 : decode cX2_isInside 12 = .ok (.lload_n 3, 1) := by decide +kernel
theorem dX2_isInside_13 : decode cX2_isInside 13 = .ok (.lconst 0, 1) := by decide +kernel
theorem dX2_isInside_14 : decode cX2_isInside 14 = .ok (.aload_n 0, 1) := by decide +kernel
theorem dX2_isInside_15 : decode cX2_isInside 15 = .ok (.getfield 17, 3) := by decide +kernel
theorem dX2_isInside_18 : decode cX2_isInside 18 = .ok (.invokestatic 47, 3) := by decide +kernel
theorem dX2_isInside_21 : decode cX2_isInside 21 = .ok (.ifCond .eq 7, 3) := by decide +kernel
theorem dX2_isInside_24 : decode cX2_isInside 24 = .ok (.iconst 1, 1) := by decide +kernel
theorem dX2_isInside_25 : decode cX2_isInside 25 = .ok (.goto 4, 3) := by decide +kernel
theorem dX2_isInside_28 : decode cX2_isInside 28 = .ok (.iconst 0, 1) := by decide +kernel
theorem dX2_isInside_29 : decode cX2_isInside 29 = .ok (.ireturn, 1) := by decide +kernel
theorem dX2_place_0 : decode cX2_place 0 = .ok (.aload_n 0, 1) := by decide +kernel
theorem dX2_place_1 : decode cX2_place 1 = .ok (.iload 5, 2) := by decide +kernel
theorem dX2_place_3 : decode cX2_place 3 = .ok (.ifCond .lt 9, 3) := by decide +kernel
theorem dX2_place_6 : decode cX2_place 6 = .ok (.iload 5, 2) := by decide +kernel
theorem dX2_place_8 : decode cX2_place 8 = .ok (.iconst 1, 1) := by decide +kernel
theorem dX2_place_9 : decode cX2_place 9 = .ok (.if_icmp .le 7, 3) := by decide +kernel
theorem dX2_place_12 : decode cX2_place 12 = .ok (.iconst 1, 1) := by decide +kernel
theorem dX2_place_13 : decode cX2_place 13 = .ok (.goto 17, 3) := by decide +kernel
theorem dX2_place_16 : decode cX2_place 16 = .ok (.aload_n 0, 1) := by decide +kernel
theorem dX2_place_17 : decode cX2_place 17 = .ok (.lload_n 1, 1) := by decide +kernel
theorem dX2_place_18 : decode cX2_place 18 = .ok (.lload_n 3, 1) := by decide +kernel
theorem dX2_place_19 : decode cX2_place 19 = .ok (.invokevirtual 57, 3) := by decide +kernel
theorem dX2_place_22 : decode cX2_place 22 = .ok (.ifCond .eq 7, 3) := by decide +kernel
theorem dX2_place_25 : decode cX2_place 25 = .ok (.iconst 0, 1) := by decide +kernel
theorem dX2_place_26 : decode cX2_place 26 = .ok (.goto 4, 3) := by decide +kernel
theorem dX2_place_29 : decode cX2_place 29 = .ok (.iconst 2, 1) := by decide +kernel
theorem dX2_place_30 : decode cX2_place 30 = .ok (.putfield 31, 3) := by decide +kernel
theorem dX2_place_33 : decode cX2_place 33 = .ok (.aload_n 0, 1) := by decide +kernel
theorem dX2_place_34 : decode cX2_place 34 = .ok (.getfield 31, 3) := by decide +kernel
theorem dX2_place_37 : decode cX2_place 37 = .ok (.ifCond .le 5, 3) := by decide +kernel
theorem dX2_place_40 : decode cX2_place 40 = .ok (.lconst 0, 1) := by decide +kernel
theorem dX2_place_41 : decode cX2_place 41 = .ok (.lreturn, 1) := by decide +kernel
theorem dX2_place_42 : decode cX2_place 42 = .ok (.aload_n 0, 1) := by decide +kernel
theorem dX2_place_43 : decode cX2_place 43 = .ok (.lload_n 1, 1) := by decide +kernel
theorem dX2_place_44 : decode cX2_place 44 = .ok (.lload_n 3, 1) := by decide +kernel
theorem dX2_place_45 : decode cX2_place 45 = .ok (.invokevirtual 61, 3) := by decide +kernel
theorem dX2_place_48 : decode cX2_place 48 = .ok (.istore 6, 2) := by decide +kernel
theorem dX2_place_50 : decode cX2_place 50 = .ok (.aload_n 0, 1) := by decide +kernel
theorem dX2_place_51 : decode cX2_place 51 = .ok (.iload 5, 2) := by decide +kernel
theorem dX2_place_53 : decode cX2_place 53 = .ok (.invokevirtual 65, 3) := by decide +kernel
theorem dX2_place_56 : decode cX2_place 56 = .ok (.lreturn, 1) := by decide +kernel
theorem dX2_face_0 : decode cX2_face 0 = .ok (.aload_n 0, 1) := by decide +kernel
theorem dX2_face_1 : decode cX2_face 1 = .ok (.aload_n 0, 1) := by decide +kernel
theorem dX2_face_2 : decode cX2_face 2 = .ok (.lload_n 1, 1) := by decide +kernel
theorem dX2_face_3 : decode cX2_face 3 = .ok (.lload_n 3, 1) := by decide +kernel
theorem dX2_face_4 : decode cX2_face 4 = .ok (.invokevirtual 57, 3) := by decide +kernel
theorem dX2_face_7 : decode cX2_face 7 = .ok (.ifCond .eq 7, 3) := by decide +kernel
theorem dX2_face_10 : decode cX2_face 10 = .ok (.iconst 0, 1) := by decide +kernel
theorem dX2_face_11 : decode cX2_face 11 = .ok (.goto 4, 3) := by decide +kernel
theorem dX2_face_14 : decode cX2_face 14 = .ok (.iconst 1, 1) := by decide +kernel
theorem dX2_face_15 : decode cX2_face 15 = .ok (.putfield 31, 3) := by decide +kernel
theorem dX2_face_18 : decode cX2_face 18 = .ok (.aload_n 0, 1) := by decide +kernel
theorem dX2_face_19 : decode cX2_face 19 = .ok (.getfield 31, 3) := by decide +kernel
theorem dX2_face_22 : decode cX2_face 22 = .ok (.ifCond .le 7, 3) := by decide +kernel
theorem dX2_face_25 : decode cX2_face 25 = .ok (.iconst 0, 1) := by decide +kernel
theorem dX2_face_26 : decode cX2_face 26 = .ok (.goto 9, 3) := by decide +kernel
theorem dX2_face_29 : decode cX2_face 29 = .ok (.aload_n 0, 1) := by decide +kernel
theorem dX2_face_30 : decode cX2_face 30 = .ok (.lload_n 1, 1) := by decide +kernel
theorem dX2_face_31 : decode cX2_face 31 = .ok (.lload_n 3, 1) := by decide +kernel
theorem dX2_face_32 : decode cX2_face 32 = .ok (.invokevirtual 61, 3) := by decide +kernel
theorem dX2_face_35 : decode cX2_face 35 = .ok (.ireturn, 1) := by decide +kernel
theorem dX2_sideCode_0 : decode cX2_sideCode 0 = .ok (.iload_n 1, 1) := by decide +kernel
theorem dX2_sideCode_1 : decode cX2_sideCode 1 = .ok (.ifCond .lt 8, 3) := by decide +kernel
theorem dX2_sideCode_4 : decode cX2_sideCode 4 = .ok (.iload_n 1, 1) := by decide +kernel
theorem dX2_sideCode_5 : decode cX2_sideCode 5 = .ok (.iconst 3, 1) := by decide +kernel
theorem dX2_sideCode_6 : decode cX2_sideCode 6 = .ok (.if_icmp .le 7, 3) := by decide +kernel
theorem dX2_sideCode_9 : decode cX2_sideCode 9 = .ok (.iconst 1, 1) := by decide +kernel
theorem dX2_sideCode_10 : decode cX2_sideCode 10 = .ok (.goto 17, 3) := by decide +kernel
theorem dX2_sideCode_13 : decode cX2_sideCode 13 = .ok (.aload_n 0, 1) := by decide +kernel
theorem dX2_sideCode_14 : decode cX2_sideCode 14 = .ok (.getfield 27, 3) := by decide +kernel
theorem dX2_sideCode_17 : decode cX2_sideCode 17 = .ok (.iload_n 1, 1) := by decide +kernel
theorem dX2_sideCode_18 : decode cX2_sideCode 18 = .ok (.baload, 1) := by decide +kernel
theorem dX2_sideCode_19 : decode cX2_sideCode 19 = .ok (.ifCond .eq 7, 3) := by decide +kernel
theorem dX2_sideCode_22 : decode cX2_sideCode 22 = .ok (.iconst 2, 1) := by decide +kernel
theorem dX2_sideCode_23 : decode cX2_sideCode 23 = .ok (.goto 4, 3) := by decide +kernel
theorem dX2_sideCode_26 : decode cX2_sideCode 26 = .ok (.iconst 0, 1) := by decide +kernel
theorem dX2_sideCode_27 : decode cX2_sideCode 27 = .ok (.ireturn, 1) := by decide +kernel
theorem dX2_rafterCode_0 : decode cX2_rafterCode 0 = .ok (.aload_n 0, 1) := by decide +kernel
theorem dX2_rafterCode_1 : decode cX2_rafterCode 1 = .ok (.iload_n 1, 1) := by decide +kernel
theorem dX2_rafterCode_2 : decode cX2_rafterCode 2 = .ok (.invokevirtual 69, 3) := by decide +kernel
theorem dX2_rafterCode_5 : decode cX2_rafterCode 5 = .ok (.istore 4, 2) := by decide +kernel
theorem dX2_rafterCode_7 : decode cX2_rafterCode 7 = .ok (.iload 4, 2) := by decide +kernel
theorem dX2_rafterCode_9 : decode cX2_rafterCode 9 = .ok (.ifCond .le 8, 3) := by decide +kernel
theorem dX2_rafterCode_12 : decode cX2_rafterCode 12 = .ok (.iload 4, 2) := by decide +kernel
theorem dX2_rafterCode_14 : decode cX2_rafterCode 14 = .ok (.goto 21, 3) := by decide +kernel
theorem dX2_rafterCode_17 : decode cX2_rafterCode 17 = .ok (.lload_n 2, 1) := by decide +kernel
theorem dX2_rafterCode_18 : decode cX2_rafterCode 18 = .ok (.lconst 0, 1) := by decide +kernel
theorem dX2_rafterCode_19 : decode cX2_rafterCode 19 = .ok (.aload_n 0, 1) := by decide +kernel
theorem dX2_rafterCode_20 : decode cX2_rafterCode 20 = .ok (.iload_n 1, 1) := by decide +kernel
theorem dX2_rafterCode_21 : decode cX2_rafterCode 21 = .ok (.invokevirtual 73, 3) := by decide +kernel
theorem dX2_rafterCode_24 : decode cX2_rafterCode 24 = .ok (.invokestatic 47, 3) := by decide +kernel
theorem dX2_rafterCode_27 : decode cX2_rafterCode 27 = .ok (.ifCond .eq 7, 3) := by decide +kernel
theorem dX2_rafterCode_30 : decode cX2_rafterCode 30 = .ok (.iconst 0, 1) := by decide +kernel
theorem dX2_rafterCode_31 : decode cX2_rafterCode 31 = .ok (.goto 4, 3) := by decide +kernel
theorem dX2_rafterCode_34 : decode cX2_rafterCode 34 = .ok (.iconst 3, 1) := by decide +kernel
theorem dX2_rafterCode_35 : decode cX2_rafterCode 35 = .ok (.ireturn, 1) := by decide +kernel
theorem dX2_rafter_0 : decode cX2_rafter 0 = .ok (.aload_n 0, 1) := by decide +kernel
theorem dX2_rafter_1 : decode cX2_rafter 1 = .ok (.aload_n 0, 1) := by decide +kernel
theorem dX2_rafter_2 : decode cX2_rafter 2 = .ok (.iload_n 1, 1) := by decide +kernel
theorem dX2_rafter_3 : decode cX2_rafter 3 = .ok (.invokevirtual 69, 3) := by decide +kernel
theorem dX2_rafter_6 : decode cX2_rafter 6 = .ok (.putfield 31, 3) := by decide +kernel
theorem dX2_rafter_9 : decode cX2_rafter 9 = .ok (.aload_n 0, 1) := by decide +kernel
theorem dX2_rafter_10 : decode cX2_rafter 10 = .ok (.getfield 31, 3) := by decide +kernel
theorem dX2_rafter_13 : decode cX2_rafter 13 = .ok (.ifCond .le 5, 3) := by decide +kernel
theorem dX2_rafter_16 : decode cX2_rafter 16 = .ok (.iconst 0, 1) := by decide +kernel
theorem dX2_rafter_17 : decode cX2_rafter 17 = .ok (.ireturn, 1) := by decide +kernel
theorem dX2_rafter_18 : decode cX2_rafter 18 = .ok (.aload_n 0, 1) := by decide +kernel
theorem dX2_rafter_19 : decode cX2_rafter 19 = .ok (.lload_n 2, 1) := by decide +kernel
theorem dX2_rafter_20 : decode cX2_rafter 20 = .ok (.lconst 1, 1) := by decide +kernel
theorem dX2_rafter_21 : decode cX2_rafter 21 = .ok (.ldc2_w 76, 3) := by decide +kernel
theorem dX2_rafter_24 : decode cX2_rafter 24 = .ok (.invokestatic 47, 3) := by decide +kernel
theorem dX2_rafter_27 : decode cX2_rafter 27 = .ok (.ifCond .eq 7, 3) := by decide +kernel
theorem dX2_rafter_30 : decode cX2_rafter 30 = .ok (.iconst 0, 1) := by decide +kernel
theorem dX2_rafter_31 : decode cX2_rafter 31 = .ok (.goto 4, 3) := by decide +kernel
theorem dX2_rafter_34 : decode cX2_rafter 34 = .ok (.iconst 3, 1) := by decide +kernel
theorem dX2_rafter_35 : decode cX2_rafter 35 = .ok (.putfield 31, 3) := by decide +kernel
theorem dX2_rafter_38 : decode cX2_rafter 38 = .ok (.aload_n 0, 1) := by decide +kernel
theorem dX2_rafter_39 : decode cX2_rafter 39 = .ok (.getfield 31, 3) := by decide +kernel
theorem dX2_rafter_42 : decode cX2_rafter 42 = .ok (.ifCond .le 7, 3) := by decide +kernel
theorem dX2_rafter_45 : decode cX2_rafter 45 = .ok (.iconst 0, 1) := by decide +kernel
theorem dX2_rafter_46 : decode cX2_rafter 46 = .ok (.goto 13, 3) := by decide +kernel
theorem dX2_rafter_49 : decode cX2_rafter 49 = .ok (.aload_n 0, 1) := by decide +kernel
theorem dX2_rafter_50 : decode cX2_rafter 50 = .ok (.iload_n 1, 1) := by decide +kernel
theorem dX2_rafter_51 : decode cX2_rafter 51 = .ok (.invokevirtual 73, 3) := by decide +kernel
theorem dX2_rafter_54 : decode cX2_rafter 54 = .ok (.lload_n 2, 1) := by decide +kernel
theorem dX2_rafter_55 : decode cX2_rafter 55 = .ok (.ldiv, 1) := by decide +kernel
theorem dX2_rafter_56 : decode cX2_rafter 56 = .ok (.l2i, 1) := by decide +kernel
theorem dX2_rafter_57 : decode cX2_rafter 57 = .ok (.iconst 1, 1) := by decide +kernel
theorem dX2_rafter_58 : decode cX2_rafter 58 = .ok (.iadd, 1) := by decide +kernel
theorem dX2_rafter_59 : decode cX2_rafter 59 = .ok (.ireturn, 1) := by decide +kernel
theorem dX2_ends_0 : decode cX2_ends 0 = .ok (.iload_n 1, 1) := by decide +kernel
theorem dX2_ends_1 : decode cX2_ends 1 = .ok (.iload_n 2, 1) := by decide +kernel
theorem dX2_ends_2 : decode cX2_ends 2 = .ok (.ixor, 1) := by decide +kernel
theorem dX2_ends_3 : decode cX2_ends 3 = .ok (.iconst 2, 1) := by decide +kernel
theorem dX2_ends_4 : decode cX2_ends 4 = .ok (.if_icmp .ne 7, 3) := by decide +kernel
theorem dX2_ends_7 : decode cX2_ends 7 = .ok (.iconst 1, 1) := by decide +kernel
theorem dX2_ends_8 : decode cX2_ends 8 = .ok (.goto 4, 3) := by decide +kernel
theorem dX2_ends_11 : decode cX2_ends 11 = .ok (.iconst 0, 1) := by decide +kernel
theorem dX2_ends_12 : decode cX2_ends 12 = .ok (.istore 5, 2) := by decide +kernel
theorem dX2_ends_14 : decode cX2_ends 14 = .ok (.iload 5, 2) := by decide +kernel
theorem dX2_ends_16 : decode cX2_ends 16 = .ok (.ifCond .eq 25, 3) := by decide +kernel
theorem dX2_ends_19 : decode cX2_ends 19 = .ok (.aload_n 0, 1) := by decide +kernel
theorem dX2_ends_20 : decode cX2_ends 20 = .ok (.getfield 27, 3) := by decide +kernel
theorem dX2_ends_23 : decode cX2_ends 23 = .ok (.iload_n 2, 1) := by decide +kernel
theorem dX2_ends_24 : decode cX2_ends 24 = .ok (.baload, 1) := by decide +kernel
theorem dX2_ends_25 : decode cX2_ends 25 = .ok (.ifCond .eq 16, 3) := by decide +kernel
theorem dX2_ends_28 : decode cX2_ends 28 = .ok (.aload_n 0, 1) := by decide +kernel
theorem dX2_ends_29 : decode cX2_ends 29 = .ok (.aload_n 0, 1) := by decide +kernel
theorem dX2_ends_30 : decode cX2_ends 30 = .ok (.iload_n 1, 1) := by decide +kernel
theorem dX2_ends_31 : decode cX2_ends 31 = .ok (.invokevirtual 78, 3) := by decide +kernel
theorem dX2_ends_34 : decode cX2_ends 34 = .ok (.lconst 1, 1) := by decide +kernel
theorem dX2_ends_35 : decode cX2_ends 35 = .ok (.invokevirtual 41, 3) := by decide +kernel
theorem dX2_ends_38 : decode cX2_ends 38 = .ok (.goto 170, 3) := by decide +kernel
theorem dX2_ends_41 : decode cX2_ends 41 = .ok (.iload 5, 2) := by decide +kernel
theorem dX2_ends_43 : decode cX2_ends 43 = .ok (.ifCond .eq 56, 3) := by decide +kernel
theorem dX2_ends_46 : decode cX2_ends 46 = .ok (.aload_n 0, 1) := by decide +kernel
theorem dX2_ends_47 : decode cX2_ends 47 = .ok (.aload_n 0, 1) := by decide +kernel
theorem dX2_ends_48 : decode cX2_ends 48 = .ok (.iload_n 1, 1) := by decide +kernel
theorem dX2_ends_49 : decode cX2_ends 49 = .ok (.invokevirtual 78, 3) := by decide +kernel
theorem dX2_ends_52 : decode cX2_ends 52 = .ok (.aload_n 0, 1) := by decide +kernel
theorem dX2_ends_53 : decode cX2_ends 53 = .ok (.getfield 20, 3) := by decide +kernel
theorem dX2_ends_56 : decode cX2_ends 56 = .ok (.iload_n 2, 1) := by decide +kernel
theorem dX2_ends_57 : decode cX2_ends 57 = .ok (.laload, 1) := by decide +kernel
theorem dX2_ends_58 : decode cX2_ends 58 = .ok (.lmul, 1) := by decide +kernel
theorem dX2_ends_59 : decode cX2_ends 59 = .ok (.aload_n 0, 1) := by decide +kernel
theorem dX2_ends_60 : decode cX2_ends 60 = .ok (.getfield 24, 3) := by decide +kernel
theorem dX2_ends_63 : decode cX2_ends 63 = .ok (.iload_n 1, 1) := by decide +kernel
theorem dX2_ends_64 : decode cX2_ends 64 = .ok (.laload, 1) := by decide +kernel
theorem dX2_ends_65 : decode cX2_ends 65 = .ok (.lmul, 1) := by decide +kernel
theorem dX2_ends_66 : decode cX2_ends 66 = .ok (.aload_n 0, 1) := by decide +kernel
theorem dX2_ends_67 : decode cX2_ends 67 = .ok (.getfield 20, 3) := by decide +kernel
theorem dX2_ends_70 : decode cX2_ends 70 = .ok (.iload_n 1, 1) := by decide +kernel
theorem dX2_ends_71 : decode cX2_ends 71 = .ok (.laload, 1) := by decide +kernel
theorem dX2_ends_72 : decode cX2_ends 72 = .ok (.aload_n 0, 1) := by decide +kernel
theorem dX2_ends_73 : decode cX2_ends 73 = .ok (.getfield 24, 3) := by decide +kernel
theorem dX2_ends_76 : decode cX2_ends 76 = .ok (.iload_n 2, 1) := by decide +kernel
theorem dX2_ends_77 : decode cX2_ends 77 = .ok (.laload, 1) := by decide +kernel
theorem dX2_ends_78 : decode cX2_ends 78 = .ok (.lmul, 1) := by decide +kernel
theorem dX2_ends_79 : decode cX2_ends 79 = .ok (.aload_n 0, 1) := by decide +kernel
theorem dX2_ends_80 : decode cX2_ends 80 = .ok (.getfield 20, 3) := by decide +kernel
theorem dX2_ends_83 : decode cX2_ends 83 = .ok (.iload_n 2, 1) := by decide +kernel
theorem dX2_ends_84 : decode cX2_ends 84 = .ok (.laload, 1) := by decide +kernel
theorem dX2_ends_85 : decode cX2_ends 85 = .ok (.aload_n 0, 1) := by decide +kernel
theorem dX2_ends_86 : decode cX2_ends 86 = .ok (.getfield 24, 3) := by decide +kernel
theorem dX2_ends_89 : decode cX2_ends 89 = .ok (.iload_n 1, 1) := by decide +kernel
theorem dX2_ends_90 : decode cX2_ends 90 = .ok (.laload, 1) := by decide +kernel
theorem dX2_ends_91 : decode cX2_ends 91 = .ok (.lmul, 1) := by decide +kernel
theorem dX2_ends_92 : decode cX2_ends 92 = .ok (.ladd, 1) := by decide +kernel
theorem dX2_ends_93 : decode cX2_ends 93 = .ok (.invokevirtual 41, 3) := by decide +kernel
theorem dX2_ends_96 : decode cX2_ends 96 = .ok (.goto 112, 3) := by decide +kernel
theorem dX2_ends_99 : decode cX2_ends 99 = .ok (.aload_n 0, 1) := by decide +kernel
theorem dX2_ends_100 : decode cX2_ends 100 = .ok (.getfield 27, 3) := by decide +kernel
theorem dX2_ends_103 : decode cX2_ends 103 = .ok (.iload_n 2, 1) := by decide +kernel
theorem dX2_ends_104 : decode cX2_ends 104 = .ok (.baload, 1) := by decide +kernel
theorem dX2_ends_105 : decode cX2_ends 105 = .ok (.ifCond .ne 101, 3) := by decide +kernel
theorem dX2_ends_108 : decode cX2_ends 108 = .ok (.iload_n 1, 1) := by decide +kernel
theorem dX2_ends_109 : decode cX2_ends 109 = .ok (.ifCond .ne 7, 3) := by decide +kernel
theorem dX2_ends_112 : decode cX2_ends 112 = .ok (.lload_n 3, 1) := by decide +kernel
theorem dX2_ends_113 : decode cX2_ends 113 = .ok (.goto 25, 3) := by decide +kernel
theorem dX2_ends_116 : decode cX2_ends 116 = .ok (.iload_n 1, 1) := by decide +kernel
theorem dX2_ends_117 : decode cX2_ends 117 = .ok (.iconst 2, 1) := by decide +kernel
theorem dX2_ends_118 : decode cX2_ends 118 = .ok (.if_icmp .ne 7, 3) := by decide +kernel
theorem dX2_ends_121 : decode cX2_ends 121 = .ok (.lload_n 3, 1) := by decide +kernel
theorem dX2_ends_122 : decode cX2_ends 122 = .ok (.goto 16, 3) := by decide +kernel
theorem dX2_ends_125 : decode cX2_ends 125 = .ok (.iload_n 1, 1) := by decide +kernel
theorem dX2_ends_126 : decode cX2_ends 126 = .ok (.iconst 1, 1) := by decide +kernel
theorem dX2_ends_127 : decode cX2_ends 127 = .ok (.if_icmp .ne 10, 3) := by decide +kernel
theorem dX2_ends_130 : decode cX2_ends 130 = .ok (.aload_n 0, 1) := by decide +kernel
theorem dX2_ends_131 : decode cX2_ends 131 = .ok (.getfield 9, 3) := by decide +kernel
theorem dX2_ends_134 : decode cX2_ends 134 = .ok (.goto 4, 3) := by decide +kernel
theorem dX2_ends_137 : decode cX2_ends 137 = .ok (.lconst 0, 1) := by decide +kernel
theorem dX2_ends_138 : decode cX2_ends 138 = .ok (.lstore 6, 2) := by decide +kernel
theorem dX2_ends_140 : decode cX2_ends 140 = .ok (.iload_n 1, 1) := by decide +kernel
theorem dX2_ends_141 : decode cX2_ends 141 = .ok (.ifCond .ne 7, 3) := by decide +kernel
theorem dX2_ends_144 : decode cX2_ends 144 = .ok (.lconst 0, 1) := by decide +kernel
theorem dX2_ends_145 : decode cX2_ends 145 = .ok (.goto 16, 3) := by decide +kernel
theorem dX2_ends_148 : decode cX2_ends 148 = .ok (.iload_n 1, 1) := by decide +kernel
theorem dX2_ends_149 : decode cX2_ends 149 = .ok (.iconst 2, 1) := by decide +kernel
theorem dX2_ends_150 : decode cX2_ends 150 = .ok (.if_icmp .ne 10, 3) := by decide +kernel
theorem dX2_ends_153 : decode cX2_ends 153 = .ok (.aload_n 0, 1) := by decide +kernel
theorem dX2_ends_154 : decode cX2_ends 154 = .ok (.getfield 17, 3) := by decide +kernel
theorem dX2_ends_157 : decode cX2_ends 157 = .ok (.goto 4, 3) := by decide +kernel
theorem dX2_ends_160 : decode cX2_ends 160 = .ok (.lload_n 3, 1) := by decide +kernel
theorem dX2_ends_161 : decode cX2_ends 161 = .ok (.lstore 8, 2) := by decide +kernel
theorem dX2_ends_163 : decode cX2_ends 163 = .ok (.aload_n 0, 1) := by decide +kernel
theorem dX2_ends_164 : decode cX2_ends 164 = .ok (.aload_n 0, 1) := by decide +kernel
theorem dX2_ends_165 : decode cX2_ends 165 = .ok (.getfield 20, 3) := by decide +kernel
theorem dX2_ends_168 : decode cX2_ends 168 = .ok (.iload_n 2, 1) := by decide +kernel
theorem dX2_ends_169 : decode cX2_ends 169 = .ok (.laload, 1) := by decide +kernel
theorem dX2_ends_170 : decode cX2_ends 170 = .ok (.aload_n 0, 1) := by decide +kernel
theorem dX2_ends_171 : decode cX2_ends 171 = .ok (.iload_n 2, 1) := by decide +kernel
theorem dX2_ends_172 : decode cX2_ends 172 = .ok (.lload 6, 2) := by decide +kernel
theorem dX2_ends_174 : decode cX2_ends 174 = .ok (.lload 8, 2) := by decide +kernel
theorem dX2_ends_176 : decode cX2_ends 176 = .ok (.invokevirtual 53, 3) := by decide +kernel
theorem dX2_ends_179 : decode cX2_ends 179 = .ok (.lmul, 1) := by decide +kernel
theorem dX2_ends_180 : decode cX2_ends 180 = .ok (.aload_n 0, 1) := by decide +kernel
theorem dX2_ends_181 : decode cX2_ends 181 = .ok (.getfield 24, 3) := by decide +kernel
theorem dX2_ends_184 : decode cX2_ends 184 = .ok (.iload_n 1, 1) := by decide +kernel
theorem dX2_ends_185 : decode cX2_ends 185 = .ok (.laload, 1) := by decide +kernel
theorem dX2_ends_186 : decode cX2_ends 186 = .ok (.lmul, 1) := by decide +kernel
theorem dX2_ends_187 : decode cX2_ends 187 = .ok (.aload_n 0, 1) := by decide +kernel
theorem dX2_ends_188 : decode cX2_ends 188 = .ok (.getfield 24, 3) := by decide +kernel
theorem dX2_ends_191 : decode cX2_ends 191 = .ok (.iload_n 2, 1) := by decide +kernel
theorem dX2_ends_192 : decode cX2_ends 192 = .ok (.laload, 1) := by decide +kernel
theorem dX2_ends_193 : decode cX2_ends 193 = .ok (.aload_n 0, 1) := by decide +kernel
theorem dX2_ends_194 : decode cX2_ends 194 = .ok (.getfield 20, 3) := by decide +kernel
theorem dX2_ends_197 : decode cX2_ends 197 = .ok (.iload_n 1, 1) := by decide +kernel
theorem dX2_ends_198 : decode cX2_ends 198 = .ok (.laload, 1) := by decide +kernel
theorem dX2_ends_199 : decode cX2_ends 199 = .ok (.lmul, 1) := by decide +kernel
theorem dX2_ends_200 : decode cX2_ends 200 = .ok (.invokevirtual 41, 3) := by decide +kernel
theorem dX2_ends_203 : decode cX2_ends 203 = .ok (.goto 5, 3) := by decide +kernel
theorem dX2_ends_206 : decode cX2_ends 206 = .ok (.iconst 0, 1) := by decide +kernel
theorem dX2_ends_207 : decode cX2_ends 207 = .ok (.ireturn, 1) := by decide +kernel
theorem dX2_ends_208 : decode cX2_ends 208 = .ok (.iconst 1, 1) := by decide +kernel
theorem dX2_ends_209 : decode cX2_ends 209 = .ok (.ireturn, 1) := by decide +kernel
theorem dX2_ending_0 : decode cX2_ending 0 = .ok (.iconst (-1), 1) := by decide +kernel
theorem dX2_ending_1 : decode cX2_ending 1 = .ok (.istore 4, 2) := by decide +kernel
theorem dX2_ending_3 : decode cX2_ending 3 = .ok (.lconst 0, 1) := by decide +kernel
theorem dX2_ending_4 : decode cX2_ending 4 = .ok (.lstore 5, 2) := by decide +kernel
theorem dX2_ending_6 : decode cX2_ending 6 = .ok (.lconst 1, 1) := by decide +kernel
theorem dX2_ending_7 : decode cX2_ending 7 = .ok (.lstore 7, 2) := by decide +kernel
theorem dX2_ending_9 : decode cX2_ending 9 = .ok (.iconst 0, 1) := by decide +kernel
theorem dX2_ending_10 : decode cX2_ending 10 = .ok (.istore 9, 2) := by decide +kernel
theorem dX2_ending_12 : decode cX2_ending 12 = .ok (.iload 9, 2) := by decide +kernel
theorem dX2_ending_14 : decode cX2_ending 14 = .ok (.iconst 4, 1) := by decide +kernel
theorem dX2_ending_15 : decode cX2_ending 15 = .ok (.if_icmp .ge 65, 3) := by decide +kernel
theorem dX2_ending_18 : decode cX2_ending 18 = .ok (.iload 9, 2) := by decide +kernel
theorem dX2_ending_20 : decode cX2_ending 20 = .ok (.iload_n 1, 1) := by decide +kernel
theorem dX2_ending_21 : decode cX2_ending 21 = .ok (.if_icmp .eq 53, 3) := by decide +kernel
theorem dX2_ending_24 : decode cX2_ending 24 = .ok (.aload_n 0, 1) := by decide +kernel
theorem dX2_ending_25 : decode cX2_ending 25 = .ok (.iload_n 1, 1) := by decide +kernel
theorem dX2_ending_26 : decode cX2_ending 26 = .ok (.iload 9, 2) := by decide +kernel
theorem dX2_ending_28 : decode cX2_ending 28 = .ok (.lload_n 2, 1) := by decide +kernel
theorem dX2_ending_29 : decode cX2_ending 29 = .ok (.invokevirtual 81, 3) := by decide +kernel
theorem dX2_ending_32 : decode cX2_ending 32 = .ok (.ifCond .eq 42, 3) := by decide +kernel
theorem dX2_ending_35 : decode cX2_ending 35 = .ok (.iload 4, 2) := by decide +kernel
theorem dX2_ending_37 : decode cX2_ending 37 = .ok (.ifCond .lt 21, 3) := by decide +kernel
theorem dX2_ending_40 : decode cX2_ending 40 = .ok (.aload_n 0, 1) := by decide +kernel
theorem dX2_ending_41 : decode cX2_ending 41 = .ok (.getfield 35, 3) := by decide +kernel
theorem dX2_ending_44 : decode cX2_ending 44 = .ok (.lload 7, 2) := by decide +kernel
theorem dX2_ending_46 : decode cX2_ending 46 = .ok (.lmul, 1) := by decide +kernel
theorem dX2_ending_47 : decode cX2_ending 47 = .ok (.lload 5, 2) := by decide +kernel
theorem dX2_ending_49 : decode cX2_ending 49 = .ok (.aload_n 0, 1) := by decide +kernel
theorem dX2_ending_50 : decode cX2_ending 50 = .ok (.getfield 38, 3) := by decide +kernel
theorem dX2_ending_53 : decode cX2_ending 53 = .ok (.lmul, 1) := by decide +kernel
theorem dX2_ending_54 : decode cX2_ending 54 = .ok (.lcmp, 1) := by decide +kernel
theorem dX2_ending_55 : decode cX2_ending 55 = .ok (.ifCond .ge 19, 3) := by decide +kernel
theorem dX2_ending_58 : decode cX2_ending 58 = .ok (.iload 9, 2) := by decide +kernel
theorem dX2_ending_60 : decode cX2_ending 60 = .ok (.istore 4, 2) := by decide +kernel
theorem dX2_ending_62 : decode cX2_ending 62 = .ok (.aload_n 0, 1) := by decide +kernel
theorem dX2_ending_63 : decode cX2_ending 63 = .ok (.getfield 35, 3) := by decide +kernel
theorem dX2_ending_66 : decode cX2_ending 66 = .ok (.lstore 5, 2) := by decide +kernel
theorem dX2_ending_68 : decode cX2_ending 68 = .ok (.aload_n 0, 1) := by decide +kernel
theorem dX2_ending_69 : decode cX2_ending 69 = .ok (.getfield 38, 3) := by decide +kernel
theorem dX2_ending_72 : decode cX2_ending 72 = .ok (.lstore 7, 2) := by decide +kernel
theorem dX2_ending_74 : decode cX2_ending 74 = .ok (.iinc 9 1, 3) := by decide +kernel
theorem dX2_ending_77 : decode cX2_ending 77 = .ok (.goto (-65), 3) := by decide +kernel
theorem dX2_ending_80 : decode cX2_ending 80 = .ok (.aload_n 0, 1) := by decide +kernel
theorem dX2_ending_81 : decode cX2_ending 81 = .ok (.lload 5, 2) := by decide +kernel
theorem dX2_ending_83 : decode cX2_ending 83 = .ok (.putfield 35, 3) := by decide +kernel
theorem dX2_ending_86 : decode cX2_ending 86 = .ok (.aload_n 0, 1) := by decide +kernel
theorem dX2_ending_87 : decode cX2_ending 87 = .ok (.lload 7, 2) := by decide +kernel
theorem dX2_ending_89 : decode cX2_ending 89 = .ok (.putfield 38, 3) := by decide +kernel
theorem dX2_ending_92 : decode cX2_ending 92 = .ok (.iload 4, 2) := by decide +kernel
theorem dX2_ending_94 : decode cX2_ending 94 = .ok (.ireturn, 1) := by decide +kernel
theorem dX2_end_0 : decode cX2_end 0 = .ok (.aload_n 0, 1) := by decide +kernel
theorem dX2_end_1 : decode cX2_end 1 = .ok (.iload 4, 2) := by decide +kernel
theorem dX2_end_3 : decode cX2_end 3 = .ok (.ifCond .lt 9, 3) := by decide +kernel
theorem dX2_end_6 : decode cX2_end 6 = .ok (.iload 4, 2) := by decide +kernel
theorem dX2_end_8 : decode cX2_end 8 = .ok (.iconst 1, 1) := by decide +kernel
theorem dX2_end_9 : decode cX2_end 9 = .ok (.if_icmp .le 7, 3) := by decide +kernel
theorem dX2_end_12 : decode cX2_end 12 = .ok (.iconst 1, 1) := by decide +kernel
theorem dX2_end_13 : decode cX2_end 13 = .ok (.goto 9, 3) := by decide +kernel
theorem dX2_end_16 : decode cX2_end 16 = .ok (.aload_n 0, 1) := by decide +kernel
theorem dX2_end_17 : decode cX2_end 17 = .ok (.iload_n 1, 1) := by decide +kernel
theorem dX2_end_18 : decode cX2_end 18 = .ok (.lload_n 2, 1) := by decide +kernel
theorem dX2_end_19 : decode cX2_end 19 = .ok (.invokevirtual 85, 3) := by decide +kernel
theorem dX2_end_22 : decode cX2_end 22 = .ok (.putfield 31, 3) := by decide +kernel
theorem dX2_end_25 : decode cX2_end 25 = .ok (.aload_n 0, 1) := by decide +kernel
theorem dX2_end_26 : decode cX2_end 26 = .ok (.getfield 31, 3) := by decide +kernel
theorem dX2_end_29 : decode cX2_end 29 = .ok (.ifCond .le 5, 3) := by decide +kernel
theorem dX2_end_32 : decode cX2_end 32 = .ok (.lconst 0, 1) := by decide +kernel
theorem dX2_end_33 : decode cX2_end 33 = .ok (.lreturn, 1) := by decide +kernel
theorem dX2_end_34 : decode cX2_end 34 = .ok (.aload_n 0, 1) := by decide +kernel
theorem dX2_end_35 : decode cX2_end 35 = .ok (.iload_n 1, 1) := by decide +kernel
theorem dX2_end_36 : decode cX2_end 36 = .ok (.lload_n 2, 1) := by decide +kernel
theorem dX2_end_37 : decode cX2_end 37 = .ok (.invokevirtual 89, 3) := by decide +kernel
theorem dX2_end_40 : decode cX2_end 40 = .ok (.istore 5, 2) := by decide +kernel
theorem dX2_end_42 : decode cX2_end 42 = .ok (.aload_n 0, 1) := by decide +kernel
theorem dX2_end_43 : decode cX2_end 43 = .ok (.iload 4, 2) := by decide +kernel
theorem dX2_end_45 : decode cX2_end 45 = .ok (.invokevirtual 65, 3) := by decide +kernel
theorem dX2_end_48 : decode cX2_end 48 = .ok (.lreturn, 1) := by decide +kernel
theorem dX2_against_0 : decode cX2_against 0 = .ok (.aload_n 0, 1) := by decide +kernel
theorem dX2_against_1 : decode cX2_against 1 = .ok (.aload_n 0, 1) := by decide +kernel
theorem dX2_against_2 : decode cX2_against 2 = .ok (.iload_n 1, 1) := by decide +kernel
theorem dX2_against_3 : decode cX2_against 3 = .ok (.lload_n 2, 1) := by decide +kernel
theorem dX2_against_4 : decode cX2_against 4 = .ok (.invokevirtual 85, 3) := by decide +kernel
theorem dX2_against_7 : decode cX2_against 7 = .ok (.putfield 31, 3) := by decide +kernel
theorem dX2_against_10 : decode cX2_against 10 = .ok (.aload_n 0, 1) := by decide +kernel
theorem dX2_against_11 : decode cX2_against 11 = .ok (.getfield 31, 3) := by decide +kernel
theorem dX2_against_14 : decode cX2_against 14 = .ok (.ifCond .le 7, 3) := by decide +kernel
theorem dX2_against_17 : decode cX2_against 17 = .ok (.iconst 0, 1) := by decide +kernel
theorem dX2_against_18 : decode cX2_against 18 = .ok (.goto 9, 3) := by decide +kernel
theorem dX2_against_21 : decode cX2_against 21 = .ok (.aload_n 0, 1) := by decide +kernel
theorem dX2_against_22 : decode cX2_against 22 = .ok (.iload_n 1, 1) := by decide +kernel
theorem dX2_against_23 : decode cX2_against 23 = .ok (.lload_n 2, 1) := by decide +kernel
theorem dX2_against_24 : decode cX2_against 24 = .ok (.invokevirtual 89, 3) := by decide +kernel
theorem dX2_against_27 : decode cX2_against 27 = .ok (.ireturn, 1) := by decide +kernel
theorem dX2_length_0 : decode cX2_length 0 = .ok (.aload_n 0, 1) := by decide +kernel
theorem dX2_length_1 : decode cX2_length 1 = .ok (.iload 4, 2) := by decide +kernel
theorem dX2_length_3 : decode cX2_length 3 = .ok (.ifCond .lt 9, 3) := by decide +kernel
theorem dX2_length_6 : decode cX2_length 6 = .ok (.iload 4, 2) := by decide +kernel
theorem dX2_length_8 : decode cX2_length 8 = .ok (.iconst 1, 1) := by decide +kernel
theorem dX2_length_9 : decode cX2_length 9 = .ok (.if_icmp .le 7, 3) := by decide +kernel
theorem dX2_length_12 : decode cX2_length 12 = .ok (.iconst 1, 1) := by decide +kernel
theorem dX2_length_13 : decode cX2_length 13 = .ok (.goto 9, 3) := by decide +kernel
theorem dX2_length_16 : decode cX2_length 16 = .ok (.aload_n 0, 1) := by decide +kernel
theorem dX2_length_17 : decode cX2_length 17 = .ok (.iload_n 1, 1) := by decide +kernel
theorem dX2_length_18 : decode cX2_length 18 = .ok (.lload_n 2, 1) := by decide +kernel
theorem dX2_length_19 : decode cX2_length 19 = .ok (.invokevirtual 85, 3) := by decide +kernel
theorem dX2_length_22 : decode cX2_length 22 = .ok (.putfield 31, 3) := by decide +kernel
theorem dX2_length_25 : decode cX2_length 25 = .ok (.aload_n 0, 1) := by decide +kernel
theorem dX2_length_26 : decode cX2_length 26 = .ok (.getfield 31, 3) := by decide +kernel
theorem dX2_length_29 : decode cX2_length 29 = .ok (.ifCond .le 5, 3) := by decide +kernel
theorem dX2_length_32 : decode cX2_length 32 = .ok (.lconst 0, 1) := by decide +kernel
theorem dX2_length_33 : decode cX2_length 33 = .ok (.lreturn, 1) := by decide +kernel
theorem dX2_length_34 : decode cX2_length 34 = .ok (.aload_n 0, 1) := by decide +kernel
theorem dX2_length_35 : decode cX2_length 35 = .ok (.iload_n 1, 1) := by decide +kernel
theorem dX2_length_36 : decode cX2_length 36 = .ok (.lload_n 2, 1) := by decide +kernel
theorem dX2_length_37 : decode cX2_length 37 = .ok (.invokevirtual 89, 3) := by decide +kernel
theorem dX2_length_40 : decode cX2_length 40 = .ok (.istore 5, 2) := by decide +kernel
theorem dX2_length_42 : decode cX2_length 42 = .ok (.aload_n 0, 1) := by decide +kernel
theorem dX2_length_43 : decode cX2_length 43 = .ok (.getfield 35, 3) := by decide +kernel
theorem dX2_length_46 : decode cX2_length 46 = .ok (.aload_n 0, 1) := by decide +kernel
theorem dX2_length_47 : decode cX2_length 47 = .ok (.getfield 35, 3) := by decide +kernel
theorem dX2_length_50 : decode cX2_length 50 = .ok (.lmul, 1) := by decide +kernel
theorem dX2_length_51 : decode cX2_length 51 = .ok (.aload_n 0, 1) := by decide +kernel
theorem dX2_length_52 : decode cX2_length 52 = .ok (.getfield 20, 3) := by decide +kernel
theorem dX2_length_55 : decode cX2_length 55 = .ok (.iload_n 1, 1) := by decide +kernel
theorem dX2_length_56 : decode cX2_length 56 = .ok (.laload, 1) := by decide +kernel
theorem dX2_length_57 : decode cX2_length 57 = .ok (.aload_n 0, 1) := by decide +kernel
theorem dX2_length_58 : decode cX2_length 58 = .ok (.getfield 20, 3) := by decide +kernel
theorem dX2_length_61 : decode cX2_length 61 = .ok (.iload_n 1, 1) := by decide +kernel
theorem dX2_length_62 : decode cX2_length 62 = .ok (.laload, 1) := by decide +kernel
theorem dX2_length_63 : decode cX2_length 63 = .ok (.lmul, 1) := by decide +kernel
theorem dX2_length_64 : decode cX2_length 64 = .ok (.aload_n 0, 1) := by decide +kernel
theorem dX2_length_65 : decode cX2_length 65 = .ok (.getfield 24, 3) := by decide +kernel
theorem dX2_length_68 : decode cX2_length 68 = .ok (.iload_n 1, 1) := by decide +kernel
theorem dX2_length_69 : decode cX2_length 69 = .ok (.laload, 1) := by decide +kernel
theorem dX2_length_70 : decode cX2_length 70 = .ok (.aload_n 0, 1) := by decide +kernel
theorem dX2_length_71 : decode cX2_length 71 = .ok (.getfield 24, 3) := by decide +kernel
theorem dX2_length_74 : decode cX2_length 74 = .ok (.iload_n 1, 1) := by decide +kernel
theorem dX2_length_75 : decode cX2_length 75 = .ok (.laload, 1) := by decide +kernel
theorem dX2_length_76 : decode cX2_length 76 = .ok (.lmul, 1) := by decide +kernel
theorem dX2_length_77 : decode cX2_length 77 = .ok (.ladd, 1) := by decide +kernel
theorem dX2_length_78 : decode cX2_length 78 = .ok (.lmul, 1) := by decide +kernel
theorem dX2_length_79 : decode cX2_length 79 = .ok (.lstore 6, 2) := by decide +kernel
theorem dX2_length_81 : decode cX2_length 81 = .ok (.aload_n 0, 1) := by decide +kernel
theorem dX2_length_82 : decode cX2_length 82 = .ok (.getfield 38, 3) := by decide +kernel
theorem dX2_length_85 : decode cX2_length 85 = .ok (.aload_n 0, 1) := by decide +kernel
theorem dX2_length_86 : decode cX2_length 86 = .ok (.getfield 24, 3) := by decide +kernel
theorem dX2_length_89 : decode cX2_length 89 = .ok (.iload_n 1, 1) := by decide +kernel
theorem dX2_length_90 : decode cX2_length 90 = .ok (.laload, 1) := by decide +kernel
theorem dX2_length_91 : decode cX2_length 91 = .ok (.lmul, 1) := by decide +kernel
theorem dX2_length_92 : decode cX2_length 92 = .ok (.lstore 8, 2) := by decide +kernel
theorem dX2_length_94 : decode cX2_length 94 = .ok (.lconst 0, 1) := by decide +kernel
theorem dX2_length_95 : decode cX2_length 95 = .ok (.lstore 10, 2) := by decide +kernel
theorem dX2_length_97 : decode cX2_length 97 = .ok (.bipush 22, 2) := by decide +kernel
theorem dX2_length_99 : decode cX2_length 99 = .ok (.istore 12, 2) := by decide +kernel
theorem dX2_length_101 : decode cX2_length 101 = .ok (.iload 12, 2) := by decide +kernel
theorem dX2_length_103 : decode cX2_length 103 = .ok (.ifCond .lt 56, 3) := by decide +kernel
theorem dX2_length_106 : decode cX2_length 106 = .ok (.lload 10, 2) := by decide +kernel
theorem dX2_length_108 : decode cX2_length 108 = .ok (.lconst 1, 1) := by decide +kernel
theorem dX2_length_109 : decode cX2_length 109 = .ok (.iload 12, 2) := by decide +kernel
theorem dX2_length_111 : decode cX2_length 111 = .ok (.lshl, 1) := by decide +kernel
theorem dX2_length_112 : decode cX2_length 112 = .ok (.lor, 1) := by decide +kernel
theorem dX2_length_113 : decode cX2_length 113 = .ok (.lstore 13, 2) := by decide +kernel
theorem dX2_length_115 : decode cX2_length 115 = .ok (.lload 13, 2) := by decide +kernel
theorem dX2_length_117 : decode cX2_length 117 = .ok (.lload 8, 2) := by decide +kernel
theorem dX2_length_119 : decode cX2_length 119 = .ok (.lmul, 1) := by decide +kernel
theorem dX2_length_120 : decode cX2_length 120 = .ok (.ldc2_w 92, 3) := by decide +kernel
theorem dX2_length_123 : decode cX2_length 123 = .ok (.lcmp, 1) := by decide +kernel
theorem dX2_length_124 : decode cX2_length 124 = .ok (.ifCond .gt 25, 3) := by decide +kernel
theorem dX2_length_127 : decode cX2_length 127 = .ok (.lload 13, 2) := by decide +kernel
theorem dX2_length_129 : decode cX2_length 129 = .ok (.lload 8, 2) := by decide +kernel
theorem dX2_length_131 : decode cX2_length 131 = .ok (.lmul, 1) := by decide +kernel
theorem dX2_length_132 : decode cX2_length 132 = .ok (.lload 13, 2) := by decide +kernel
theorem dX2_length_134 : decode cX2_length 134 = .ok (.lmul, 1) := by decide +kernel
theorem dX2_length_135 : decode cX2_length 135 = .ok (.lload 8, 2) := by decide +kernel
theorem dX2_length_137 : decode cX2_length 137 = .ok (.lmul, 1) := by decide +kernel
theorem dX2_length_138 : decode cX2_length 138 = .ok (.lload 6, 2) := by decide +kernel
theorem dX2_length_140 : decode cX2_length 140 = .ok (.lcmp, 1) := by decide +kernel
theorem dX2_length_141 : decode cX2_length 141 = .ok (.ifCond .gt 8, 3) := by decide +kernel
theorem dX2_length_144 : decode cX2_length 144 = .ok (.lload 13, 2) := by decide +kernel
theorem dX2_length_146 : decode cX2_length 146 = .ok (.goto 5, 3) := by decide +kernel
theorem dX2_length_149 : decode cX2_length 149 = .ok (.lload 10, 2) := by decide +kernel
theorem dX2_length_151 : decode cX2_length 151 = .ok (.lstore 10, 2) := by decide +kernel
theorem dX2_length_153 : decode cX2_length 153 = .ok (.iinc 12 (-1), 3) := by decide +kernel
theorem dX2_length_156 : decode cX2_length 156 = .ok (.goto (-55), 3) := by decide +kernel
theorem dX2_length_159 : decode cX2_length 159 = .ok (.iload 4, 2) := by decide +kernel
theorem dX2_length_161 : decode cX2_length 161 = .ok (.ifCond .eq 20, 3) := by decide +kernel
theorem dX2_length_164 : decode cX2_length 164 = .ok (.lload 10, 2) := by decide +kernel
theorem dX2_length_166 : decode cX2_length 166 = .ok (.lload 8, 2) := by decide +kernel
theorem dX2_length_168 : decode cX2_length 168 = .ok (.lmul, 1) := by decide +kernel
theorem dX2_length_169 : decode cX2_length 169 = .ok (.lload 10, 2) := by decide +kernel
theorem dX2_length_171 : decode cX2_length 171 = .ok (.lmul, 1) := by decide +kernel
theorem dX2_length_172 : decode cX2_length 172 = .ok (.lload 8, 2) := by decide +kernel
theorem dX2_length_174 : decode cX2_length 174 = .ok (.lmul, 1) := by decide +kernel
theorem dX2_length_175 : decode cX2_length 175 = .ok (.lload 6, 2) := by decide +kernel
theorem dX2_length_177 : decode cX2_length 177 = .ok (.lcmp, 1) := by decide +kernel
theorem dX2_length_178 : decode cX2_length 178 = .ok (.ifCond .ne 8, 3) := by decide +kernel
theorem dX2_length_181 : decode cX2_length 181 = .ok (.lload 10, 2) := by decide +kernel
theorem dX2_length_183 : decode cX2_length 183 = .ok (.goto 7, 3) := by decide +kernel
theorem dX2_length_186 : decode cX2_length 186 = .ok (.lload 10, 2) := by decide +kernel
theorem dX2_length_188 : decode cX2_length 188 = .ok (.lconst 1, 1) := by decide +kernel
theorem dX2_length_189 : decode cX2_length 189 = .ok (.ladd, 1) := by decide +kernel
theorem dX2_length_190 : decode cX2_length 190 = .ok (.lreturn, 1) := by decide +kernel
theorem dX2_tangent_0 : decode cX2_tangent 0 = .ok (.aload_n 0, 1) := by decide +kernel
theorem dX2_tangent_1 : decode cX2_tangent 1 = .ok (.iload 4, 2) := by decide +kernel
theorem dX2_tangent_3 : decode cX2_tangent 3 = .ok (.ifCond .lt 20, 3) := by decide +kernel
theorem dX2_tangent_6 : decode cX2_tangent 6 = .ok (.iload 4, 2) := by decide +kernel
theorem dX2_tangent_8 : decode cX2_tangent 8 = .ok (.iconst 2, 1) := by decide +kernel
theorem dX2_tangent_9 : decode cX2_tangent 9 = .ok (.if_icmp .gt 14, 3) := by decide +kernel
theorem dX2_tangent_12 : decode cX2_tangent 12 = .ok (.iload 5, 2) := by decide +kernel
theorem dX2_tangent_14 : decode cX2_tangent 14 = .ok (.ifCond .lt 9, 3) := by decide +kernel
theorem dX2_tangent_17 : decode cX2_tangent 17 = .ok (.iload 5, 2) := by decide +kernel
theorem dX2_tangent_19 : decode cX2_tangent 19 = .ok (.iconst 1, 1) := by decide +kernel
theorem dX2_tangent_20 : decode cX2_tangent 20 = .ok (.if_icmp .le 7, 3) := by decide +kernel
theorem dX2_tangent_23 : decode cX2_tangent 23 = .ok (.iconst 1, 1) := by decide +kernel
theorem dX2_tangent_24 : decode cX2_tangent 24 = .ok (.goto 9, 3) := by decide +kernel
theorem dX2_tangent_27 : decode cX2_tangent 27 = .ok (.aload_n 0, 1) := by decide +kernel
theorem dX2_tangent_28 : decode cX2_tangent 28 = .ok (.iload_n 1, 1) := by decide +kernel
theorem dX2_tangent_29 : decode cX2_tangent 29 = .ok (.lload_n 2, 1) := by decide +kernel
theorem dX2_tangent_30 : decode cX2_tangent 30 = .ok (.invokevirtual 85, 3) := by decide +kernel
theorem dX2_tangent_33 : decode cX2_tangent 33 = .ok (.putfield 31, 3) := by decide +kernel
theorem dX2_tangent_36 : decode cX2_tangent 36 = .ok (.aload_n 0, 1) := by decide +kernel
theorem dX2_tangent_37 : decode cX2_tangent 37 = .ok (.getfield 31, 3) := by decide +kernel
theorem dX2_tangent_40 : decode cX2_tangent 40 = .ok (.ifCond .le 5, 3) := by decide +kernel
theorem dX2_tangent_43 : decode cX2_tangent 43 = .ok (.lconst 0, 1) := by decide +kernel
theorem dX2_tangent_44 : decode cX2_tangent 44 = .ok (.lreturn, 1) := by decide +kernel
theorem dX2_tangent_45 : decode cX2_tangent 45 = .ok (.iload 4, 2) := by decide +kernel
theorem dX2_tangent_47 : decode cX2_tangent 47 = .ok (.iconst 2, 1) := by decide +kernel
theorem dX2_tangent_48 : decode cX2_tangent 48 = .ok (.if_icmp .ge 26, 3) := by decide +kernel
theorem dX2_tangent_51 : decode cX2_tangent 51 = .ok (.iload 4, 2) := by decide +kernel
theorem dX2_tangent_53 : decode cX2_tangent 53 = .ok (.iload 5, 2) := by decide +kernel
theorem dX2_tangent_55 : decode cX2_tangent 55 = .ok (.if_icmp .ne 12, 3) := by decide +kernel
theorem dX2_tangent_58 : decode cX2_tangent 58 = .ok (.aload_n 0, 1) := by decide +kernel
theorem dX2_tangent_59 : decode cX2_tangent 59 = .ok (.getfield 20, 3) := by decide +kernel
theorem dX2_tangent_62 : decode cX2_tangent 62 = .ok (.iload_n 1, 1) := by decide +kernel
theorem dX2_tangent_63 : decode cX2_tangent 63 = .ok (.laload, 1) := by decide +kernel
theorem dX2_tangent_64 : decode cX2_tangent 64 = .ok (.goto 9, 3) := by decide +kernel
theorem dX2_tangent_67 : decode cX2_tangent 67 = .ok (.aload_n 0, 1) := by decide +kernel
theorem dX2_tangent_68 : decode cX2_tangent 68 = .ok (.getfield 24, 3) := by decide +kernel
theorem dX2_tangent_71 : decode cX2_tangent 71 = .ok (.iload_n 1, 1) := by decide +kernel
theorem dX2_tangent_72 : decode cX2_tangent 72 = .ok (.laload, 1) := by decide +kernel
theorem dX2_tangent_73 : decode cX2_tangent 73 = .ok (.lreturn, 1) := by decide +kernel
theorem dX2_tangent_74 : decode cX2_tangent 74 = .ok (.aload_n 0, 1) := by decide +kernel
theorem dX2_tangent_75 : decode cX2_tangent 75 = .ok (.iload_n 1, 1) := by decide +kernel
theorem dX2_tangent_76 : decode cX2_tangent 76 = .ok (.lload_n 2, 1) := by decide +kernel
theorem dX2_tangent_77 : decode cX2_tangent 77 = .ok (.invokevirtual 89, 3) := by decide +kernel
theorem dX2_tangent_80 : decode cX2_tangent 80 = .ok (.istore 6, 2) := by decide +kernel
theorem dX2_tangent_82 : decode cX2_tangent 82 = .ok (.iload 6, 2) := by decide +kernel
theorem dX2_tangent_84 : decode cX2_tangent 84 = .ok (.iload_n 1, 1) := by decide +kernel
theorem dX2_tangent_85 : decode cX2_tangent 85 = .ok (.ixor, 1) := by decide +kernel
theorem dX2_tangent_86 : decode cX2_tangent 86 = .ok (.iconst 2, 1) := by decide +kernel
theorem dX2_tangent_87 : decode cX2_tangent 87 = .ok (.if_icmp .ne 14, 3) := by decide +kernel
theorem dX2_tangent_90 : decode cX2_tangent 90 = .ok (.iload 5, 2) := by decide +kernel
theorem dX2_tangent_92 : decode cX2_tangent 92 = .ok (.ifCond .ne 7, 3) := by decide +kernel
theorem dX2_tangent_95 : decode cX2_tangent 95 = .ok (.lconst 0, 1) := by decide +kernel
theorem dX2_tangent_96 : decode cX2_tangent 96 = .ok (.goto 4, 3) := by decide +kernel
theorem dX2_tangent_99 : decode cX2_tangent 99 = .ok (.lconst 1, 1) := by decide +kernel
theorem dX2_tangent_100 : decode cX2_tangent 100 = .ok (.lreturn, 1) := by decide +kernel
theorem dX2_tangent_101 : decode cX2_tangent 101 = .ok (.aload_n 0, 1) := by decide +kernel
theorem dX2_tangent_102 : decode cX2_tangent 102 = .ok (.aload_n 0, 1) := by decide +kernel
theorem dX2_tangent_103 : decode cX2_tangent 103 = .ok (.getfield 20, 3) := by decide +kernel
theorem dX2_tangent_106 : decode cX2_tangent 106 = .ok (.iload_n 1, 1) := by decide +kernel
theorem dX2_tangent_107 : decode cX2_tangent 107 = .ok (.laload, 1) := by decide +kernel
theorem dX2_tangent_108 : decode cX2_tangent 108 = .ok (.aload_n 0, 1) := by decide +kernel
theorem dX2_tangent_109 : decode cX2_tangent 109 = .ok (.getfield 24, 3) := by decide +kernel
theorem dX2_tangent_112 : decode cX2_tangent 112 = .ok (.iload 6, 2) := by decide +kernel
theorem dX2_tangent_114 : decode cX2_tangent 114 = .ok (.laload, 1) := by decide +kernel
theorem dX2_tangent_115 : decode cX2_tangent 115 = .ok (.lmul, 1) := by decide +kernel
theorem dX2_tangent_116 : decode cX2_tangent 116 = .ok (.aload_n 0, 1) := by decide +kernel
theorem dX2_tangent_117 : decode cX2_tangent 117 = .ok (.getfield 24, 3) := by decide +kernel
theorem dX2_tangent_120 : decode cX2_tangent 120 = .ok (.iload_n 1, 1) := by decide +kernel
theorem dX2_tangent_121 : decode cX2_tangent 121 = .ok (.laload, 1) := by decide +kernel
theorem dX2_tangent_122 : decode cX2_tangent 122 = .ok (.aload_n 0, 1) := by decide +kernel
theorem dX2_tangent_123 : decode cX2_tangent 123 = .ok (.getfield 20, 3) := by decide +kernel
theorem dX2_tangent_126 : decode cX2_tangent 126 = .ok (.iload 6, 2) := by decide +kernel
theorem dX2_tangent_128 : decode cX2_tangent 128 = .ok (.laload, 1) := by decide +kernel
theorem dX2_tangent_129 : decode cX2_tangent 129 = .ok (.lmul, 1) := by decide +kernel
theorem dX2_tangent_130 : decode cX2_tangent 130 = .ok (.invokevirtual 41, 3) := by decide +kernel
theorem dX2_tangent_133 : decode cX2_tangent 133 = .ok (.aload_n 0, 1) := by decide +kernel
theorem dX2_tangent_134 : decode cX2_tangent 134 = .ok (.iload 5, 2) := by decide +kernel
theorem dX2_tangent_136 : decode cX2_tangent 136 = .ok (.invokevirtual 65, 3) := by decide +kernel
theorem dX2_tangent_139 : decode cX2_tangent 139 = .ok (.lreturn, 1) := by decide +kernel
theorem dX2_mouth_0 : decode cX2_mouth 0 = .ok (.aload_n 0, 1) := by decide +kernel
theorem dX2_mouth_1 : decode cX2_mouth 1 = .ok (.iload 4, 2) := by decide +kernel
theorem dX2_mouth_3 : decode cX2_mouth 3 = .ok (.ifCond .lt 9, 3) := by decide +kernel
theorem dX2_mouth_6 : decode cX2_mouth 6 = .ok (.iload 4, 2) := by decide +kernel
theorem dX2_mouth_8 : decode cX2_mouth 8 = .ok (.iconst 1, 1) := by decide +kernel
theorem dX2_mouth_9 : decode cX2_mouth 9 = .ok (.if_icmp .le 7, 3) := by decide +kernel
theorem dX2_mouth_12 : decode cX2_mouth 12 = .ok (.iconst 1, 1) := by decide +kernel
theorem dX2_mouth_13 : decode cX2_mouth 13 = .ok (.goto 8, 3) := by decide +kernel
theorem dX2_mouth_16 : decode cX2_mouth 16 = .ok (.aload_n 0, 1) := by decide +kernel
theorem dX2_mouth_17 : decode cX2_mouth 17 = .ok (.iload_n 1, 1) := by decide +kernel
theorem dX2_mouth_18 : decode cX2_mouth 18 = .ok (.invokevirtual 69, 3) := by decide +kernel
theorem dX2_mouth_21 : decode cX2_mouth 21 = .ok (.putfield 31, 3) := by decide +kernel
theorem dX2_mouth_24 : decode cX2_mouth 24 = .ok (.aload_n 0, 1) := by decide +kernel
theorem dX2_mouth_25 : decode cX2_mouth 25 = .ok (.getfield 31, 3) := by decide +kernel
theorem dX2_mouth_28 : decode cX2_mouth 28 = .ok (.ifCond .le 5, 3) := by decide +kernel
theorem dX2_mouth_31 : decode cX2_mouth 31 = .ok (.lconst 0, 1) := by decide +kernel
theorem dX2_mouth_32 : decode cX2_mouth 32 = .ok (.lreturn, 1) := by decide +kernel
theorem dX2_mouth_33 : decode cX2_mouth 33 = .ok (.aload_n 0, 1) := by decide +kernel
theorem dX2_mouth_34 : decode cX2_mouth 34 = .ok (.lload_n 2, 1) := by decide +kernel
theorem dX2_mouth_35 : decode cX2_mouth 35 = .ok (.lconst 0, 1) := by decide +kernel
theorem dX2_mouth_36 : decode cX2_mouth 36 = .ok (.ldc2_w 7, 3) := by decide +kernel
theorem dX2_mouth_39 : decode cX2_mouth 39 = .ok (.invokestatic 47, 3) := by decide +kernel
theorem dX2_mouth_42 : decode cX2_mouth 42 = .ok (.ifCond .eq 7, 3) := by decide +kernel
theorem dX2_mouth_45 : decode cX2_mouth 45 = .ok (.iconst 0, 1) := by decide +kernel
theorem dX2_mouth_46 : decode cX2_mouth 46 = .ok (.goto 4, 3) := by decide +kernel
theorem dX2_mouth_49 : decode cX2_mouth 49 = .ok (.iconst 3, 1) := by decide +kernel
theorem dX2_mouth_50 : decode cX2_mouth 50 = .ok (.putfield 31, 3) := by decide +kernel
theorem dX2_mouth_53 : decode cX2_mouth 53 = .ok (.aload_n 0, 1) := by decide +kernel
theorem dX2_mouth_54 : decode cX2_mouth 54 = .ok (.getfield 31, 3) := by decide +kernel
theorem dX2_mouth_57 : decode cX2_mouth 57 = .ok (.ifCond .le 5, 3) := by decide +kernel
theorem dX2_mouth_60 : decode cX2_mouth 60 = .ok (.lconst 0, 1) := by decide +kernel
theorem dX2_mouth_61 : decode cX2_mouth 61 = .ok (.lreturn, 1) := by decide +kernel
theorem dX2_mouth_62 : decode cX2_mouth 62 = .ok (.aload_n 0, 1) := by decide +kernel
theorem dX2_mouth_63 : decode cX2_mouth 63 = .ok (.lload_n 2, 1) := by decide +kernel
theorem dX2_mouth_64 : decode cX2_mouth 64 = .ok (.aload_n 0, 1) := by decide +kernel
theorem dX2_mouth_65 : decode cX2_mouth 65 = .ok (.getfield 24, 3) := by decide +kernel
theorem dX2_mouth_68 : decode cX2_mouth 68 = .ok (.iload_n 1, 1) := by decide +kernel
theorem dX2_mouth_69 : decode cX2_mouth 69 = .ok (.laload, 1) := by decide +kernel
theorem dX2_mouth_70 : decode cX2_mouth 70 = .ok (.lmul, 1) := by decide +kernel
theorem dX2_mouth_71 : decode cX2_mouth 71 = .ok (.aload_n 0, 1) := by decide +kernel
theorem dX2_mouth_72 : decode cX2_mouth 72 = .ok (.getfield 20, 3) := by decide +kernel
theorem dX2_mouth_75 : decode cX2_mouth 75 = .ok (.iload_n 1, 1) := by decide +kernel
theorem dX2_mouth_76 : decode cX2_mouth 76 = .ok (.laload, 1) := by decide +kernel
theorem dX2_mouth_77 : decode cX2_mouth 77 = .ok (.invokevirtual 41, 3) := by decide +kernel
theorem dX2_mouth_80 : decode cX2_mouth 80 = .ok (.aload_n 0, 1) := by decide +kernel
theorem dX2_mouth_81 : decode cX2_mouth 81 = .ok (.iload 4, 2) := by decide +kernel
theorem dX2_mouth_83 : decode cX2_mouth 83 = .ok (.invokevirtual 65, 3) := by decide +kernel
theorem dX2_mouth_86 : decode cX2_mouth 86 = .ok (.lreturn, 1) := by decide +kernel
theorem dX2_top_0 : decode cX2_top 0 = .ok (.iload_n 1, 1) := by decide +kernel
theorem dX2_top_1 : decode cX2_top 1 = .ok (.iconst 2, 1) := by decide +kernel
theorem dX2_top_2 : decode cX2_top 2 = .ok (.iadd, 1) := by decide +kernel
theorem dX2_top_3 : decode cX2_top 3 = .ok (.istore_n 2, 1) := by decide +kernel
theorem dX2_top_4 : decode cX2_top 4 = .ok (.aload_n 0, 1) := by decide +kernel
theorem dX2_top_5 : decode cX2_top 5 = .ok (.iload_n 1, 1) := by decide +kernel
theorem dX2_top_6 : decode cX2_top 6 = .ok (.invokevirtual 78, 3) := by decide +kernel
theorem dX2_top_9 : decode cX2_top 9 = .ok (.lstore_n 3, 1) := by decide +kernel
theorem dX2_top_10 : decode cX2_top 10 = .ok (.aload_n 0, 1) := by decide +kernel
theorem dX2_top_11 : decode cX2_top 11 = .ok (.getfield 27, 3) := by decide +kernel
theorem dX2_top_14 : decode cX2_top 14 = .ok (.iload_n 1, 1) := by decide +kernel
theorem dX2_top_15 : decode cX2_top 15 = .ok (.baload, 1) := by decide +kernel
theorem dX2_top_16 : decode cX2_top 16 = .ok (.ifCond .eq 14, 3) := by decide +kernel
theorem dX2_top_19 : decode cX2_top 19 = .ok (.aload_n 0, 1) := by decide +kernel
theorem dX2_top_20 : decode cX2_top 20 = .ok (.getfield 27, 3) := by decide +kernel
theorem dX2_top_23 : decode cX2_top 23 = .ok (.iload_n 2, 1) := by decide +kernel
theorem dX2_top_24 : decode cX2_top 24 = .ok (.baload, 1) := by decide +kernel
theorem dX2_top_25 : decode cX2_top 25 = .ok (.ifCond .eq 5, 3) := by decide +kernel
theorem dX2_top_28 : decode cX2_top 28 = .ok (.iconst 0, 1) := by decide +kernel
theorem dX2_top_29 : decode cX2_top 29 = .ok (.ireturn, 1) := by decide +kernel
theorem dX2_top_30 : decode cX2_top 30 = .ok (.aload_n 0, 1) := by decide +kernel
theorem dX2_top_31 : decode cX2_top 31 = .ok (.getfield 27, 3) := by decide +kernel
theorem dX2_top_34 : decode cX2_top 34 = .ok (.iload_n 1, 1) := by decide +kernel
theorem dX2_top_35 : decode cX2_top 35 = .ok (.baload, 1) := by decide +kernel
theorem dX2_top_36 : decode cX2_top 36 = .ok (.ifCond .ne 12, 3) := by decide +kernel
theorem dX2_top_39 : decode cX2_top 39 = .ok (.aload_n 0, 1) := by decide +kernel
theorem dX2_top_40 : decode cX2_top 40 = .ok (.getfield 27, 3) := by decide +kernel
theorem dX2_top_43 : decode cX2_top 43 = .ok (.iload_n 2, 1) := by decide +kernel
theorem dX2_top_44 : decode cX2_top 44 = .ok (.baload, 1) := by decide +kernel
theorem dX2_top_45 : decode cX2_top 45 = .ok (.ifCond .eq 42, 3) := by decide +kernel
theorem dX2_top_48 : decode cX2_top 48 = .ok (.aload_n 0, 1) := by decide +kernel
theorem dX2_top_49 : decode cX2_top 49 = .ok (.getfield 27, 3) := by decide +kernel
theorem dX2_top_52 : decode cX2_top 52 = .ok (.iload_n 1, 1) := by decide +kernel
theorem dX2_top_53 : decode cX2_top 53 = .ok (.baload, 1) := by decide +kernel
theorem dX2_top_54 : decode cX2_top 54 = .ok (.ifCond .eq 7, 3) := by decide +kernel
theorem dX2_top_57 : decode cX2_top 57 = .ok (.iload_n 2, 1) := by decide +kernel
theorem dX2_top_58 : decode cX2_top 58 = .ok (.goto 4, 3) := by decide +kernel
theorem dX2_top_61 : decode cX2_top 61 = .ok (.iload_n 1, 1) := by decide +kernel
theorem dX2_top_62 : decode cX2_top 62 = .ok (.istore 5, 2) := by decide +kernel
theorem dX2_top_64 : decode cX2_top 64 = .ok (.aload_n 0, 1) := by decide +kernel
theorem dX2_top_65 : decode cX2_top 65 = .ok (.lload_n 3, 1) := by decide +kernel
theorem dX2_top_66 : decode cX2_top 66 = .ok (.aload_n 0, 1) := by decide +kernel
theorem dX2_top_67 : decode cX2_top 67 = .ok (.getfield 20, 3) := by decide +kernel
theorem dX2_top_70 : decode cX2_top 70 = .ok (.iload 5, 2) := by decide +kernel
theorem dX2_top_72 : decode cX2_top 72 = .ok (.laload, 1) := by decide +kernel
theorem dX2_top_73 : decode cX2_top 73 = .ok (.lmul, 1) := by decide +kernel
theorem dX2_top_74 : decode cX2_top 74 = .ok (.aload_n 0, 1) := by decide +kernel
theorem dX2_top_75 : decode cX2_top 75 = .ok (.getfield 24, 3) := by decide +kernel
theorem dX2_top_78 : decode cX2_top 78 = .ok (.iload 5, 2) := by decide +kernel
theorem dX2_top_80 : decode cX2_top 80 = .ok (.laload, 1) := by decide +kernel
theorem dX2_top_81 : decode cX2_top 81 = .ok (.invokevirtual 41, 3) := by decide +kernel
theorem dX2_top_84 : decode cX2_top 84 = .ok (.goto 49, 3) := by decide +kernel
theorem dX2_top_87 : decode cX2_top 87 = .ok (.aload_n 0, 1) := by decide +kernel
theorem dX2_top_88 : decode cX2_top 88 = .ok (.lload_n 3, 1) := by decide +kernel
theorem dX2_top_89 : decode cX2_top 89 = .ok (.aload_n 0, 1) := by decide +kernel
theorem dX2_top_90 : decode cX2_top 90 = .ok (.getfield 20, 3) := by decide +kernel
theorem dX2_top_93 : decode cX2_top 93 = .ok (.iload_n 1, 1) := by decide +kernel
theorem dX2_top_94 : decode cX2_top 94 = .ok (.laload, 1) := by decide +kernel
theorem dX2_top_95 : decode cX2_top 95 = .ok (.lmul, 1) := by decide +kernel
theorem dX2_top_96 : decode cX2_top 96 = .ok (.aload_n 0, 1) := by decide +kernel
theorem dX2_top_97 : decode cX2_top 97 = .ok (.getfield 20, 3) := by decide +kernel
theorem dX2_top_100 : decode cX2_top 100 = .ok (.iload_n 2, 1) := by decide +kernel
theorem dX2_top_101 : decode cX2_top 101 = .ok (.laload, 1) := by decide +kernel
theorem dX2_top_102 : decode cX2_top 102 = .ok (.lmul, 1) := by decide +kernel
theorem dX2_top_103 : decode cX2_top 103 = .ok (.aload_n 0, 1) := by decide +kernel
theorem dX2_top_104 : decode cX2_top 104 = .ok (.getfield 20, 3) := by decide +kernel
theorem dX2_top_107 : decode cX2_top 107 = .ok (.iload_n 1, 1) := by decide +kernel
theorem dX2_top_108 : decode cX2_top 108 = .ok (.laload, 1) := by decide +kernel
theorem dX2_top_109 : decode cX2_top 109 = .ok (.aload_n 0, 1) := by decide +kernel
theorem dX2_top_110 : decode cX2_top 110 = .ok (.getfield 24, 3) := by decide +kernel
theorem dX2_top_113 : decode cX2_top 113 = .ok (.iload_n 2, 1) := by decide +kernel
theorem dX2_top_114 : decode cX2_top 114 = .ok (.laload, 1) := by decide +kernel
theorem dX2_top_115 : decode cX2_top 115 = .ok (.lmul, 1) := by decide +kernel
theorem dX2_top_116 : decode cX2_top 116 = .ok (.aload_n 0, 1) := by decide +kernel
theorem dX2_top_117 : decode cX2_top 117 = .ok (.getfield 20, 3) := by decide +kernel
theorem dX2_top_120 : decode cX2_top 120 = .ok (.iload_n 2, 1) := by decide +kernel
theorem dX2_top_121 : decode cX2_top 121 = .ok (.laload, 1) := by decide +kernel
theorem dX2_top_122 : decode cX2_top 122 = .ok (.aload_n 0, 1) := by decide +kernel
theorem dX2_top_123 : decode cX2_top 123 = .ok (.getfield 24, 3) := by decide +kernel
theorem dX2_top_126 : decode cX2_top 126 = .ok (.iload_n 1, 1) := by decide +kernel
theorem dX2_top_127 : decode cX2_top 127 = .ok (.laload, 1) := by decide +kernel
theorem dX2_top_128 : decode cX2_top 128 = .ok (.lmul, 1) := by decide +kernel
theorem dX2_top_129 : decode cX2_top 129 = .ok (.ladd, 1) := by decide +kernel
theorem dX2_top_130 : decode cX2_top 130 = .ok (.invokevirtual 41, 3) := by decide +kernel
theorem dX2_top_133 : decode cX2_top 133 = .ok (.iconst 1, 1) := by decide +kernel
theorem dX2_top_134 : decode cX2_top 134 = .ok (.ireturn, 1) := by decide +kernel
theorem dX2_makePeak_0 : decode cX2_makePeak 0 = .ok (.aload_n 0, 1) := by decide +kernel
theorem dX2_makePeak_1 : decode cX2_makePeak 1 = .ok (.iconst 0, 1) := by decide +kernel
theorem dX2_makePeak_2 : decode cX2_makePeak 2 = .ok (.invokevirtual 94, 3) := by decide +kernel
theorem dX2_makePeak_5 : decode cX2_makePeak 5 = .ok (.istore_n 1, 1) := by decide +kernel
theorem dX2_makePeak_6 : decode cX2_makePeak 6 = .ok (.aload_n 0, 1) := by decide +kernel
theorem dX2_makePeak_7 : decode cX2_makePeak 7 = .ok (.getfield 35, 3) := by decide +kernel
theorem dX2_makePeak_10 : decode cX2_makePeak 10 = .ok (.lstore_n 2, 1) := by decide +kernel
theorem dX2_makePeak_11 : decode cX2_makePeak 11 = .ok (.aload_n 0, 1) := by decide +kernel
theorem dX2_makePeak_12 : decode cX2_makePeak 12 = .ok (.getfield 38, 3) := by decide +kernel
theorem dX2_makePeak_15 : decode cX2_makePeak 15 = .ok (.lstore 4, 2) := by decide +kernel
theorem dX2_makePeak_17 : decode cX2_makePeak 17 = .ok (.aload_n 0, 1) := by decide +kernel
theorem dX2_makePeak_18 : decode cX2_makePeak 18 = .ok (.iconst 1, 1) := by decide +kernel
theorem dX2_makePeak_19 : decode cX2_makePeak 19 = .ok (.invokevirtual 94, 3) := by decide +kernel
theorem dX2_makePeak_22 : decode cX2_makePeak 22 = .ok (.ifCond .eq 17, 3) := by decide +kernel
theorem dX2_makePeak_25 : decode cX2_makePeak 25 = .ok (.iload_n 1, 1) := by decide +kernel
theorem dX2_makePeak_26 : decode cX2_makePeak 26 = .ok (.ifCond .eq 13, 3) := by decide +kernel
theorem dX2_makePeak_29 : decode cX2_makePeak 29 = .ok (.aload_n 0, 1) := by decide +kernel
theorem dX2_makePeak_30 : decode cX2_makePeak 30 = .ok (.lload_n 2, 1) := by decide +kernel
theorem dX2_makePeak_31 : decode cX2_makePeak 31 = .ok (.lload 4, 2) := by decide +kernel
theorem dX2_makePeak_33 : decode cX2_makePeak 33 = .ok (.invokevirtual 98, 3) := by decide +kernel
theorem dX2_makePeak_36 : decode cX2_makePeak 36 = .ok (.goto 18, 3) := by decide +kernel
theorem dX2_makePeak_39 : decode cX2_makePeak 39 = .ok (.iload_n 1, 1) := by decide +kernel
theorem dX2_makePeak_40 : decode cX2_makePeak 40 = .ok (.ifCond .eq 14, 3) := by decide +kernel
theorem dX2_makePeak_43 : decode cX2_makePeak 43 = .ok (.aload_n 0, 1) := by decide +kernel
theorem dX2_makePeak_44 : decode cX2_makePeak 44 = .ok (.lload_n 2, 1) := by decide +kernel
theorem dX2_makePeak_45 : decode cX2_makePeak 45 = .ok (.putfield 35, 3) := by decide +kernel
theorem dX2_makePeak_48 : decode cX2_makePeak 48 = .ok (.aload_n 0, 1) := by decide +kernel
theorem dX2_makePeak_49 : decode cX2_makePeak 49 = .ok (.lload 4, 2) := by decide +kernel
theorem dX2_makePeak_51 : decode cX2_makePeak 51 = .ok (.putfield 38, 3) := by decide +kernel
theorem dX2_makePeak_54 : decode cX2_makePeak 54 = .ok (.return_, 1) := by decide +kernel
theorem dX2_peak_0 : decode cX2_peak 0 = .ok (.aload_n 0, 1) := by decide +kernel
theorem dX2_peak_1 : decode cX2_peak 1 = .ok (.iload_n 1, 1) := by decide +kernel
theorem dX2_peak_2 : decode cX2_peak 2 = .ok (.ifCond .lt 8, 3) := by decide +kernel
theorem dX2_peak_5 : decode cX2_peak 5 = .ok (.iload_n 1, 1) := by decide +kernel
theorem dX2_peak_6 : decode cX2_peak 6 = .ok (.iconst 1, 1) := by decide +kernel
theorem dX2_peak_7 : decode cX2_peak 7 = .ok (.if_icmp .le 7, 3) := by decide +kernel
theorem dX2_peak_10 : decode cX2_peak 10 = .ok (.iconst 1, 1) := by decide +kernel
theorem dX2_peak_11 : decode cX2_peak 11 = .ok (.goto 4, 3) := by decide +kernel
theorem dX2_peak_14 : decode cX2_peak 14 = .ok (.iconst 0, 1) := by decide +kernel
theorem dX2_peak_15 : decode cX2_peak 15 = .ok (.putfield 31, 3) := by decide +kernel
theorem dX2_peak_18 : decode cX2_peak 18 = .ok (.aload_n 0, 1) := by decide +kernel
theorem dX2_peak_19 : decode cX2_peak 19 = .ok (.getfield 31, 3) := by decide +kernel
theorem dX2_peak_22 : decode cX2_peak 22 = .ok (.ifCond .le 5, 3) := by decide +kernel
theorem dX2_peak_25 : decode cX2_peak 25 = .ok (.lconst 0, 1) := by decide +kernel
theorem dX2_peak_26 : decode cX2_peak 26 = .ok (.lreturn, 1) := by decide +kernel
theorem dX2_peak_27 : decode cX2_peak 27 = .ok (.aload_n 0, 1) := by decide +kernel
theorem dX2_peak_28 : decode cX2_peak 28 = .ok (.invokevirtual 101, 3) := by decide +kernel
theorem dX2_peak_31 : decode cX2_peak 31 = .ok (.aload_n 0, 1) := by decide +kernel
theorem dX2_peak_32 : decode cX2_peak 32 = .ok (.iload_n 1, 1) := by decide +kernel
theorem dX2_peak_33 : decode cX2_peak 33 = .ok (.invokevirtual 65, 3) := by decide +kernel
theorem dX2_peak_36 : decode cX2_peak 36 = .ok (.lreturn, 1) := by decide +kernel
theorem dX2_makeFar_0 : decode cX2_makeFar 0 = .ok (.aload_n 0, 1) := by decide +kernel
theorem dX2_makeFar_1 : decode cX2_makeFar 1 = .ok (.invokevirtual 101, 3) := by decide +kernel
theorem dX2_makeFar_4 : decode cX2_makeFar 4 = .ok (.aload_n 0, 1) := by decide +kernel
theorem dX2_makeFar_5 : decode cX2_makeFar 5 = .ok (.getfield 27, 3) := by decide +kernel
theorem dX2_makeFar_8 : decode cX2_makeFar 8 = .ok (.iload_n 1, 1) := by decide +kernel
theorem dX2_makeFar_9 : decode cX2_makeFar 9 = .ok (.baload, 1) := by decide +kernel
theorem dX2_makeFar_10 : decode cX2_makeFar 10 = .ok (.ifCond .eq 12, 3) := by decide +kernel
theorem dX2_makeFar_13 : decode cX2_makeFar 13 = .ok (.aload_n 0, 1) := by decide +kernel
theorem dX2_makeFar_14 : decode cX2_makeFar 14 = .ok (.lconst 0, 1) := by decide +kernel
theorem dX2_makeFar_15 : decode cX2_makeFar 15 = .ok (.lconst 1, 1) := by decide +kernel
theorem dX2_makeFar_16 : decode cX2_makeFar 16 = .ok (.invokevirtual 41, 3) := by decide +kernel
theorem dX2_makeFar_19 : decode cX2_makeFar 19 = .ok (.goto 29, 3) := by decide +kernel
theorem dX2_makeFar_22 : decode cX2_makeFar 22 = .ok (.aload_n 0, 1) := by decide +kernel
theorem dX2_makeFar_23 : decode cX2_makeFar 23 = .ok (.aload_n 0, 1) := by decide +kernel
theorem dX2_makeFar_24 : decode cX2_makeFar 24 = .ok (.getfield 35, 3) := by decide +kernel
theorem dX2_makeFar_27 : decode cX2_makeFar 27 = .ok (.aload_n 0, 1) := by decide +kernel
theorem dX2_makeFar_28 : decode cX2_makeFar 28 = .ok (.getfield 24, 3) := by decide +kernel
theorem dX2_makeFar_31 : decode cX2_makeFar 31 = .ok (.iload_n 1, 1) := by decide +kernel
theorem dX2_makeFar_32 : decode cX2_makeFar 32 = .ok (.laload, 1) := by decide +kernel
theorem dX2_makeFar_33 : decode cX2_makeFar 33 = .ok (.lmul, 1) := by decide +kernel
theorem dX2_makeFar_34 : decode cX2_makeFar 34 = .ok (.aload_n 0, 1) := by decide +kernel
theorem dX2_makeFar_35 : decode cX2_makeFar 35 = .ok (.getfield 38, 3) := by decide +kernel
theorem dX2_makeFar_38 : decode cX2_makeFar 38 = .ok (.aload_n 0, 1) := by decide +kernel
theorem dX2_makeFar_39 : decode cX2_makeFar 39 = .ok (.getfield 20, 3) := by decide +kernel
theorem dX2_makeFar_42 : decode cX2_makeFar 42 = .ok (.iload_n 1, 1) := by decide +kernel
theorem dX2_makeFar_43 : decode cX2_makeFar 43 = .ok (.laload, 1) := by decide +kernel
theorem dX2_makeFar_44 : decode cX2_makeFar 44 = .ok (.lmul, 1) := by decide +kernel
theorem dX2_makeFar_45 : decode cX2_makeFar 45 = .ok (.invokevirtual 41, 3) := by decide +kernel
theorem dX2_makeFar_48 : decode cX2_makeFar 48 = .ok (.return_, 1) := by decide +kernel
theorem dX2_ridge_0 : decode cX2_ridge 0 = .ok (.aload_n 0, 1) := by decide +kernel
theorem dX2_ridge_1 : decode cX2_ridge 1 = .ok (.iload_n 1, 1) := by decide +kernel
theorem dX2_ridge_2 : decode cX2_ridge 2 = .ok (.ifCond .lt 17, 3) := by decide +kernel
theorem dX2_ridge_5 : decode cX2_ridge 5 = .ok (.iload_n 1, 1) := by decide +kernel
theorem dX2_ridge_6 : decode cX2_ridge 6 = .ok (.iconst 3, 1) := by decide +kernel
theorem dX2_ridge_7 : decode cX2_ridge 7 = .ok (.if_icmp .gt 12, 3) := by decide +kernel
theorem dX2_ridge_10 : decode cX2_ridge 10 = .ok (.iload_n 2, 1) := by decide +kernel
theorem dX2_ridge_11 : decode cX2_ridge 11 = .ok (.ifCond .lt 8, 3) := by decide +kernel
theorem dX2_ridge_14 : decode cX2_ridge 14 = .ok (.iload_n 2, 1) := by decide +kernel
theorem dX2_ridge_15 : decode cX2_ridge 15 = .ok (.iconst 1, 1) := by decide +kernel
theorem dX2_ridge_16 : decode cX2_ridge 16 = .ok (.if_icmp .le 7, 3) := by decide +kernel
theorem dX2_ridge_19 : decode cX2_ridge 19 = .ok (.iconst 1, 1) := by decide +kernel
theorem dX2_ridge_20 : decode cX2_ridge 20 = .ok (.goto 4, 3) := by decide +kernel
theorem dX2_ridge_23 : decode cX2_ridge 23 = .ok (.iconst 0, 1) := by decide +kernel
theorem dX2_ridge_24 : decode cX2_ridge 24 = .ok (.putfield 31, 3) := by decide +kernel
theorem dX2_ridge_27 : decode cX2_ridge 27 = .ok (.aload_n 0, 1) := by decide +kernel
theorem dX2_ridge_28 : decode cX2_ridge 28 = .ok (.getfield 31, 3) := by decide +kernel
theorem dX2_ridge_31 : decode cX2_ridge 31 = .ok (.ifCond .le 5, 3) := by decide +kernel
theorem dX2_ridge_34 : decode cX2_ridge 34 = .ok (.lconst 0, 1) := by decide +kernel
theorem dX2_ridge_35 : decode cX2_ridge 35 = .ok (.lreturn, 1) := by decide +kernel
theorem dX2_ridge_36 : decode cX2_ridge 36 = .ok (.aload_n 0, 1) := by decide +kernel
theorem dX2_ridge_37 : decode cX2_ridge 37 = .ok (.iload_n 1, 1) := by decide +kernel
theorem dX2_ridge_38 : decode cX2_ridge 38 = .ok (.ifCond .ne 7, 3) := by decide +kernel
theorem dX2_ridge_41 : decode cX2_ridge 41 = .ok (.iconst 3, 1) := by decide +kernel
theorem dX2_ridge_42 : decode cX2_ridge 42 = .ok (.goto 22, 3) := by decide +kernel
theorem dX2_ridge_45 : decode cX2_ridge 45 = .ok (.iload_n 1, 1) := by decide +kernel
theorem dX2_ridge_46 : decode cX2_ridge 46 = .ok (.iconst 1, 1) := by decide +kernel
theorem dX2_ridge_47 : decode cX2_ridge 47 = .ok (.if_icmp .ne 7, 3) := by decide +kernel
theorem dX2_ridge_50 : decode cX2_ridge 50 = .ok (.iconst 1, 1) := by decide +kernel
theorem dX2_ridge_51 : decode cX2_ridge 51 = .ok (.goto 13, 3) := by decide +kernel
theorem dX2_ridge_54 : decode cX2_ridge 54 = .ok (.iload_n 1, 1) := by decide +kernel
theorem dX2_ridge_55 : decode cX2_ridge 55 = .ok (.iconst 2, 1) := by decide +kernel
theorem dX2_ridge_56 : decode cX2_ridge 56 = .ok (.if_icmp .ne 7, 3) := by decide +kernel
theorem dX2_ridge_59 : decode cX2_ridge 59 = .ok (.iconst 0, 1) := by decide +kernel
theorem dX2_ridge_60 : decode cX2_ridge 60 = .ok (.goto 4, 3) := by decide +kernel
theorem dX2_ridge_63 : decode cX2_ridge 63 = .ok (.iconst 2, 1) := by decide +kernel
theorem dX2_ridge_64 : decode cX2_ridge 64 = .ok (.invokevirtual 104, 3) := by decide +kernel
theorem dX2_ridge_67 : decode cX2_ridge 67 = .ok (.iload_n 1, 1) := by decide +kernel
theorem dX2_ridge_68 : decode cX2_ridge 68 = .ok (.iconst 2, 1) := by decide +kernel
theorem dX2_ridge_69 : decode cX2_ridge 69 = .ok (.irem, 1) := by decide +kernel
theorem dX2_ridge_70 : decode cX2_ridge 70 = .ok (.iconst 1, 1) := by decide +kernel
theorem dX2_ridge_71 : decode cX2_ridge 71 = .ok (.if_icmp .ne 39, 3) := by decide +kernel
theorem dX2_ridge_74 : decode cX2_ridge 74 = .ok (.iload_n 1, 1) := by decide +kernel
theorem dX2_ridge_75 : decode cX2_ridge 75 = .ok (.iconst 1, 1) := by decide +kernel
theorem dX2_ridge_76 : decode cX2_ridge 76 = .ok (.if_icmp .ne 10, 3) := by decide +kernel
theorem dX2_ridge_79 : decode cX2_ridge 79 = .ok (.aload_n 0, 1) := by decide +kernel
theorem dX2_ridge_80 : decode cX2_ridge 80 = .ok (.getfield 9, 3) := by decide +kernel
theorem dX2_ridge_83 : decode cX2_ridge 83 = .ok (.goto 7, 3) := by decide +kernel
theorem dX2_ridge_86 : decode cX2_ridge 86 = .ok (.aload_n 0, 1) := by decide +kernel
theorem dX2_ridge_87 : decode cX2_ridge 87 = .ok (.getfield 17, 3) := by decide +kernel
theorem dX2_ridge_90 : decode cX2_ridge 90 = .ok (.lstore_n 3, 1) := by decide +kernel
theorem dX2_ridge_91 : decode cX2_ridge 91 = .ok (.aload_n 0, 1) := by decide +kernel
theorem dX2_ridge_92 : decode cX2_ridge 92 = .ok (.lload_n 3, 1) := by decide +kernel
theorem dX2_ridge_93 : decode cX2_ridge 93 = .ok (.aload_n 0, 1) := by decide +kernel
theorem dX2_ridge_94 : decode cX2_ridge 94 = .ok (.getfield 38, 3) := by decide +kernel
theorem dX2_ridge_97 : decode cX2_ridge 97 = .ok (.lmul, 1) := by decide +kernel
theorem dX2_ridge_98 : decode cX2_ridge 98 = .ok (.aload_n 0, 1) := by decide +kernel
theorem dX2_ridge_99 : decode cX2_ridge 99 = .ok (.getfield 35, 3) := by decide +kernel
theorem dX2_ridge_102 : decode cX2_ridge 102 = .ok (.lsub, 1) := by decide +kernel
theorem dX2_ridge_103 : decode cX2_ridge 103 = .ok (.aload_n 0, 1) := by decide +kernel
theorem dX2_ridge_104 : decode cX2_ridge 104 = .ok (.getfield 38, 3) := by decide +kernel
theorem dX2_ridge_107 : decode cX2_ridge 107 = .ok (.invokevirtual 41, 3) := by decide +kernel
theorem dX2_ridge_110 : decode cX2_ridge 110 = .ok (.aload_n 0, 1) := by decide +kernel
theorem dX2_ridge_111 : decode cX2_ridge 111 = .ok (.iload_n 2, 1) := by decide +kernel
theorem dX2_ridge_112 : decode cX2_ridge 112 = .ok (.invokevirtual 65, 3) := by decide +kernel
theorem dX2_ridge_115 : decode cX2_ridge 115 = .ok (.lreturn, 1) := by decide +kernel
theorem dX2_hip_0 : decode cX2_hip 0 = .ok (.iload_n 1, 1) := by decide +kernel
theorem dX2_hip_1 : decode cX2_hip 1 = .ok (.i2l, 1) := by decide +kernel
theorem dX2_hip_2 : decode cX2_hip 2 = .ok (.lconst 0, 1) := by decide +kernel
theorem dX2_hip_3 : decode cX2_hip 3 = .ok (.ldc2_w 108, 3) := by decide +kernel
theorem dX2_hip_6 : decode cX2_hip 6 = .ok (.invokestatic 47, 3) := by decide +kernel
theorem dX2_hip_9 : decode cX2_hip 9 = .ok (.ifCond .eq 27, 3) := by decide +kernel
theorem dX2_hip_12 : decode cX2_hip 12 = .ok (.iload_n 2, 1) := by decide +kernel
theorem dX2_hip_13 : decode cX2_hip 13 = .ok (.i2l, 1) := by decide +kernel
theorem dX2_hip_14 : decode cX2_hip 14 = .ok (.lconst 0, 1) := by decide +kernel
theorem dX2_hip_15 : decode cX2_hip 15 = .ok (.lconst 1, 1) := by decide +kernel
theorem dX2_hip_16 : decode cX2_hip 16 = .ok (.invokestatic 47, 3) := by decide +kernel
theorem dX2_hip_19 : decode cX2_hip 19 = .ok (.ifCond .eq 17, 3) := by decide +kernel
theorem dX2_hip_22 : decode cX2_hip 22 = .ok (.iload_n 3, 1) := by decide +kernel
theorem dX2_hip_23 : decode cX2_hip 23 = .ok (.i2l, 1) := by decide +kernel
theorem dX2_hip_24 : decode cX2_hip 24 = .ok (.lconst 0, 1) := by decide +kernel
theorem dX2_hip_25 : decode cX2_hip 25 = .ok (.lconst 1, 1) := by decide +kernel
theorem dX2_hip_26 : decode cX2_hip 26 = .ok (.invokestatic 47, 3) := by decide +kernel
theorem dX2_hip_29 : decode cX2_hip 29 = .ok (.ifCond .eq 7, 3) := by decide +kernel
theorem dX2_hip_32 : decode cX2_hip 32 = .ok (.iconst 1, 1) := by decide +kernel
theorem dX2_hip_33 : decode cX2_hip 33 = .ok (.goto 4, 3) := by decide +kernel
theorem dX2_hip_36 : decode cX2_hip 36 = .ok (.iconst 0, 1) := by decide +kernel
theorem dX2_hip_37 : decode cX2_hip 37 = .ok (.istore 4, 2) := by decide +kernel
theorem dX2_hip_39 : decode cX2_hip 39 = .ok (.aload_n 0, 1) := by decide +kernel
theorem dX2_hip_40 : decode cX2_hip 40 = .ok (.iload 4, 2) := by decide +kernel
theorem dX2_hip_42 : decode cX2_hip 42 = .ok (.ifCond .ne 7, 3) := by decide +kernel
theorem dX2_hip_45 : decode cX2_hip 45 = .ok (.iconst 1, 1) := by decide +kernel
theorem dX2_hip_46 : decode cX2_hip 46 = .ok (.goto 30, 3) := by decide +kernel
theorem dX2_hip_49 : decode cX2_hip 49 = .ok (.aload_n 0, 1) := by decide +kernel
theorem dX2_hip_50 : decode cX2_hip 50 = .ok (.getfield 27, 3) := by decide +kernel
theorem dX2_hip_53 : decode cX2_hip 53 = .ok (.iload_n 1, 1) := by decide +kernel
theorem dX2_hip_54 : decode cX2_hip 54 = .ok (.baload, 1) := by decide +kernel
theorem dX2_hip_55 : decode cX2_hip 55 = .ok (.ifCond .ne 16, 3) := by decide +kernel
theorem dX2_hip_58 : decode cX2_hip 58 = .ok (.aload_n 0, 1) := by decide +kernel
theorem dX2_hip_59 : decode cX2_hip 59 = .ok (.getfield 27, 3) := by decide +kernel
theorem dX2_hip_62 : decode cX2_hip 62 = .ok (.iload_n 1, 1) := by decide +kernel
theorem dX2_hip_63 : decode cX2_hip 63 = .ok (.iconst 1, 1) := by decide +kernel
theorem dX2_hip_64 : decode cX2_hip 64 = .ok (.iadd, 1) := by decide +kernel
theorem dX2_hip_65 : decode cX2_hip 65 = .ok (.iconst 4, 1) := by decide +kernel
theorem dX2_hip_66 : decode cX2_hip 66 = .ok (.irem, 1) := by decide +kernel
theorem dX2_hip_67 : decode cX2_hip 67 = .ok (.baload, 1) := by decide +kernel
theorem dX2_hip_68 : decode cX2_hip 68 = .ok (.ifCond .eq 7, 3) := by decide +kernel
theorem dX2_hip_71 : decode cX2_hip 71 = .ok (.iconst 2, 1) := by decide +kernel
theorem dX2_hip_72 : decode cX2_hip 72 = .ok (.goto 4, 3) := by decide +kernel
theorem dX2_hip_75 : decode cX2_hip 75 = .ok (.iconst 0, 1) := by decide +kernel
theorem dX2_hip_76 : decode cX2_hip 76 = .ok (.putfield 31, 3) := by decide +kernel
theorem dX2_hip_79 : decode cX2_hip 79 = .ok (.aload_n 0, 1) := by decide +kernel
theorem dX2_hip_80 : decode cX2_hip 80 = .ok (.getfield 31, 3) := by decide +kernel
theorem dX2_hip_83 : decode cX2_hip 83 = .ok (.ifCond .le 5, 3) := by decide +kernel
theorem dX2_hip_86 : decode cX2_hip 86 = .ok (.lconst 0, 1) := by decide +kernel
theorem dX2_hip_87 : decode cX2_hip 87 = .ok (.lreturn, 1) := by decide +kernel
theorem dX2_hip_88 : decode cX2_hip 88 = .ok (.aload_n 0, 1) := by decide +kernel
theorem dX2_hip_89 : decode cX2_hip 89 = .ok (.iload_n 2, 1) := by decide +kernel
theorem dX2_hip_90 : decode cX2_hip 90 = .ok (.ifCond .ne 7, 3) := by decide +kernel
theorem dX2_hip_93 : decode cX2_hip 93 = .ok (.iload_n 1, 1) := by decide +kernel
theorem dX2_hip_94 : decode cX2_hip 94 = .ok (.goto 8, 3) := by decide +kernel
theorem dX2_hip_97 : decode cX2_hip 97 = .ok (.iload_n 1, 1) := by decide +kernel
theorem dX2_hip_98 : decode cX2_hip 98 = .ok (.iconst 1, 1) := by decide +kernel
theorem dX2_hip_99 : decode cX2_hip 99 = .ok (.iadd, 1) := by decide +kernel
theorem dX2_hip_100 : decode cX2_hip 100 = .ok (.iconst 4, 1) := by decide +kernel
theorem dX2_hip_101 : decode cX2_hip 101 = .ok (.irem, 1) := by decide +kernel
theorem dX2_hip_102 : decode cX2_hip 102 = .ok (.invokevirtual 104, 3) := by decide +kernel
theorem dX2_hip_105 : decode cX2_hip 105 = .ok (.aload_n 0, 1) := by decide +kernel
theorem dX2_hip_106 : decode cX2_hip 106 = .ok (.iload_n 3, 1) := by decide +kernel
theorem dX2_hip_107 : decode cX2_hip 107 = .ok (.invokevirtual 65, 3) := by decide +kernel
theorem dX2_hip_110 : decode cX2_hip 110 = .ok (.lreturn, 1) := by decide +kernel
theorem dX2_area_0 : decode cX2_area 0 = .ok (.aload_n 0, 1) := by decide +kernel
theorem dX2_area_1 : decode cX2_area 1 = .ok (.iload_n 2, 1) := by decide +kernel
theorem dX2_area_2 : decode cX2_area 2 = .ok (.ifCond .lt 8, 3) := by decide +kernel
theorem dX2_area_5 : decode cX2_area 5 = .ok (.iload_n 2, 1) := by decide +kernel
theorem dX2_area_6 : decode cX2_area 6 = .ok (.iconst 1, 1) := by decide +kernel
theorem dX2_area_7 : decode cX2_area 7 = .ok (.if_icmp .le 7, 3) := by decide +kernel
theorem dX2_area_10 : decode cX2_area 10 = .ok (.iconst 1, 1) := by decide +kernel
theorem dX2_area_11 : decode cX2_area 11 = .ok (.goto 8, 3) := by decide +kernel
theorem dX2_area_14 : decode cX2_area 14 = .ok (.aload_n 0, 1) := by decide +kernel
theorem dX2_area_15 : decode cX2_area 15 = .ok (.iload_n 1, 1) := by decide +kernel
theorem dX2_area_16 : decode cX2_area 16 = .ok (.invokevirtual 69, 3) := by decide +kernel
theorem dX2_area_19 : decode cX2_area 19 = .ok (.putfield 31, 3) := by decide +kernel
theorem dX2_area_22 : decode cX2_area 22 = .ok (.aload_n 0, 1) := by decide +kernel
theorem dX2_area_23 : decode cX2_area 23 = .ok (.getfield 31, 3) := by decide +kernel
theorem dX2_area_26 : decode cX2_area 26 = .ok (.ifCond .le 5, 3) := by decide +kernel
theorem dX2_area_29 : decode cX2_area 29 = .ok (.lconst 0, 1) := by decide +kernel
theorem dX2_area_30 : decode cX2_area 30 = .ok (.lreturn, 1) := by decide +kernel
theorem dX2_area_31 : decode cX2_area 31 = .ok (.aload_n 0, 1) := by decide +kernel
theorem dX2_area_32 : decode cX2_area 32 = .ok (.iload_n 1, 1) := by decide +kernel
theorem dX2_area_33 : decode cX2_area 33 = .ok (.invokevirtual 104, 3) := by decide +kernel
theorem dX2_area_36 : decode cX2_area 36 = .ok (.aload_n 0, 1) := by decide +kernel
theorem dX2_area_37 : decode cX2_area 37 = .ok (.getfield 35, 3) := by decide +kernel
theorem dX2_area_40 : decode cX2_area 40 = .ok (.lstore_n 3, 1) := by decide +kernel
theorem dX2_area_41 : decode cX2_area 41 = .ok (.aload_n 0, 1) := by decide +kernel
theorem dX2_area_42 : decode cX2_area 42 = .ok (.getfield 38, 3) := by decide +kernel
theorem dX2_area_45 : decode cX2_area 45 = .ok (.lstore 5, 2) := by decide +kernel
theorem dX2_area_47 : decode cX2_area 47 = .ok (.lconst 0, 1) := by decide +kernel
theorem dX2_area_48 : decode cX2_area 48 = .ok (.lstore 7, 2) := by decide +kernel
theorem dX2_area_50 : decode cX2_area 50 = .ok (.lconst 1, 1) := by decide +kernel
theorem dX2_area_51 : decode cX2_area 51 = .ok (.lstore 9, 2) := by decide +kernel
theorem dX2_area_53 : decode cX2_area 53 = .ok (.iconst 1, 1) := by decide +kernel
theorem dX2_area_54 : decode cX2_area 54 = .ok (.istore 11, 2) := by decide +kernel
theorem dX2_area_56 : decode cX2_area 56 = .ok (.iload 11, 2) := by decide +kernel
theorem dX2_area_58 : decode cX2_area 58 = .ok (.iconst 4, 1) := by decide +kernel
theorem dX2_area_59 : decode cX2_area 59 = .ok (.if_icmp .ge 96, 3) := by decide +kernel
theorem dX2_area_62 : decode cX2_area 62 = .ok (.iload_n 1, 1) := by decide +kernel
theorem dX2_area_63 : decode cX2_area 63 = .ok (.iload 11, 2) := by decide +kernel
theorem dX2_area_65 : decode cX2_area 65 = .ok (.iadd, 1) := by decide +kernel
theorem dX2_area_66 : decode cX2_area 66 = .ok (.iconst 4, 1) := by decide +kernel
theorem dX2_area_67 : decode cX2_area 67 = .ok (.irem, 1) := by decide +kernel
theorem dX2_area_68 : decode cX2_area 68 = .ok (.istore 12, 2) := by decide +kernel
theorem dX2_area_70 : decode cX2_area 70 = .ok (.aload_n 0, 1) := by decide +kernel
theorem dX2_area_71 : decode cX2_area 71 = .ok (.getfield 27, 3) := by decide +kernel
theorem dX2_area_74 : decode cX2_area 74 = .ok (.iload 12, 2) := by decide +kernel
theorem dX2_area_76 : decode cX2_area 76 = .ok (.baload, 1) := by decide +kernel
theorem dX2_area_77 : decode cX2_area 77 = .ok (.ifCond .ne 72, 3) := by decide +kernel
theorem dX2_area_80 : decode cX2_area 80 = .ok (.lload_n 3, 1) := by decide +kernel
theorem dX2_area_81 : decode cX2_area 81 = .ok (.aload_n 0, 1) := by decide +kernel
theorem dX2_area_82 : decode cX2_area 82 = .ok (.getfield 20, 3) := by decide +kernel
theorem dX2_area_85 : decode cX2_area 85 = .ok (.iload_n 1, 1) := by decide +kernel
theorem dX2_area_86 : decode cX2_area 86 = .ok (.laload, 1) := by decide +kernel
theorem dX2_area_87 : decode cX2_area 87 = .ok (.lmul, 1) := by decide +kernel
theorem dX2_area_88 : decode cX2_area 88 = .ok (.aload_n 0, 1) := by decide +kernel
theorem dX2_area_89 : decode cX2_area 89 = .ok (.getfield 24, 3) := by decide +kernel
theorem dX2_area_92 : decode cX2_area 92 = .ok (.iload 12, 2) := by decide +kernel
theorem dX2_area_94 : decode cX2_area 94 = .ok (.laload, 1) := by decide +kernel
theorem dX2_area_95 : decode cX2_area 95 = .ok (.lmul, 1) := by decide +kernel
theorem dX2_area_96 : decode cX2_area 96 = .ok (.lstore 13, 2) := by decide +kernel
theorem dX2_area_98 : decode cX2_area 98 = .ok (.lload 5, 2) := by decide +kernel
theorem dX2_area_100 : decode cX2_area 100 = .ok (.aload_n 0, 1) := by decide +kernel
theorem dX2_area_101 : decode cX2_area 101 = .ok (.getfield 24, 3) := by decide +kernel
theorem dX2_area_104 : decode cX2_area 104 = .ok (.iload_n 1, 1) := by decide +kernel
theorem dX2_area_105 : decode cX2_area 105 = .ok (.laload, 1) := by decide +kernel
theorem dX2_area_106 : decode cX2_area 106 = .ok (.lmul, 1) := by decide +kernel
theorem dX2_area_107 : decode cX2_area 107 = .ok (.aload_n 0, 1) := by decide +kernel
theorem dX2_area_108 : decode cX2_area 108 = .ok (.getfield 20, 3) := by decide +kernel
theorem dX2_area_111 : decode cX2_area 111 = .ok (.iload 12, 2) := by decide +kernel
theorem dX2_area_113 : decode cX2_area 113 = .ok (.laload, 1) := by decide +kernel
theorem dX2_area_114 : decode cX2_area 114 = .ok (.lmul, 1) := by decide +kernel
theorem dX2_area_115 : decode cX2_area 115 = .ok (.lstore 15, 2) := by decide +kernel
theorem dX2_area_117 : decode cX2_area 117 = .ok (.aload_n 0, 1) := by decide +kernel
theorem dX2_area_118 : decode cX2_area 118 = .ok (.lload 7, 2) := by decide +kernel
theorem dX2_area_120 : decode cX2_area 120 = .ok (.lload 15, 2) := by decide +kernel
theorem dX2_area_122 : decode cX2_area 122 = .ok (.lmul, 1) := by decide +kernel
theorem dX2_area_123 : decode cX2_area 123 = .ok (.lload 13, 2) := by decide +kernel
theorem dX2_area_125 : decode cX2_area 125 = .ok (.lload 9, 2) := by decide +kernel
theorem dX2_area_127 : decode cX2_area 127 = .ok (.lmul, 1) := by decide +kernel
theorem dX2_area_128 : decode cX2_area 128 = .ok (.ladd, 1) := by decide +kernel
theorem dX2_area_129 : decode cX2_area 129 = .ok (.lload 9, 2) := by decide +kernel
theorem dX2_area_131 : decode cX2_area 131 = .ok (.lload 15, 2) := by decide +kernel
theorem dX2_area_133 : decode cX2_area 133 = .ok (.lmul, 1) := by decide +kernel
theorem dX2_area_134 : decode cX2_area 134 = .ok (.invokevirtual 41, 3) := by decide +kernel
theorem dX2_area_137 : decode cX2_area 137 = .ok (.aload_n 0, 1) := by decide +kernel
theorem dX2_area_138 : decode cX2_area 138 = .ok (.getfield 35, 3) := by decide +kernel
theorem dX2_area_141 : decode cX2_area 141 = .ok (.lstore 7, 2) := by decide +kernel
theorem dX2_area_143 : decode cX2_area 143 = .ok (.aload_n 0, 1) := by decide +kernel
theorem dX2_area_144 : decode cX2_area 144 = .ok (.getfield 38, 3) := by decide +kernel
theorem dX2_area_147 : decode cX2_area 147 = .ok (.lstore 9, 2) := by decide +kernel
theorem dX2_area_149 : decode cX2_area 149 = .ok (.iinc 11 2, 3) := by decide +kernel
theorem dX2_area_152 : decode cX2_area 152 = .ok (.goto (-96), 3) := by decide +kernel
theorem dX2_area_155 : decode cX2_area 155 = .ok (.aload_n 0, 1) := by decide +kernel
theorem dX2_area_156 : decode cX2_area 156 = .ok (.ldc2_w 110, 3) := by decide +kernel
theorem dX2_area_159 : decode cX2_area 159 = .ok (.aload_n 0, 1) := by decide +kernel
theorem dX2_area_160 : decode cX2_area 160 = .ok (.iload_n 1, 1) := by decide +kernel
theorem dX2_area_161 : decode cX2_area 161 = .ok (.invokevirtual 73, 3) := by decide +kernel
theorem dX2_area_164 : decode cX2_area 164 = .ok (.lmul, 1) := by decide +kernel
theorem dX2_area_165 : decode cX2_area 165 = .ok (.lload 9, 2) := by decide +kernel
theorem dX2_area_167 : decode cX2_area 167 = .ok (.lmul, 1) := by decide +kernel
theorem dX2_area_168 : decode cX2_area 168 = .ok (.lload 7, 2) := by decide +kernel
theorem dX2_area_170 : decode cX2_area 170 = .ok (.lsub, 1) := by decide +kernel
theorem dX2_area_171 : decode cX2_area 171 = .ok (.lload 9, 2) := by decide +kernel
theorem dX2_area_173 : decode cX2_area 173 = .ok (.invokevirtual 41, 3) := by decide +kernel
theorem dX2_area_176 : decode cX2_area 176 = .ok (.aload_n 0, 1) := by decide +kernel
theorem dX2_area_177 : decode cX2_area 177 = .ok (.getfield 35, 3) := by decide +kernel
theorem dX2_area_180 : decode cX2_area 180 = .ok (.lstore 11, 2) := by decide +kernel
theorem dX2_area_182 : decode cX2_area 182 = .ok (.aload_n 0, 1) := by decide +kernel
theorem dX2_area_183 : decode cX2_area 183 = .ok (.getfield 38, 3) := by decide +kernel
theorem dX2_area_186 : decode cX2_area 186 = .ok (.lstore 13, 2) := by decide +kernel
theorem dX2_area_188 : decode cX2_area 188 = .ok (.aload_n 0, 1) := by decide +kernel
theorem dX2_area_189 : decode cX2_area 189 = .ok (.lload_n 3, 1) := by decide +kernel
theorem dX2_area_190 : decode cX2_area 190 = .ok (.lload 13, 2) := by decide +kernel
theorem dX2_area_192 : decode cX2_area 192 = .ok (.invokevirtual 41, 3) := by decide +kernel
theorem dX2_area_195 : decode cX2_area 195 = .ok (.aload_n 0, 1) := by decide +kernel
theorem dX2_area_196 : decode cX2_area 196 = .ok (.getfield 35, 3) := by decide +kernel
theorem dX2_area_199 : decode cX2_area 199 = .ok (.lstore 15, 2) := by decide +kernel
theorem dX2_area_201 : decode cX2_area 201 = .ok (.aload_n 0, 1) := by decide +kernel
theorem dX2_area_202 : decode cX2_area 202 = .ok (.getfield 38, 3) := by decide +kernel
theorem dX2_area_205 : decode cX2_area 205 = .ok (.lstore 17, 2) := by decide +kernel
theorem dX2_area_207 : decode cX2_area 207 = .ok (.aload_n 0, 1) := by decide +kernel
theorem dX2_area_208 : decode cX2_area 208 = .ok (.lload 11, 2) := by decide +kernel
theorem dX2_area_210 : decode cX2_area 210 = .ok (.lload 5, 2) := by decide +kernel
theorem dX2_area_212 : decode cX2_area 212 = .ok (.invokevirtual 41, 3) := by decide +kernel
theorem dX2_area_215 : decode cX2_area 215 = .ok (.aload_n 0, 1) := by decide +kernel
theorem dX2_area_216 : decode cX2_area 216 = .ok (.lload 15, 2) := by decide +kernel
theorem dX2_area_218 : decode cX2_area 218 = .ok (.aload_n 0, 1) := by decide +kernel
theorem dX2_area_219 : decode cX2_area 219 = .ok (.getfield 35, 3) := by decide +kernel
theorem dX2_area_222 : decode cX2_area 222 = .ok (.lmul, 1) := by decide +kernel
theorem dX2_area_223 : decode cX2_area 223 = .ok (.lload 17, 2) := by decide +kernel
theorem dX2_area_225 : decode cX2_area 225 = .ok (.aload_n 0, 1) := by decide +kernel
theorem dX2_area_226 : decode cX2_area 226 = .ok (.getfield 38, 3) := by decide +kernel
theorem dX2_area_229 : decode cX2_area 229 = .ok (.lmul, 1) := by decide +kernel
theorem dX2_area_230 : decode cX2_area 230 = .ok (.invokevirtual 41, 3) := by decide +kernel
theorem dX2_area_233 : decode cX2_area 233 = .ok (.aload_n 0, 1) := by decide +kernel
theorem dX2_area_234 : decode cX2_area 234 = .ok (.iload_n 2, 1) := by decide +kernel
theorem dX2_area_235 : decode cX2_area 235 = .ok (.invokevirtual 65, 3) := by decide +kernel
theorem dX2_area_238 : decode cX2_area 238 = .ok (.lreturn, 1) := by decide +kernel
theorem dX2_batten_0 : decode cX2_batten 0 = .ok (.aload_n 0, 1) := by decide +kernel
theorem dX2_batten_1 : decode cX2_batten 1 = .ok (.aload_n 0, 1) := by decide +kernel
theorem dX2_batten_2 : decode cX2_batten 2 = .ok (.iload_n 1, 1) := by decide +kernel
theorem dX2_batten_3 : decode cX2_batten 3 = .ok (.invokevirtual 69, 3) := by decide +kernel
theorem dX2_batten_6 : decode cX2_batten 6 = .ok (.putfield 31, 3) := by decide +kernel
theorem dX2_batten_9 : decode cX2_batten 9 = .ok (.aload_n 0, 1) := by decide +kernel
theorem dX2_batten_10 : decode cX2_batten 10 = .ok (.getfield 31, 3) := by decide +kernel
theorem dX2_batten_13 : decode cX2_batten 13 = .ok (.ifCond .le 5, 3) := by decide +kernel
theorem dX2_batten_16 : decode cX2_batten 16 = .ok (.iconst 0, 1) := by decide +kernel
theorem dX2_batten_17 : decode cX2_batten 17 = .ok (.ireturn, 1) := by decide +kernel
theorem dX2_batten_18 : decode cX2_batten 18 = .ok (.aload_n 0, 1) := by decide +kernel
theorem dX2_batten_19 : decode cX2_batten 19 = .ok (.lload_n 2, 1) := by decide +kernel
theorem dX2_batten_20 : decode cX2_batten 20 = .ok (.lconst 1, 1) := by decide +kernel
theorem dX2_batten_21 : decode cX2_batten 21 = .ok (.ldc2_w 76, 3) := by decide +kernel
theorem dX2_batten_24 : decode cX2_batten 24 = .ok (.invokestatic 47, 3) := by decide +kernel
theorem dX2_batten_27 : decode cX2_batten 27 = .ok (.ifCond .eq 7, 3) := by decide +kernel
theorem dX2_batten_30 : decode cX2_batten 30 = .ok (.iconst 0, 1) := by decide +kernel
theorem dX2_batten_31 : decode cX2_batten 31 = .ok (.goto 4, 3) := by decide +kernel
theorem dX2_batten_34 : decode cX2_batten 34 = .ok (.iconst 3, 1) := by decide +kernel
theorem dX2_batten_35 : decode cX2_batten 35 = .ok (.putfield 31, 3) := by decide +kernel
theorem dX2_batten_38 : decode cX2_batten 38 = .ok (.aload_n 0, 1) := by decide +kernel
theorem dX2_batten_39 : decode cX2_batten 39 = .ok (.getfield 31, 3) := by decide +kernel
theorem dX2_batten_42 : decode cX2_batten 42 = .ok (.ifCond .le 5, 3) := by decide +kernel
theorem dX2_batten_45 : decode cX2_batten 45 = .ok (.iconst 0, 1) := by decide +kernel
theorem dX2_batten_46 : decode cX2_batten 46 = .ok (.ireturn, 1) := by decide +kernel
theorem dX2_batten_47 : decode cX2_batten 47 = .ok (.aload_n 0, 1) := by decide +kernel
theorem dX2_batten_48 : decode cX2_batten 48 = .ok (.invokevirtual 101, 3) := by decide +kernel
theorem dX2_batten_51 : decode cX2_batten 51 = .ok (.aload_n 0, 1) := by decide +kernel
theorem dX2_batten_52 : decode cX2_batten 52 = .ok (.getfield 35, 3) := by decide +kernel
theorem dX2_batten_55 : decode cX2_batten 55 = .ok (.aload_n 0, 1) := by decide +kernel
theorem dX2_batten_56 : decode cX2_batten 56 = .ok (.getfield 35, 3) := by decide +kernel
theorem dX2_batten_59 : decode cX2_batten 59 = .ok (.lmul, 1) := by decide +kernel
theorem dX2_batten_60 : decode cX2_batten 60 = .ok (.aload_n 0, 1) := by decide +kernel
theorem dX2_batten_61 : decode cX2_batten 61 = .ok (.getfield 20, 3) := by decide +kernel
theorem dX2_batten_64 : decode cX2_batten 64 = .ok (.iload_n 1, 1) := by decide +kernel
theorem dX2_batten_65 : decode cX2_batten 65 = .ok (.laload, 1) := by decide +kernel
theorem dX2_batten_66 : decode cX2_batten 66 = .ok (.aload_n 0, 1) := by decide +kernel
theorem dX2_batten_67 : decode cX2_batten 67 = .ok (.getfield 20, 3) := by decide +kernel
theorem dX2_batten_70 : decode cX2_batten 70 = .ok (.iload_n 1, 1) := by decide +kernel
theorem dX2_batten_71 : decode cX2_batten 71 = .ok (.laload, 1) := by decide +kernel
theorem dX2_batten_72 : decode cX2_batten 72 = .ok (.lmul, 1) := by decide +kernel
theorem dX2_batten_73 : decode cX2_batten 73 = .ok (.aload_n 0, 1) := by decide +kernel
theorem dX2_batten_74 : decode cX2_batten 74 = .ok (.getfield 24, 3) := by decide +kernel
theorem dX2_batten_77 : decode cX2_batten 77 = .ok (.iload_n 1, 1) := by decide +kernel
theorem dX2_batten_78 : decode cX2_batten 78 = .ok (.laload, 1) := by decide +kernel
theorem dX2_batten_79 : decode cX2_batten 79 = .ok (.aload_n 0, 1) := by decide +kernel
theorem dX2_batten_80 : decode cX2_batten 80 = .ok (.getfield 24, 3) := by decide +kernel
theorem dX2_batten_83 : decode cX2_batten 83 = .ok (.iload_n 1, 1) := by decide +kernel
theorem dX2_batten_84 : decode cX2_batten 84 = .ok (.laload, 1) := by decide +kernel
theorem dX2_batten_85 : decode cX2_batten 85 = .ok (.lmul, 1) := by decide +kernel
theorem dX2_batten_86 : decode cX2_batten 86 = .ok (.ladd, 1) := by decide +kernel
theorem dX2_batten_87 : decode cX2_batten 87 = .ok (.lmul, 1) := by decide +kernel
theorem dX2_batten_88 : decode cX2_batten 88 = .ok (.lstore 4, 2) := by decide +kernel
theorem dX2_batten_90 : decode cX2_batten 90 = .ok (.aload_n 0, 1) := by decide +kernel
theorem dX2_batten_91 : decode cX2_batten 91 = .ok (.getfield 38, 3) := by decide +kernel
theorem dX2_batten_94 : decode cX2_batten 94 = .ok (.aload_n 0, 1) := by decide +kernel
theorem dX2_batten_95 : decode cX2_batten 95 = .ok (.getfield 20, 3) := by decide +kernel
theorem dX2_batten_98 : decode cX2_batten 98 = .ok (.iload_n 1, 1) := by decide +kernel
theorem dX2_batten_99 : decode cX2_batten 99 = .ok (.laload, 1) := by decide +kernel
theorem dX2_batten_100 : decode cX2_batten 100 = .ok (.lmul, 1) := by decide +kernel
theorem dX2_batten_101 : decode cX2_batten 101 = .ok (.lload_n 2, 1) := by decide +kernel
theorem dX2_batten_102 : decode cX2_batten 102 = .ok (.lmul, 1) := by decide +kernel
theorem dX2_batten_103 : decode cX2_batten 103 = .ok (.lstore 6, 2) := by decide +kernel
theorem dX2_batten_105 : decode cX2_batten 105 = .ok (.lconst 0, 1) := by decide +kernel
theorem dX2_batten_106 : decode cX2_batten 106 = .ok (.lstore 8, 2) := by decide +kernel
theorem dX2_batten_108 : decode cX2_batten 108 = .ok (.bipush 22, 2) := by decide +kernel
theorem dX2_batten_110 : decode cX2_batten 110 = .ok (.istore 10, 2) := by decide +kernel
theorem dX2_batten_112 : decode cX2_batten 112 = .ok (.iload 10, 2) := by decide +kernel
theorem dX2_batten_114 : decode cX2_batten 114 = .ok (.ifCond .lt 68, 3) := by decide +kernel
theorem dX2_batten_117 : decode cX2_batten 117 = .ok (.lload 8, 2) := by decide +kernel
theorem dX2_batten_119 : decode cX2_batten 119 = .ok (.lconst 1, 1) := by decide +kernel
theorem dX2_batten_120 : decode cX2_batten 120 = .ok (.iload 10, 2) := by decide +kernel
theorem dX2_batten_122 : decode cX2_batten 122 = .ok (.lshl, 1) := by decide +kernel
theorem dX2_batten_123 : decode cX2_batten 123 = .ok (.lor, 1) := by decide +kernel
theorem dX2_batten_124 : decode cX2_batten 124 = .ok (.lstore 11, 2) := by decide +kernel
theorem dX2_batten_126 : decode cX2_batten 126 = .ok (.lload 11, 2) := by decide +kernel
theorem dX2_batten_128 : decode cX2_batten 128 = .ok (.lload 6, 2) := by decide +kernel
theorem dX2_batten_130 : decode cX2_batten 130 = .ok (.lmul, 1) := by decide +kernel
theorem dX2_batten_131 : decode cX2_batten 131 = .ok (.ldc2_w 92, 3) := by decide +kernel
theorem dX2_batten_134 : decode cX2_batten 134 = .ok (.lcmp, 1) := by decide +kernel
theorem dX2_batten_135 : decode cX2_batten 135 = .ok (.ifCond .gt 7, 3) := by decide +kernel
theorem dX2_batten_138 : decode cX2_batten 138 = .ok (.iconst 1, 1) := by decide +kernel
theorem dX2_batten_139 : decode cX2_batten 139 = .ok (.goto 4, 3) := by decide +kernel
theorem dX2_batten_142 : decode cX2_batten 142 = .ok (.iconst 0, 1) := by decide +kernel
theorem dX2_batten_143 : decode cX2_batten 143 = .ok (.istore 13, 2) := by decide +kernel
theorem dX2_batten_145 : decode cX2_batten 145 = .ok (.iload 13, 2) := by decide +kernel
theorem dX2_batten_147 : decode cX2_batten 147 = .ok (.ifCond .eq 25, 3) := by decide +kernel
theorem dX2_batten_150 : decode cX2_batten 150 = .ok (.lload 11, 2) := by decide +kernel
theorem dX2_batten_152 : decode cX2_batten 152 = .ok (.lload 6, 2) := by decide +kernel
theorem dX2_batten_154 : decode cX2_batten 154 = .ok (.lmul, 1) := by decide +kernel
theorem dX2_batten_155 : decode cX2_batten 155 = .ok (.lload 11, 2) := by decide +kernel
theorem dX2_batten_157 : decode cX2_batten 157 = .ok (.lmul, 1) := by decide +kernel
theorem dX2_batten_158 : decode cX2_batten 158 = .ok (.lload 6, 2) := by decide +kernel
theorem dX2_batten_160 : decode cX2_batten 160 = .ok (.lmul, 1) := by decide +kernel
theorem dX2_batten_161 : decode cX2_batten 161 = .ok (.lload 4, 2) := by decide +kernel
theorem dX2_batten_163 : decode cX2_batten 163 = .ok (.lcmp, 1) := by decide +kernel
theorem dX2_batten_164 : decode cX2_batten 164 = .ok (.ifCond .gt 8, 3) := by decide +kernel
theorem dX2_batten_167 : decode cX2_batten 167 = .ok (.lload 11, 2) := by decide +kernel
theorem dX2_batten_169 : decode cX2_batten 169 = .ok (.goto 5, 3) := by decide +kernel
theorem dX2_batten_172 : decode cX2_batten 172 = .ok (.lload 8, 2) := by decide +kernel
theorem dX2_batten_174 : decode cX2_batten 174 = .ok (.lstore 8, 2) := by decide +kernel
theorem dX2_batten_176 : decode cX2_batten 176 = .ok (.iinc 10 (-1), 3) := by decide +kernel
theorem dX2_batten_179 : decode cX2_batten 179 = .ok (.goto (-67), 3) := by decide +kernel
theorem dX2_batten_182 : decode cX2_batten 182 = .ok (.lload 8, 2) := by decide +kernel
theorem dX2_batten_184 : decode cX2_batten 184 = .ok (.l2i, 1) := by decide +kernel
theorem dX2_batten_185 : decode cX2_batten 185 = .ok (.ireturn, 1) := by decide +kernel
