theorem dX1_init_0 : decode cX1_init 0 = .ok (.aload_n 0, 1) := by decide +kernel
theorem dX1_init_1 : decode cX1_init 1 = .ok (.invokespecial 1, 3) := by decide +kernel
theorem dX1_init_4 : decode cX1_init 4 = .ok (.aload_n 0, 1) := by decide +kernel
theorem dX1_init_5 : decode cX1_init 5 = .ok (.ldc2_w 7, 3) := by decide +kernel
theorem dX1_init_8 : decode cX1_init 8 = .ok (.putfield 9, 3) := by decide +kernel
theorem dX1_init_11 : decode cX1_init 11 = .ok (.aload_n 0, 1) := by decide +kernel
theorem dX1_init_12 : decode cX1_init 12 = .ok (.ldc2_w 15, 3) := by decide +kernel
theorem dX1_init_15 : decode cX1_init 15 = .ok (.putfield 17, 3) := by decide +kernel
theorem dX1_init_18 : decode cX1_init 18 = .ok (.aload_n 0, 1) := by decide +kernel
theorem dX1_init_19 : decode cX1_init 19 = .ok (.iconst 4, 1) := by decide +kernel
theorem dX1_init_20 : decode cX1_init 20 = .ok (.anewarray 20, 3) := by decide +kernel
theorem dX1_init_23 : decode cX1_init 23 = .ok (.putfield 22, 3) := by decide +kernel
theorem dX1_init_26 : decode cX1_init 26 = .ok (.iconst 0, 1) := by decide +kernel
theorem dX1_init_27 : decode cX1_init 27 = .ok (.istore_n 1, 1) := by decide +kernel
theorem dX1_init_28 : decode cX1_init 28 = .ok (.iload_n 1, 1) := by decide +kernel
theorem dX1_init_29 : decode cX1_init 29 = .ok (.iconst 4, 1) := by decide +kernel
theorem dX1_init_30 : decode cX1_init 30 = .ok (.if_icmp .ge 24, 3) := by decide +kernel
theorem dX1_init_33 : decode cX1_init 33 = .ok (.aload_n 0, 1) := by decide +kernel
theorem dX1_init_34 : decode cX1_init 34 = .ok (.getfield 22, 3) := by decide +kernel
theorem dX1_init_37 : decode cX1_init 37 = .ok (.iload_n 1, 1) := by decide +kernel
theorem dX1_init_38 : decode cX1_init 38 = .ok (.new 20, 3) := by decide +kernel
theorem dX1_init_41 : decode cX1_init 41 = .ok (.dup, 1) := by decide +kernel
theorem dX1_init_42 : decode cX1_init 42 = .ok (.lconst 1, 1) := by decide +kernel
theorem dX1_init_43 : decode cX1_init 43 = .ok (.lconst 1, 1) := by decide +kernel
theorem dX1_init_44 : decode cX1_init 44 = .ok (.invokespecial 26, 3) := by decide +kernel
theorem dX1_init_47 : decode cX1_init 47 = .ok (.aastore, 1) := by decide +kernel
theorem dX1_init_48 : decode cX1_init 48 = .ok (.iinc 1 1, 3) := by decide +kernel
theorem dX1_init_51 : decode cX1_init 51 = .ok (.goto (-23), 3) := by decide +kernel
theorem dX1_init_54 : decode cX1_init 54 = .ok (.return_, 1) := by decide +kernel
theorem dX1_outline_0 : decode cX1_outline 0 = .ok (.lload_n 1, 1) := by decide +kernel
theorem dX1_outline_1 : decode cX1_outline 1 = .ok (.lconst 1, 1) := by decide +kernel
theorem dX1_outline_2 : decode cX1_outline 2 = .ok (.ldc2_w 29, 3) := by decide +kernel
theorem dX1_outline_5 : decode cX1_outline 5 = .ok (.invokestatic 31, 3) := by decide +kernel
theorem dX1_outline_8 : decode cX1_outline 8 = .ok (.lload_n 3, 1) := by decide +kernel
theorem dX1_outline_9 : decode cX1_outline 9 = .ok (.lconst 1, 1) := by decide +kernel
theorem dX1_outline_10 : decode cX1_outline 10 = .ok (.ldc2_w 29, 3) := by decide +kernel
theorem dX1_outline_13 : decode cX1_outline 13 = .ok (.invokestatic 31, 3) := by decide +kernel
theorem dX1_outline_16 : decode cX1_outline 16 = .ok (.lload_n 1, 1) := by decide +kernel
theorem dX1_outline_17 : decode cX1_outline 17 = .ok (.aload_n 0, 1) := by decide +kernel
theorem dX1_outline_18 : decode cX1_outline 18 = .ok (.getfield 9, 3) := by decide +kernel
theorem dX1_outline_21 : decode cX1_outline 21 = .ok (.lcmp, 1) := by decide +kernel
theorem dX1_outline_22 : decode cX1_outline 22 = .ok (.ifCond .ne 12, 3) := by decide +kernel
theorem dX1_outline_25 : decode cX1_outline 25 = .ok (.lload_n 3, 1) := by decide +kernel
theorem dX1_outline_26 : decode cX1_outline 26 = .ok (.aload_n 0, 1) := by decide +kernel
theorem dX1_outline_27 : decode cX1_outline 27 = .ok (.getfield 17, 3) := by decide +kernel
theorem dX1_outline_30 : decode cX1_outline 30 = .ok (.lcmp, 1) := by decide +kernel
theorem dX1_outline_31 : decode cX1_outline 31 = .ok (.ifCond .eq 7, 3) := by decide +kernel
theorem dX1_outline_34 : decode cX1_outline 34 = .ok (.iconst 1, 1) := by decide +kernel
theorem dX1_outline_35 : decode cX1_outline 35 = .ok (.goto 4, 3) := by decide +kernel
theorem dX1_outline_38 : decode cX1_outline 38 = .ok (.iconst 0, 1) := by decide +kernel
theorem dX1_outline_39 : decode cX1_outline 39 = .ok (.istore 5, 2) := by decide +kernel
theorem dX1_outline_41 : decode cX1_outline 41 = .ok (.aload_n 0, 1) := by decide +kernel
theorem dX1_outline_42 : decode cX1_outline 42 = .ok (.lload_n 1, 1) := by decide +kernel
theorem dX1_outline_43 : decode cX1_outline 43 = .ok (.putfield 9, 3) := by decide +kernel
theorem dX1_outline_46 : decode cX1_outline 46 = .ok (.aload_n 0, 1) := by decide +kernel
theorem dX1_outline_47 : decode cX1_outline 47 = .ok (.lload_n 3, 1) := by decide +kernel
theorem dX1_outline_48 : decode cX1_outline 48 = .ok (.putfield 17, 3) := by decide +kernel
theorem dX1_outline_51 : decode cX1_outline 51 = .ok (.iload 5, 2) := by decide +kernel
theorem dX1_outline_53 : decode cX1_outline 53 = .ok (.ireturn, 1) := by decide +kernel
theorem dX1_slope_0 : decode cX1_slope 0 = .ok (.iload_n 1, 1) := by decide +kernel
theorem dX1_slope_1 : decode cX1_slope 1 = .ok (.iconst 4, 1) := by decide +kernel
theorem dX1_slope_2 : decode cX1_slope 2 = .ok (.invokestatic 35, 3) := by decide +kernel
theorem dX1_slope_5 : decode cX1_slope 5 = .ok (.lload_n 2, 1) := by decide +kernel
theorem dX1_slope_6 : decode cX1_slope 6 = .ok (.lconst 1, 1) := by decide +kernel
theorem dX1_slope_7 : decode cX1_slope 7 = .ok (.ldc2_w 39, 3) := by decide +kernel
theorem dX1_slope_10 : decode cX1_slope 10 = .ok (.invokestatic 31, 3) := by decide +kernel
theorem dX1_slope_13 : decode cX1_slope 13 = .ok (.lload 4, 2) := by decide +kernel
theorem dX1_slope_15 : decode cX1_slope 15 = .ok (.lconst 1, 1) := by decide +kernel
theorem dX1_slope_16 : decode cX1_slope 16 = .ok (.ldc2_w 39, 3) := by decide +kernel
theorem dX1_slope_19 : decode cX1_slope 19 = .ok (.invokestatic 31, 3) := by decide +kernel
theorem dX1_slope_22 : decode cX1_slope 22 = .ok (.aload_n 0, 1) := by decide +kernel
theorem dX1_slope_23 : decode cX1_slope 23 = .ok (.iload_n 1, 1) := by decide +kernel
theorem dX1_slope_24 : decode cX1_slope 24 = .ok (.new 20, 3) := by decide +kernel
theorem dX1_slope_27 : decode cX1_slope 27 = .ok (.dup, 1) := by decide +kernel
theorem dX1_slope_28 : decode cX1_slope 28 = .ok (.lload 4, 2) := by decide +kernel
theorem dX1_slope_30 : decode cX1_slope 30 = .ok (.lload_n 2, 1) := by decide +kernel
theorem dX1_slope_31 : decode cX1_slope 31 = .ok (.invokespecial 26, 3) := by decide +kernel
theorem dX1_slope_34 : decode cX1_slope 34 = .ok (.invokevirtual 41, 3) := by decide +kernel
theorem dX1_slope_37 : decode cX1_slope 37 = .ok (.ireturn, 1) := by decide +kernel
theorem dX1_gable_0 : decode cX1_gable 0 = .ok (.iload_n 1, 1) := by decide +kernel
theorem dX1_gable_1 : decode cX1_gable 1 = .ok (.iconst 4, 1) := by decide +kernel
theorem dX1_gable_2 : decode cX1_gable 2 = .ok (.invokestatic 35, 3) := by decide +kernel
theorem dX1_gable_5 : decode cX1_gable 5 = .ok (.aload_n 0, 1) := by decide +kernel
theorem dX1_gable_6 : decode cX1_gable 6 = .ok (.iload_n 1, 1) := by decide +kernel
theorem dX1_gable_7 : decode cX1_gable 7 = .ok (.invokevirtual 45, 3) := by decide +kernel
theorem dX1_gable_10 : decode cX1_gable 10 = .ok (.aload_n 0, 1) := by decide +kernel
theorem dX1_gable_11 : decode cX1_gable 11 = .ok (.iload_n 1, 1) := by decide +kernel
theorem dX1_gable_12 : decode cX1_gable 12 = .ok (.new 20, 3) := by decide +kernel
theorem dX1_gable_15 : decode cX1_gable 15 = .ok (.dup, 1) := by decide +kernel
theorem dX1_gable_16 : decode cX1_gable 16 = .ok (.lconst 0, 1) := by decide +kernel
theorem dX1_gable_17 : decode cX1_gable 17 = .ok (.lconst 1, 1) := by decide +kernel
theorem dX1_gable_18 : decode cX1_gable 18 = .ok (.invokespecial 26, 3) := by decide +kernel
theorem dX1_gable_21 : decode cX1_gable 21 = .ok (.invokevirtual 41, 3) := by decide +kernel
theorem dX1_gable_24 : decode cX1_gable 24 = .ok (.ireturn, 1) := by decide +kernel
theorem dX1_place_0 : decode cX1_place 0 = .ok (.iload 5, 2) := by decide +kernel
theorem dX1_place_2 : decode cX1_place 2 = .ok (.iconst 2, 1) := by decide +kernel
theorem dX1_place_3 : decode cX1_place 3 = .ok (.invokestatic 35, 3) := by decide +kernel
theorem dX1_place_6 : decode cX1_place 6 = .ok (.aload_n 0, 1) := by decide +kernel
theorem dX1_place_7 : decode cX1_place 7 = .ok (.lload_n 1, 1) := by decide +kernel
theorem dX1_place_8 : decode cX1_place 8 = .ok (.lload_n 3, 1) := by decide +kernel
theorem dX1_place_9 : decode cX1_place 9 = .ok (.invokevirtual 49, 3) := by decide +kernel
theorem dX1_place_12 : decode cX1_place 12 = .ok (.aload_n 0, 1) := by decide +kernel
theorem dX1_place_13 : decode cX1_place 13 = .ok (.aload_n 0, 1) := by decide +kernel
theorem dX1_place_14 : decode cX1_place 14 = .ok (.lload_n 1, 1) := by decide +kernel
theorem dX1_place_15 : decode cX1_place 15 = .ok (.lload_n 3, 1) := by decide +kernel
theorem dX1_place_16 : decode cX1_place 16 = .ok (.invokevirtual 52, 3) := by decide +kernel
theorem dX1_place_19 : decode cX1_place 19 = .ok (.lload_n 1, 1) := by decide +kernel
theorem dX1_place_20 : decode cX1_place 20 = .ok (.lload_n 3, 1) := by decide +kernel
theorem dX1_place_21 : decode cX1_place 21 = .ok (.invokevirtual 56, 3) := by decide +kernel
theorem dX1_place_24 : decode cX1_place 24 = .ok (.iload 5, 2) := by decide +kernel
theorem dX1_place_26 : decode cX1_place 26 = .ok (.invokevirtual 60, 3) := by decide +kernel
theorem dX1_place_29 : decode cX1_place 29 = .ok (.lreturn, 1) := by decide +kernel
theorem dX1_face_0 : decode cX1_face 0 = .ok (.aload_n 0, 1) := by decide +kernel
theorem dX1_face_1 : decode cX1_face 1 = .ok (.lload_n 1, 1) := by decide +kernel
theorem dX1_face_2 : decode cX1_face 2 = .ok (.lload_n 3, 1) := by decide +kernel
theorem dX1_face_3 : decode cX1_face 3 = .ok (.invokevirtual 49, 3) := by decide +kernel
theorem dX1_face_6 : decode cX1_face 6 = .ok (.aload_n 0, 1) := by decide +kernel
theorem dX1_face_7 : decode cX1_face 7 = .ok (.lload_n 1, 1) := by decide +kernel
theorem dX1_face_8 : decode cX1_face 8 = .ok (.lload_n 3, 1) := by decide +kernel
theorem dX1_face_9 : decode cX1_face 9 = .ok (.invokevirtual 52, 3) := by decide +kernel
theorem dX1_face_12 : decode cX1_face 12 = .ok (.ireturn, 1) := by decide +kernel
theorem dX1_rafter_0 : decode cX1_rafter 0 = .ok (.iload_n 1, 1) := by decide +kernel
theorem dX1_rafter_1 : decode cX1_rafter 1 = .ok (.iconst 4, 1) := by decide +kernel
theorem dX1_rafter_2 : decode cX1_rafter 2 = .ok (.invokestatic 35, 3) := by decide +kernel
theorem dX1_rafter_5 : decode cX1_rafter 5 = .ok (.aload_n 0, 1) := by decide +kernel
theorem dX1_rafter_6 : decode cX1_rafter 6 = .ok (.iload_n 1, 1) := by decide +kernel
theorem dX1_rafter_7 : decode cX1_rafter 7 = .ok (.invokevirtual 64, 3) := by decide +kernel
theorem dX1_rafter_10 : decode cX1_rafter 10 = .ok (.lload_n 2, 1) := by decide +kernel
theorem dX1_rafter_11 : decode cX1_rafter 11 = .ok (.lconst 1, 1) := by decide +kernel
theorem dX1_rafter_12 : decode cX1_rafter 12 = .ok (.ldc2_w 67, 3) := by decide +kernel
theorem dX1_rafter_15 : decode cX1_rafter 15 = .ok (.invokestatic 31, 3) := by decide +kernel
theorem dX1_rafter_18 : decode cX1_rafter 18 = .ok (.aload_n 0, 1) := by decide +kernel
theorem dX1_rafter_19 : decode cX1_rafter 19 = .ok (.iload_n 1, 1) := by decide +kernel
theorem dX1_rafter_20 : decode cX1_rafter 20 = .ok (.invokevirtual 69, 3) := by decide +kernel
theorem dX1_rafter_23 : decode cX1_rafter 23 = .ok (.lload_n 2, 1) := by decide +kernel
theorem dX1_rafter_24 : decode cX1_rafter 24 = .ok (.ldiv, 1) := by decide +kernel
theorem dX1_rafter_25 : decode cX1_rafter 25 = .ok (.l2i, 1) := by decide +kernel
theorem dX1_rafter_26 : decode cX1_rafter 26 = .ok (.iconst 1, 1) := by decide +kernel
theorem dX1_rafter_27 : decode cX1_rafter 27 = .ok (.iadd, 1) := by decide +kernel
theorem dX1_rafter_28 : decode cX1_rafter 28 = .ok (.ireturn, 1) := by decide +kernel
theorem dX1_end_0 : decode cX1_end 0 = .ok (.iload_n 1, 1) := by decide +kernel
theorem dX1_end_1 : decode cX1_end 1 = .ok (.iconst 4, 1) := by decide +kernel
theorem dX1_end_2 : decode cX1_end 2 = .ok (.invokestatic 35, 3) := by decide +kernel
theorem dX1_end_5 : decode cX1_end 5 = .ok (.iload 4, 2) := by decide +kernel
theorem dX1_end_7 : decode cX1_end 7 = .ok (.iconst 2, 1) := by decide +kernel
theorem dX1_end_8 : decode cX1_end 8 = .ok (.invokestatic 35, 3) := by decide +kernel
theorem dX1_end_11 : decode cX1_end 11 = .ok (.aload_n 0, 1) := by decide +kernel
theorem dX1_end_12 : decode cX1_end 12 = .ok (.iload_n 1, 1) := by decide +kernel
theorem dX1_end_13 : decode cX1_end 13 = .ok (.lload_n 2, 1) := by decide +kernel
theorem dX1_end_14 : decode cX1_end 14 = .ok (.invokevirtual 72, 3) := by decide +kernel
theorem dX1_end_17 : decode cX1_end 17 = .ok (.aload_n 0, 1) := by decide +kernel
theorem dX1_end_18 : decode cX1_end 18 = .ok (.iload_n 1, 1) := by decide +kernel
theorem dX1_end_19 : decode cX1_end 19 = .ok (.lload_n 2, 1) := by decide +kernel
theorem dX1_end_20 : decode cX1_end 20 = .ok (.invokevirtual 76, 3) := by decide +kernel
theorem dX1_end_23 : decode cX1_end 23 = .ok (.iload 4, 2) := by decide +kernel
theorem dX1_end_25 : decode cX1_end 25 = .ok (.invokevirtual 60, 3) := by decide +kernel
theorem dX1_end_28 : decode cX1_end 28 = .ok (.lreturn, 1) := by decide +kernel
theorem dX1_against_0 : decode cX1_against 0 = .ok (.iload_n 1, 1) := by decide +kernel
theorem dX1_against_1 : decode cX1_against 1 = .ok (.iconst 4, 1) := by decide +kernel
theorem dX1_against_2 : decode cX1_against 2 = .ok (.invokestatic 35, 3) := by decide +kernel
theorem dX1_against_5 : decode cX1_against 5 = .ok (.aload_n 0, 1) := by decide +kernel
theorem dX1_against_6 : decode cX1_against 6 = .ok (.iload_n 1, 1) := by decide +kernel
theorem dX1_against_7 : decode cX1_against 7 = .ok (.lload_n 2, 1) := by decide +kernel
theorem dX1_against_8 : decode cX1_against 8 = .ok (.invokevirtual 72, 3) := by decide +kernel
theorem dX1_against_11 : decode cX1_against 11 = .ok (.aload_n 0, 1) := by decide +kernel
theorem dX1_against_12 : decode cX1_against 12 = .ok (.iload_n 1, 1) := by decide +kernel
theorem dX1_against_13 : decode cX1_against 13 = .ok (.lload_n 2, 1) := by decide +kernel
theorem dX1_against_14 : decode cX1_against 14 = .ok (.invokevirtual 80, 3) := by decide +kernel
theorem dX1_against_17 : decode cX1_against 17 = .ok (.ireturn, 1) := by decide +kernel
theorem dX1_length_0 : decode cX1_length 0 = .ok (.iload_n 1, 1) := by decide +kernel
theorem dX1_length_1 : decode cX1_length 1 = .ok (.iconst 4, 1) := by decide +kernel
theorem dX1_length_2 : decode cX1_length 2 = .ok (.invokestatic 35, 3) := by decide +kernel
theorem dX1_length_5 : decode cX1_length 5 = .ok (.iload 4, 2) := by decide +kernel
theorem dX1_length_7 : decode cX1_length 7 = .ok (.iconst 2, 1) := by decide +kernel
theorem dX1_length_8 : decode cX1_length 8 = .ok (.invokestatic 35, 3) := by decide +kernel
theorem dX1_length_11 : decode cX1_length 11 = .ok (.aload_n 0, 1) := by decide +kernel
theorem dX1_length_12 : decode cX1_length 12 = .ok (.iload_n 1, 1) := by decide +kernel
theorem dX1_length_13 : decode cX1_length 13 = .ok (.lload_n 2, 1) := by decide +kernel
theorem dX1_length_14 : decode cX1_length 14 = .ok (.invokevirtual 72, 3) := by decide +kernel
theorem dX1_length_17 : decode cX1_length 17 = .ok (.aload_n 0, 1) := by decide +kernel
theorem dX1_length_18 : decode cX1_length 18 = .ok (.iload_n 1, 1) := by decide +kernel
theorem dX1_length_19 : decode cX1_length 19 = .ok (.aload_n 0, 1) := by decide +kernel
theorem dX1_length_20 : decode cX1_length 20 = .ok (.iload_n 1, 1) := by decide +kernel
theorem dX1_length_21 : decode cX1_length 21 = .ok (.lload_n 2, 1) := by decide +kernel
theorem dX1_length_22 : decode cX1_length 22 = .ok (.invokevirtual 76, 3) := by decide +kernel
theorem dX1_length_25 : decode cX1_length 25 = .ok (.invokevirtual 84, 3) := by decide +kernel
theorem dX1_length_28 : decode cX1_length 28 = .ok (.astore 5, 2) := by decide +kernel
theorem dX1_length_30 : decode cX1_length 30 = .ok (.aload 5, 2) := by decide +kernel
theorem dX1_length_32 : decode cX1_length 32 = .ok (.invokevirtual 88, 3) := by decide +kernel
theorem dX1_length_35 : decode cX1_length 35 = .ok (.invokestatic 92, 3) := by decide +kernel
theorem dX1_length_38 : decode cX1_length 38 = .ok (.lstore 6, 2) := by decide +kernel
theorem dX1_length_40 : decode cX1_length 40 = .ok (.lload 6, 2) := by decide +kernel
theorem dX1_length_42 : decode cX1_length 42 = .ok (.lload 6, 2) := by decide +kernel
theorem dX1_length_44 : decode cX1_length 44 = .ok (.lmul, 1) := by decide +kernel
theorem dX1_length_45 : decode cX1_length 45 = .ok (.aload 5, 2) := by decide +kernel
theorem dX1_length_47 : decode cX1_length 47 = .ok (.getfield 96, 3) := by decide +kernel
theorem dX1_length_50 : decode cX1_length 50 = .ok (.lmul, 1) := by decide +kernel
theorem dX1_length_51 : decode cX1_length 51 = .ok (.aload 5, 2) := by decide +kernel
theorem dX1_length_53 : decode cX1_length 53 = .ok (.getfield 99, 3) := by decide +kernel
theorem dX1_length_56 : decode cX1_length 56 = .ok (.lcmp, 1) := by decide +kernel
theorem dX1_length_57 : decode cX1_length 57 = .ok (.ifCond .ne 7, 3) := by decide +kernel
theorem dX1_length_60 : decode cX1_length 60 = .ok (.iconst 1, 1) := by decide +kernel
theorem dX1_length_61 : decode cX1_length 61 = .ok (.goto 4, 3) := by decide +kernel
theorem dX1_length_64 : decode cX1_length 64 = .ok (.iconst 0, 1) := by decide +kernel
theorem dX1_length_65 : decode cX1_length 65 = .ok (.istore 8, 2) := by decide +kernel
theorem dX1_length_67 : decode cX1_length 67 = .ok (.iload 4, 2) := by decide +kernel
theorem dX1_length_69 : decode cX1_length 69 = .ok (.ifCond .eq 8, 3) := by decide +kernel
theorem dX1_length_72 : decode cX1_length 72 = .ok (.iload 8, 2) := by decide +kernel
theorem dX1_length_74 : decode cX1_length 74 = .ok (.ifCond .eq 8, 3) := by decide +kernel
theorem dX1_length_77 : decode cX1_length 77 = .ok (.lload 6, 2) := by decide +kernel
theorem dX1_length_79 : decode cX1_length 79 = .ok (.goto 7, 3) := by decide +kernel
theorem dX1_length_82 : decode cX1_length 82 = .ok (.lload 6, 2) := by decide +kernel
theorem dX1_length_84 : decode cX1_length 84 = .ok (.lconst 1, 1) := by decide +kernel
theorem dX1_length_85 : decode cX1_length 85 = .ok (.ladd, 1) := by decide +kernel
theorem dX1_length_86 : decode cX1_length 86 = .ok (.lreturn, 1) := by decide +kernel
theorem dX1_tangent_0 : decode cX1_tangent 0 = .ok (.iload_n 1, 1) := by decide +kernel
theorem dX1_tangent_1 : decode cX1_tangent 1 = .ok (.iconst 4, 1) := by decide +kernel
theorem dX1_tangent_2 : decode cX1_tangent 2 = .ok (.invokestatic 35, 3) := by decide +kernel
theorem dX1_tangent_5 : decode cX1_tangent 5 = .ok (.iload 4, 2) := by decide +kernel
theorem dX1_tangent_7 : decode cX1_tangent 7 = .ok (.iconst 3, 1) := by decide +kernel
theorem dX1_tangent_8 : decode cX1_tangent 8 = .ok (.invokestatic 35, 3) := by decide +kernel
theorem dX1_tangent_11 : decode cX1_tangent 11 = .ok (.iload 5, 2) := by decide +kernel
theorem dX1_tangent_13 : decode cX1_tangent 13 = .ok (.iconst 2, 1) := by decide +kernel
theorem dX1_tangent_14 : decode cX1_tangent 14 = .ok (.invokestatic 35, 3) := by decide +kernel
theorem dX1_tangent_17 : decode cX1_tangent 17 = .ok (.aload_n 0, 1) := by decide +kernel
theorem dX1_tangent_18 : decode cX1_tangent 18 = .ok (.iload_n 1, 1) := by decide +kernel
theorem dX1_tangent_19 : decode cX1_tangent 19 = .ok (.lload_n 2, 1) := by decide +kernel
theorem dX1_tangent_20 : decode cX1_tangent 20 = .ok (.invokevirtual 72, 3) := by decide +kernel
theorem dX1_tangent_23 : decode cX1_tangent 23 = .ok (.aload_n 0, 1) := by decide +kernel
theorem dX1_tangent_24 : decode cX1_tangent 24 = .ok (.iload_n 1, 1) := by decide +kernel
theorem dX1_tangent_25 : decode cX1_tangent 25 = .ok (.lload_n 2, 1) := by decide +kernel
theorem dX1_tangent_26 : decode cX1_tangent 26 = .ok (.iload 4, 2) := by decide +kernel
theorem dX1_tangent_28 : decode cX1_tangent 28 = .ok (.invokevirtual 102, 3) := by decide +kernel
theorem dX1_tangent_31 : decode cX1_tangent 31 = .ok (.iload 5, 2) := by decide +kernel
theorem dX1_tangent_33 : decode cX1_tangent 33 = .ok (.invokevirtual 60, 3) := by decide +kernel
theorem dX1_tangent_36 : decode cX1_tangent 36 = .ok (.lreturn, 1) := by decide +kernel
theorem dX1_mouth_0 : decode cX1_mouth 0 = .ok (.iload_n 1, 1) := by decide +kernel
theorem dX1_mouth_1 : decode cX1_mouth 1 = .ok (.iconst 4, 1) := by decide +kernel
theorem dX1_mouth_2 : decode cX1_mouth 2 = .ok (.invokestatic 35, 3) := by decide +kernel
theorem dX1_mouth_5 : decode cX1_mouth 5 = .ok (.iload 4, 2) := by decide +kernel
theorem dX1_mouth_7 : decode cX1_mouth 7 = .ok (.iconst 2, 1) := by decide +kernel
theorem dX1_mouth_8 : decode cX1_mouth 8 = .ok (.invokestatic 35, 3) := by decide +kernel
theorem dX1_mouth_11 : decode cX1_mouth 11 = .ok (.aload_n 0, 1) := by decide +kernel
theorem dX1_mouth_12 : decode cX1_mouth 12 = .ok (.iload_n 1, 1) := by decide +kernel
theorem dX1_mouth_13 : decode cX1_mouth 13 = .ok (.invokevirtual 64, 3) := by decide +kernel
theorem dX1_mouth_16 : decode cX1_mouth 16 = .ok (.lload_n 2, 1) := by decide +kernel
theorem dX1_mouth_17 : decode cX1_mouth 17 = .ok (.lconst 0, 1) := by decide +kernel
theorem dX1_mouth_18 : decode cX1_mouth 18 = .ok (.ldc2_w 7, 3) := by decide +kernel
theorem dX1_mouth_21 : decode cX1_mouth 21 = .ok (.invokestatic 31, 3) := by decide +kernel
theorem dX1_mouth_24 : decode cX1_mouth 24 = .ok (.aload_n 0, 1) := by decide +kernel
theorem dX1_mouth_25 : decode cX1_mouth 25 = .ok (.getfield 22, 3) := by decide +kernel
theorem dX1_mouth_28 : decode cX1_mouth 28 = .ok (.iload_n 1, 1) := by decide +kernel
theorem dX1_mouth_29 : decode cX1_mouth 29 = .ok (.aaload, 1) := by decide +kernel
theorem dX1_mouth_30 : decode cX1_mouth 30 = .ok (.lload_n 2, 1) := by decide +kernel
theorem dX1_mouth_31 : decode cX1_mouth 31 = .ok (.invokevirtual 106, 3) := by decide +kernel
theorem dX1_mouth_34 : decode cX1_mouth 34 = .ok (.iload 4, 2) := by decide +kernel
theorem dX1_mouth_36 : decode cX1_mouth 36 = .ok (.invokevirtual 60, 3) := by decide +kernel
theorem dX1_mouth_39 : decode cX1_mouth 39 = .ok (.lreturn, 1) := by decide +kernel
theorem dX1_hip_0 : decode cX1_hip 0 = .ok (.iload_n 1, 1) := by decide +kernel
theorem dX1_hip_1 : decode cX1_hip 1 = .ok (.iconst 4, 1) := by decide +kernel
theorem dX1_hip_2 : decode cX1_hip 2 = .ok (.invokestatic 35, 3) := by decide +kernel
theorem dX1_hip_5 : decode cX1_hip 5 = .ok (.iload_n 2, 1) := by decide +kernel
theorem dX1_hip_6 : decode cX1_hip 6 = .ok (.iconst 2, 1) := by decide +kernel
theorem dX1_hip_7 : decode cX1_hip 7 = .ok (.invokestatic 35, 3) := by decide +kernel
theorem dX1_hip_10 : decode cX1_hip 10 = .ok (.iload_n 3, 1) := by decide +kernel
theorem dX1_hip_11 : decode cX1_hip 11 = .ok (.iconst 2, 1) := by decide +kernel
theorem dX1_hip_12 : decode cX1_hip 12 = .ok (.invokestatic 35, 3) := by decide +kernel
theorem dX1_hip_15 : decode cX1_hip 15 = .ok (.iload_n 1, 1) := by decide +kernel
theorem dX1_hip_16 : decode cX1_hip 16 = .ok (.invokestatic 110, 3) := by decide +kernel
theorem dX1_hip_19 : decode cX1_hip 19 = .ok (.istore 4, 2) := by decide +kernel
theorem dX1_hip_21 : decode cX1_hip 21 = .ok (.aload_n 0, 1) := by decide +kernel
theorem dX1_hip_22 : decode cX1_hip 22 = .ok (.iload_n 1, 1) := by decide +kernel
theorem dX1_hip_23 : decode cX1_hip 23 = .ok (.invokevirtual 64, 3) := by decide +kernel
theorem dX1_hip_26 : decode cX1_hip 26 = .ok (.aload_n 0, 1) := by decide +kernel
theorem dX1_hip_27 : decode cX1_hip 27 = .ok (.iload 4, 2) := by decide +kernel
theorem dX1_hip_29 : decode cX1_hip 29 = .ok (.invokevirtual 64, 3) := by decide +kernel
theorem dX1_hip_32 : decode cX1_hip 32 = .ok (.aload_n 0, 1) := by decide +kernel
theorem dX1_hip_33 : decode cX1_hip 33 = .ok (.iload_n 2, 1) := by decide +kernel
theorem dX1_hip_34 : decode cX1_hip 34 = .ok (.ifCond .ne 7, 3) := by decide +kernel
theorem dX1_hip_37 : decode cX1_hip 37 = .ok (.iload_n 1, 1) := by decide +kernel
theorem dX1_hip_38 : decode cX1_hip 38 = .ok (.goto 5, 3) := by decide +kernel
theorem dX1_hip_41 : decode cX1_hip 41 = .ok (.iload 4, 2) := by decide +kernel
theorem dX1_hip_43 : decode cX1_hip 43 = .ok (.invokevirtual 114, 3) := by decide +kernel
theorem dX1_hip_46 : decode cX1_hip 46 = .ok (.iload_n 3, 1) := by decide +kernel
theorem dX1_hip_47 : decode cX1_hip 47 = .ok (.invokevirtual 60, 3) := by decide +kernel
theorem dX1_hip_50 : decode cX1_hip 50 = .ok (.lreturn, 1) := by decide +kernel
theorem dX1_peak_0 : decode cX1_peak 0 = .ok (.iload_n 1, 1) := by decide +kernel
theorem dX1_peak_1 : decode cX1_peak 1 = .ok (.iconst 2, 1) := by decide +kernel
theorem dX1_peak_2 : decode cX1_peak 2 = .ok (.invokestatic 35, 3) := by decide +kernel
theorem dX1_peak_5 : decode cX1_peak 5 = .ok (.aload_n 0, 1) := by decide +kernel
theorem dX1_peak_6 : decode cX1_peak 6 = .ok (.invokevirtual 118, 3) := by decide +kernel
theorem dX1_peak_9 : decode cX1_peak 9 = .ok (.iload_n 1, 1) := by decide +kernel
theorem dX1_peak_10 : decode cX1_peak 10 = .ok (.invokevirtual 60, 3) := by decide +kernel
theorem dX1_peak_13 : decode cX1_peak 13 = .ok (.lreturn, 1) := by decide +kernel
theorem dX1_ridge_0 : decode cX1_ridge 0 = .ok (.iload_n 1, 1) := by decide +kernel
theorem dX1_ridge_1 : decode cX1_ridge 1 = .ok (.iconst 4, 1) := by decide +kernel
theorem dX1_ridge_2 : decode cX1_ridge 2 = .ok (.invokestatic 35, 3) := by decide +kernel
theorem dX1_ridge_5 : decode cX1_ridge 5 = .ok (.iload_n 2, 1) := by decide +kernel
theorem dX1_ridge_6 : decode cX1_ridge 6 = .ok (.iconst 2, 1) := by decide +kernel
theorem dX1_ridge_7 : decode cX1_ridge 7 = .ok (.invokestatic 35, 3) := by decide +kernel
theorem dX1_ridge_10 : decode cX1_ridge 10 = .ok (.aload_n 0, 1) := by decide +kernel
theorem dX1_ridge_11 : decode cX1_ridge 11 = .ok (.iload_n 1, 1) := by decide +kernel
theorem dX1_ridge_12 : decode cX1_ridge 12 = .ok (.invokevirtual 122, 3) := by decide +kernel
theorem dX1_ridge_15 : decode cX1_ridge 15 = .ok (.iload_n 2, 1) := by decide +kernel
theorem dX1_ridge_16 : decode cX1_ridge 16 = .ok (.invokevirtual 60, 3) := by decide +kernel
theorem dX1_ridge_19 : decode cX1_ridge 19 = .ok (.lreturn, 1) := by decide +kernel
theorem dX1_area_0 : decode cX1_area 0 = .ok (.iload_n 1, 1) := by decide +kernel
theorem dX1_area_1 : decode cX1_area 1 = .ok (.iconst 4, 1) := by decide +kernel
theorem dX1_area_2 : decode cX1_area 2 = .ok (.invokestatic 35, 3) := by decide +kernel
theorem dX1_area_5 : decode cX1_area 5 = .ok (.iload_n 2, 1) := by decide +kernel
theorem dX1_area_6 : decode cX1_area 6 = .ok (.iconst 2, 1) := by decide +kernel
theorem dX1_area_7 : decode cX1_area 7 = .ok (.invokestatic 35, 3) := by decide +kernel
theorem dX1_area_10 : decode cX1_area 10 = .ok (.aload_n 0, 1) := by decide +kernel
theorem dX1_area_11 : decode cX1_area 11 = .ok (.iload_n 1, 1) := by decide +kernel
theorem dX1_area_12 : decode cX1_area 12 = .ok (.invokevirtual 64, 3) := by decide +kernel
theorem dX1_area_15 : decode cX1_area 15 = .ok (.aload_n 0, 1) := by decide +kernel
theorem dX1_area_16 : decode cX1_area 16 = .ok (.iload_n 1, 1) := by decide +kernel
theorem dX1_area_17 : decode cX1_area 17 = .ok (.invokevirtual 125, 3) := by decide +kernel
theorem dX1_area_20 : decode cX1_area 20 = .ok (.iload_n 2, 1) := by decide +kernel
theorem dX1_area_21 : decode cX1_area 21 = .ok (.invokevirtual 60, 3) := by decide +kernel
theorem dX1_area_24 : decode cX1_area 24 = .ok (.lreturn, 1) := by decide +kernel
theorem dX1_batten_0 : decode cX1_batten 0 = .ok (.iload_n 1, 1) := by decide +kernel
theorem dX1_batten_1 : decode cX1_batten 1 = .ok (.iconst 4, 1) := by decide +kernel
theorem dX1_batten_2 : decode cX1_batten 2 = .ok (.invokestatic 35, 3) := by decide +kernel
theorem dX1_batten_5 : decode cX1_batten 5 = .ok (.aload_n 0, 1) := by decide +kernel
theorem dX1_batten_6 : decode cX1_batten 6 = .ok (.iload_n 1, 1) := by decide +kernel
theorem dX1_batten_7 : decode cX1_batten 7 = .ok (.invokevirtual 64, 3) := by decide +kernel
theorem dX1_batten_10 : decode cX1_batten 10 = .ok (.lload_n 2, 1) := by decide +kernel
theorem dX1_batten_11 : decode cX1_batten 11 = .ok (.lconst 1, 1) := by decide +kernel
theorem dX1_batten_12 : decode cX1_batten 12 = .ok (.ldc2_w 67, 3) := by decide +kernel
theorem dX1_batten_15 : decode cX1_batten 15 = .ok (.invokestatic 31, 3) := by decide +kernel
theorem dX1_batten_18 : decode cX1_batten 18 = .ok (.aload_n 0, 1) := by decide +kernel
theorem dX1_batten_19 : decode cX1_batten 19 = .ok (.iload_n 1, 1) := by decide +kernel
theorem dX1_batten_20 : decode cX1_batten 20 = .ok (.aload_n 0, 1) := by decide +kernel
theorem dX1_batten_21 : decode cX1_batten 21 = .ok (.iload_n 1, 1) := by decide +kernel
theorem dX1_batten_22 : decode cX1_batten 22 = .ok (.invokevirtual 114, 3) := by decide +kernel
theorem dX1_batten_25 : decode cX1_batten 25 = .ok (.invokevirtual 84, 3) := by decide +kernel
theorem dX1_batten_28 : decode cX1_batten 28 = .ok (.invokevirtual 88, 3) := by decide +kernel
theorem dX1_batten_31 : decode cX1_batten 31 = .ok (.invokestatic 92, 3) := by decide +kernel
theorem dX1_batten_34 : decode cX1_batten 34 = .ok (.lstore 4, 2) := by decide +kernel
theorem dX1_batten_36 : decode cX1_batten 36 = .ok (.lload 4, 2) := by decide +kernel
theorem dX1_batten_38 : decode cX1_batten 38 = .ok (.lload_n 2, 1) := by decide +kernel
theorem dX1_batten_39 : decode cX1_batten 39 = .ok (.ldiv, 1) := by decide +kernel
theorem dX1_batten_40 : decode cX1_batten 40 = .ok (.l2i, 1) := by decide +kernel
theorem dX1_batten_41 : decode cX1_batten 41 = .ok (.ireturn, 1) := by decide +kernel
theorem dX1_checkIndex_0 : decode cX1_checkIndex 0 = .ok (.iload_n 0, 1) := by decide +kernel
theorem dX1_checkIndex_1 : decode cX1_checkIndex 1 = .ok (.ifCond .lt 8, 3) := by decide +kernel
theorem dX1_checkIndex_4 : decode cX1_checkIndex 4 = .ok (.iload_n 0, 1) := by decide +kernel
theorem dX1_checkIndex_5 : decode cX1_checkIndex 5 = .ok (.iload_n 1, 1) := by decide +kernel
theorem dX1_checkIndex_6 : decode cX1_checkIndex 6 = .ok (.if_icmp .lt 13, 3) := by decide +kernel
theorem dX1_checkIndex_9 : decode cX1_checkIndex 9 = .ok (.new 128, 3) := by decide +kernel
theorem dX1_checkIndex_12 : decode cX1_checkIndex 12 = .ok (.dup, 1) := by decide +kernel
theorem dX1_checkIndex_13 : decode cX1_checkIndex 13 = .ok (.ldc 130, 2) := by decide +kernel
theorem dX1_checkIndex_15 : decode cX1_checkIndex 15 = .ok (.invokespecial 132, 3) := by decide +kernel
theorem dX1_checkIndex_18 : decode cX1_checkIndex 18 = .ok (.athrow, 1) := by decide +kernel
theorem dX1_checkIndex_19 : decode cX1_checkIndex 19 = .ok (.return_, 1) := by decide +kernel
theorem dX1_checkNumber_0 : decode cX1_checkNumber 0 = .ok (.lload_n 0, 1) := by decide +kernel
theorem dX1_checkNumber_1 : decode cX1_checkNumber 1 = .ok (.lload_n 2, 1) := by decide +kernel
theorem dX1_checkNumber_2 : decode cX1_checkNumber 2 = .ok (.lcmp, 1) := by decide +kernel
theorem dX1_checkNumber_3 : decode cX1_checkNumber 3 = .ok (.ifCond .lt 10, 3) := by decide +kernel
theorem dX1_checkNumber_6 : decode cX1_checkNumber 6 = .ok (.lload_n 0, 1) := by decide +kernel
theorem dX1_checkNumber_7 : decode cX1_checkNumber 7 = .ok (.lload 4, 2) := by decide +kernel
theorem dX1_checkNumber_9 : decode cX1_checkNumber 9 = .ok (.lcmp, 1) := by decide +kernel
theorem dX1_checkNumber_10 : decode cX1_checkNumber 10 = .ok (.ifCond .le 13, 3) := by decide +kernel
theorem dX1_checkNumber_13 : decode cX1_checkNumber 13 = .ok (.new 135, 3) := by decide +kernel
theorem dX1_checkNumber_16 : decode cX1_checkNumber 16 = .ok (.dup, 1) := by decide +kernel
theorem dX1_checkNumber_17 : decode cX1_checkNumber 17 = .ok (.ldc 137, 2) := by decide +kernel
theorem dX1_checkNumber_19 : decode cX1_checkNumber 19 = .ok (.invokespecial 139, 3) := by decide +kernel
theorem dX1_checkNumber_22 : decode cX1_checkNumber 22 = .ok (.athrow, 1) := by decide +kernel
theorem dX1_checkNumber_23 : decode cX1_checkNumber 23 = .ok (.return_, 1) := by decide +kernel
theorem dX1_checkNoGable_0 : decode cX1_checkNoGable 0 = .ok (.aload_n 0, 1) := by decide +kernel
theorem dX1_checkNoGable_1 : decode cX1_checkNoGable 1 = .ok (.iload_n 1, 1) := by decide +kernel
theorem dX1_checkNoGable_2 : decode cX1_checkNoGable 2 = .ok (.invokevirtual 140, 3) := by decide +kernel
theorem dX1_checkNoGable_5 : decode cX1_checkNoGable 5 = .ok (.ifCond .eq 13, 3) := by decide +kernel
theorem dX1_checkNoGable_8 : decode cX1_checkNoGable 8 = .ok (.new 144, 3) := by decide +kernel
theorem dX1_checkNoGable_11 : decode cX1_checkNoGable 11 = .ok (.dup, 1) := by decide +kernel
theorem dX1_checkNoGable_12 : decode cX1_checkNoGable 12 = .ok (.ldc 146, 2) := by decide +kernel
theorem dX1_checkNoGable_14 : decode cX1_checkNoGable 14 = .ok (.invokespecial 148, 3) := by decide +kernel
theorem dX1_checkNoGable_17 : decode cX1_checkNoGable 17 = .ok (.athrow, 1) := by decide +kernel
theorem dX1_checkNoGable_18 : decode cX1_checkNoGable 18 = .ok (.return_, 1) := by decide +kernel
theorem dX1_checkOthersAreNotAllGables_0 : decode cX1_checkOthersAreNotAllGables 0 = .ok (.iconst 0, 1) := by decide +kernel
theorem dX1_checkOthersAreNotAllGables_1 : decode cX1_checkOthersAreNotAllGables 1 = .ok (.istore_n 2, 1) := by decide +kernel
theorem dX1_checkOthersAreNotAllGables_2 : decode cX1_checkOthersAreNotAllGables 2 = .ok (.iload_n 2, 1) := by decide +kernel
theorem dX1_checkOthersAreNotAllGables_3 : decode cX1_checkOthersAreNotAllGables 3 = .ok (.iconst 4, 1) := by decide +kernel
theorem dX1_checkOthersAreNotAllGables_4 : decode cX1_checkOthersAreNotAllGables 4 = .ok (.if_icmp .ge 23, 3) := by decide +kernel
theorem dX1_checkOthersAreNotAllGables_7 : decode cX1_checkOthersAreNotAllGables 7 = .ok (.iload_n 2, 1) := by decide +kernel
theorem dX1_checkOthersAreNotAllGables_8 : decode cX1_checkOthersAreNotAllGables 8 = .ok (.iload_n 1, 1) := by decide +kernel
theorem dX1_checkOthersAreNotAllGables_9 : decode cX1_checkOthersAreNotAllGables 9 = .ok (.if_icmp .eq 12, 3) := by decide +kernel
theorem dX1_checkOthersAreNotAllGables_12 : decode cX1_checkOthersAreNotAllGables 12 = .ok (.aload_n 0, 1) := by decide +kernel
theorem dX1_checkOthersAreNotAllGables_13 : decode cX1_checkOthersAreNotAllGables 13 = .ok (.iload_n 2, 1) := by decide +kernel
theorem dX1_checkOthersAreNotAllGables_14 : decode cX1_checkOthersAreNotAllGables 14 = .ok (.invokevirtual 140, 3) := by decide +kernel
theorem dX1_checkOthersAreNotAllGables_17 : decode cX1_checkOthersAreNotAllGables 17 = .ok (.ifCond .ne 4, 3) := by decide +kernel
theorem dX1_checkOthersAreNotAllGables_20 : decode cX1_checkOthersAreNotAllGables 20 = .ok (.return_, 1) := by decide +kernel
theorem dX1_checkOthersAreNotAllGables_21 : decode cX1_checkOthersAreNotAllGables 21 = .ok (.iinc 2 1, 3) := by decide +kernel
theorem dX1_checkOthersAreNotAllGables_24 : decode cX1_checkOthersAreNotAllGables 24 = .ok (.goto (-22), 3) := by decide +kernel
theorem dX1_checkOthersAreNotAllGables_27 : decode cX1_checkOthersAreNotAllGables 27 = .ok (.new 144, 3) := by decide +kernel
theorem dX1_checkOthersAreNotAllGables_30 : decode cX1_checkOthersAreNotAllGables 30 = .ok (.dup, 1) := by decide +kernel
theorem dX1_checkOthersAreNotAllGables_31 : decode cX1_checkOthersAreNotAllGables 31 = .ok (.ldc 149, 2) := by decide +kernel
theorem dX1_checkOthersAreNotAllGables_33 : decode cX1_checkOthersAreNotAllGables 33 = .ok (.invokespecial 148, 3) := by decide +kernel
theorem dX1_checkOthersAreNotAllGables_36 : decode cX1_checkOthersAreNotAllGables 36 = .ok (.athrow, 1) := by decide +kernel
theorem dX1_checkInOutline_0 : decode cX1_checkInOutline 0 = .ok (.lload_n 1, 1) := by decide +kernel
theorem dX1_checkInOutline_1 : decode cX1_checkInOutline 1 = .ok (.lconst 0, 1) := by decide +kernel
theorem dX1_checkInOutline_2 : decode cX1_checkInOutline 2 = .ok (.aload_n 0, 1) := by decide +kernel
theorem dX1_checkInOutline_3 : decode cX1_checkInOutline 3 = .ok (.getfield 9, 3) := by decide +kernel
theorem dX1_checkInOutline_6 : decode cX1_checkInOutline 6 = .ok (.invokestatic 31, 3) := by decide +kernel
theorem dX1_checkInOutline_9 : decode cX1_checkInOutline 9 = .ok (.lload_n 3, 1) := by decide +kernel
theorem dX1_checkInOutline_10 : decode cX1_checkInOutline 10 = .ok (.lconst 0, 1) := by decide +kernel
theorem dX1_checkInOutline_11 : decode cX1_checkInOutline 11 = .ok (.aload_n 0, 1) := by decide +kernel
theorem dX1_checkInOutline_12 : decode cX1_checkInOutline 12 = .ok (.getfield 17, 3) := by decide +kernel
theorem dX1_checkInOutline_15 : decode cX1_checkInOutline 15 = .ok (.invokestatic 31, 3) := by decide +kernel
theorem dX1_checkInOutline_18 : decode cX1_checkInOutline 18 = .ok (.return_, 1) := by decide +kernel
theorem dX1_checkRafter_0 : decode cX1_checkRafter 0 = .ok (.aload_n 0, 1) := by decide +kernel
theorem dX1_checkRafter_1 : decode cX1_checkRafter 1 = .ok (.iload_n 1, 1) := by decide +kernel
theorem dX1_checkRafter_2 : decode cX1_checkRafter 2 = .ok (.invokevirtual 64, 3) := by decide +kernel
theorem dX1_checkRafter_5 : decode cX1_checkRafter 5 = .ok (.lload_n 2, 1) := by decide +kernel
theorem dX1_checkRafter_6 : decode cX1_checkRafter 6 = .ok (.lconst 0, 1) := by decide +kernel
theorem dX1_checkRafter_7 : decode cX1_checkRafter 7 = .ok (.aload_n 0, 1) := by decide +kernel
theorem dX1_checkRafter_8 : decode cX1_checkRafter 8 = .ok (.iload_n 1, 1) := by decide +kernel
theorem dX1_checkRafter_9 : decode cX1_checkRafter 9 = .ok (.invokevirtual 69, 3) := by decide +kernel
theorem dX1_checkRafter_12 : decode cX1_checkRafter 12 = .ok (.invokestatic 31, 3) := by decide +kernel
theorem dX1_checkRafter_15 : decode cX1_checkRafter 15 = .ok (.return_, 1) := by decide +kernel
theorem dX1_isGable_0 : decode cX1_isGable 0 = .ok (.aload_n 0, 1) := by decide +kernel
theorem dX1_isGable_1 : decode cX1_isGable 1 = .ok (.getfield 22, 3) := by decide +kernel
theorem dX1_isGable_4 : decode cX1_isGable 4 = .ok (.iload_n 1, 1) := by decide +kernel
theorem dX1_isGable_5 : decode cX1_isGable 5 = .ok (.aaload, 1) := by decide +kernel
theorem dX1_isGable_6 : decode cX1_isGable 6 = .ok (.getfield 99, 3) := by decide +kernel
theorem dX1_isGable_9 : decode cX1_isGable 9 = .ok (.lconst 0, 1) := by decide +kernel
theorem dX1_isGable_10 : decode cX1_isGable 10 = .ok (.lcmp, 1) := by decide +kernel
theorem dX1_isGable_11 : decode cX1_isGable 11 = .ok (.ifCond .ne 7, 3) := by decide +kernel
theorem dX1_isGable_14 : decode cX1_isGable 14 = .ok (.iconst 1, 1) := by decide +kernel
theorem dX1_isGable_15 : decode cX1_isGable 15 = .ok (.goto 4, 3) := by decide +kernel
theorem dX1_isGable_18 : decode cX1_isGable 18 = .ok (.iconst 0, 1) := by decide +kernel
theorem dX1_isGable_19 : decode cX1_isGable 19 = .ok (.ireturn, 1) := by decide +kernel
theorem dX1_changeRun_0 : decode cX1_changeRun 0 = .ok (.aload_n 2, 1) := by decide +kernel
theorem dX1_changeRun_1 : decode cX1_changeRun 1 = .ok (.aload_n 0, 1) := by decide +kernel
theorem dX1_changeRun_2 : decode cX1_changeRun 2 = .ok (.getfield 22, 3) := by decide +kernel
theorem dX1_changeRun_5 : decode cX1_changeRun 5 = .ok (.iload_n 1, 1) := by decide +kernel
theorem dX1_changeRun_6 : decode cX1_changeRun 6 = .ok (.aaload, 1) := by decide +kernel
theorem dX1_changeRun_7 : decode cX1_changeRun 7 = .ok (.invokevirtual 151, 3) := by decide +kernel
theorem dX1_changeRun_10 : decode cX1_changeRun 10 = .ok (.ifCond .ne 7, 3) := by decide +kernel
theorem dX1_changeRun_13 : decode cX1_changeRun 13 = .ok (.iconst 1, 1) := by decide +kernel
theorem dX1_changeRun_14 : decode cX1_changeRun 14 = .ok (.goto 4, 3) := by decide +kernel
theorem dX1_changeRun_17 : decode cX1_changeRun 17 = .ok (.iconst 0, 1) := by decide +kernel
theorem dX1_changeRun_18 : decode cX1_changeRun 18 = .ok (.istore_n 3, 1) := by decide +kernel
theorem dX1_changeRun_19 : decode cX1_changeRun 19 = .ok (.aload_n 0, 1) := by decide +kernel
theorem dX1_changeRun_20 : decode cX1_changeRun 20 = .ok (.getfield 22, 3) := by decide +kernel
theorem dX1_changeRun_23 : decode cX1_changeRun 23 = .ok (.iload_n 1, 1) := by decide +kernel
theorem dX1_changeRun_24 : decode cX1_changeRun 24 = .ok (.aload_n 2, 1) := by decide +kernel
theorem dX1_changeRun_25 : decode cX1_changeRun 25 = .ok (.aastore, 1) := by decide +kernel
theorem dX1_changeRun_26 : decode cX1_changeRun 26 = .ok (.iload_n 3, 1) := by decide +kernel
theorem dX1_changeRun_27 : decode cX1_changeRun 27 = .ok (.ireturn, 1) := by decide +kernel
theorem dX1_sideBehind_0 : decode cX1_sideBehind 0 = .ok (.iload_n 0, 1) := by decide +kernel
theorem dX1_sideBehind_1 : decode cX1_sideBehind 1 = .ok (.iconst 1, 1) := by decide +kernel
theorem dX1_sideBehind_2 : decode cX1_sideBehind 2 = .ok (.iadd, 1) := by decide +kernel
theorem dX1_sideBehind_3 : decode cX1_sideBehind 3 = .ok (.iconst 4, 1) := by decide +kernel
theorem dX1_sideBehind_4 : decode cX1_sideBehind 4 = .ok (.irem, 1) := by decide +kernel
theorem dX1_sideBehind_5 : decode cX1_sideBehind 5 = .ok (.ireturn, 1) := by decide +kernel
theorem dX1_opposite_0 : decode cX1_opposite 0 = .ok (.iload_n 0, 1) := by decide +kernel
theorem dX1_opposite_1 : decode cX1_opposite 1 = .ok (.iconst 2, 1) := by decide +kernel
theorem dX1_opposite_2 : decode cX1_opposite 2 = .ok (.iadd, 1) := by decide +kernel
theorem dX1_opposite_3 : decode cX1_opposite 3 = .ok (.iconst 4, 1) := by decide +kernel
theorem dX1_opposite_4 : decode cX1_opposite 4 = .ok (.irem, 1) := by decide +kernel
theorem dX1_opposite_5 : decode cX1_opposite 5 = .ok (.ireturn, 1) := by decide +kernel
theorem dX1_goesAlongX_0 : decode cX1_goesAlongX 0 = .ok (.iload_n 0, 1) := by decide +kernel
theorem dX1_goesAlongX_1 : decode cX1_goesAlongX 1 = .ok (.ifCond .eq 8, 3) := by decide +kernel
theorem dX1_goesAlongX_4 : decode cX1_goesAlongX 4 = .ok (.iload_n 0, 1) := by decide +kernel
theorem dX1_goesAlongX_5 : decode cX1_goesAlongX 5 = .ok (.iconst 2, 1) := by decide +kernel
theorem dX1_goesAlongX_6 : decode cX1_goesAlongX 6 = .ok (.if_icmp .ne 7, 3) := by decide +kernel
theorem dX1_goesAlongX_9 : decode cX1_goesAlongX 9 = .ok (.iconst 1, 1) := by decide +kernel
theorem dX1_goesAlongX_10 : decode cX1_goesAlongX 10 = .ok (.goto 4, 3) := by decide +kernel
theorem dX1_goesAlongX_13 : decode cX1_goesAlongX 13 = .ok (.iconst 0, 1) := by decide +kernel
theorem dX1_goesAlongX_14 : decode cX1_goesAlongX 14 = .ok (.ireturn, 1) := by decide +kernel
theorem dX1_sideLength_0 : decode cX1_sideLength 0 = .ok (.iload_n 1, 1) := by decide +kernel
theorem dX1_sideLength_1 : decode cX1_sideLength 1 = .ok (.invokestatic 155, 3) := by decide +kernel
theorem dX1_sideLength_4 : decode cX1_sideLength 4 = .ok (.ifCond .eq 10, 3) := by decide +kernel
theorem dX1_sideLength_7 : decode cX1_sideLength 7 = .ok (.aload_n 0, 1) := by decide +kernel
theorem dX1_sideLength_8 : decode cX1_sideLength 8 = .ok (.getfield 9, 3) := by decide +kernel
theorem dX1_sideLength_11 : decode cX1_sideLength 11 = .ok (.goto 7, 3) := by decide +kernel
theorem dX1_sideLength_14 : decode cX1_sideLength 14 = .ok (.aload_n 0, 1) := by decide +kernel
theorem dX1_sideLength_15 : decode cX1_sideLength 15 = .ok (.getfield 17, 3) := by decide +kernel
theorem dX1_sideLength_18 : decode cX1_sideLength 18 = .ok (.lreturn, 1) := by decide +kernel
theorem dX1_wayToOpposite_0 : decode cX1_wayToOpposite 0 = .ok (.iload_n 1, 1) := by decide +kernel
theorem dX1_wayToOpposite_1 : decode cX1_wayToOpposite 1 = .ok (.invokestatic 155, 3) := by decide +kernel
theorem dX1_wayToOpposite_4 : decode cX1_wayToOpposite 4 = .ok (.ifCond .eq 10, 3) := by decide +kernel
theorem dX1_wayToOpposite_7 : decode cX1_wayToOpposite 7 = .ok (.aload_n 0, 1) := by decide +kernel
theorem dX1_wayToOpposite_8 : decode cX1_wayToOpposite 8 = .ok (.getfield 17, 3) := by decide +kernel
theorem dX1_wayToOpposite_11 : decode cX1_wayToOpposite 11 = .ok (.goto 7, 3) := by decide +kernel
theorem dX1_wayToOpposite_14 : decode cX1_wayToOpposite 14 = .ok (.aload_n 0, 1) := by decide +kernel
theorem dX1_wayToOpposite_15 : decode cX1_wayToOpposite 15 = .ok (.getfield 9, 3) := by decide +kernel
theorem dX1_wayToOpposite_18 : decode cX1_wayToOpposite 18 = .ok (.lreturn, 1) := by decide +kernel
theorem dX1_distanceFrom_0 : decode cX1_distanceFrom 0 = .ok (.iload_n 1, 1) := by decide +kernel
theorem dX1_distanceFrom_1 : decode cX1_distanceFrom 1 = .ok (.tableswitch 45 0 2 #[27, 30, 37], 27) := by decide +kernel
theorem dX1_distanceFrom_28 : decode cX1_distanceFrom 28 = .ok (.lload 4, 2) := by decide +kernel
theorem dX1_distanceFrom_30 : decode cX1_distanceFrom 30 = .ok (.lreturn, 1) := by decide +kernel
theorem dX1_distanceFrom_31 : decode cX1_distanceFrom 31 = .ok (.aload_n 0, 1) := by decide +kernel
theorem dX1_distanceFrom_32 : decode cX1_distanceFrom 32 = .ok (.getfield 9, 3) := by decide +kernel
theorem dX1_distanceFrom_35 : decode cX1_distanceFrom 35 = .ok (.lload_n 2, 1) := by decide +kernel
theorem dX1_distanceFrom_36 : decode cX1_distanceFrom 36 = .ok (.lsub, 1) := by decide +kernel
theorem dX1_distanceFrom_37 : decode cX1_distanceFrom 37 = .ok (.lreturn, 1) := by decide +kernel
theorem dX1_distanceFrom_38 : decode cX1_distanceFrom 38 = .ok (.aload_n 0, 1) := by decide +kernel
theorem dX1_distanceFrom_39 : decode cX1_distanceFrom 39 = .ok (.getfield 17, 3) := by decide +kernel
theorem dX1_distanceFrom_42 : decode cX1_distanceFrom 42 = .ok (.lload 4, 2) := by decide +kernel
theorem dX1_distanceFrom_44 : decode cX1_distanceFrom 44 = .ok (.lsub, 1) := by decide +kernel
theorem dX1_distanceFrom_45 : decode cX1_distanceFrom 45 = .ok (.lreturn, 1) := by decide +kernel
theorem dX1_distanceFrom_46 : decode cX1_distanceFrom 46 = .ok (.lload_n 2, 1) := by decide +kernel
theorem dX1_distanceFrom_47 : decode cX1_distanceFrom 47 = .ok (.lreturn, 1) := by decide +kernel
theorem dX1_planeHeight_0 : decode cX1_planeHeight 0 = .ok (.new 20, 3) := by decide +kernel
theorem dX1_planeHeight_3 : decode cX1_planeHeight 3 = .ok (.dup, 1) := by decide +kernel
theorem dX1_planeHeight_4 : decode cX1_planeHeight 4 = .ok (.aload_n 0, 1) := by decide +kernel
theorem dX1_planeHeight_5 : decode cX1_planeHeight 5 = .ok (.getfield 22, 3) := by decide +kernel
theorem dX1_planeHeight_8 : decode cX1_planeHeight 8 = .ok (.iload_n 1, 1) := by decide +kernel
theorem dX1_planeHeight_9 : decode cX1_planeHeight 9 = .ok (.aaload, 1) := by decide +kernel
theorem dX1_planeHeight_10 : decode cX1_planeHeight 10 = .ok (.getfield 96, 3) := by decide +kernel
theorem dX1_planeHeight_13 : decode cX1_planeHeight 13 = .ok (.aload_n 0, 1) := by decide +kernel
theorem dX1_planeHeight_14 : decode cX1_planeHeight 14 = .ok (.iload_n 1, 1) := by decide +kernel
theorem dX1_planeHeight_15 : decode cX1_planeHeight 15 = .ok (.lload_n 2, 1) := by decide +kernel
theorem dX1_planeHeight_16 : decode cX1_planeHeight 16 = .ok (.lload 4, 2) := by decide +kernel
theorem dX1_planeHeight_18 : decode cX1_planeHeight 18 = .ok (.invokevirtual 158, 3) := by decide +kernel
theorem dX1_planeHeight_21 : decode cX1_planeHeight 21 = .ok (.lmul, 1) := by decide +kernel
theorem dX1_planeHeight_22 : decode cX1_planeHeight 22 = .ok (.aload_n 0, 1) := by decide +kernel
theorem dX1_planeHeight_23 : decode cX1_planeHeight 23 = .ok (.getfield 22, 3) := by decide +kernel
theorem dX1_planeHeight_26 : decode cX1_planeHeight 26 = .ok (.iload_n 1, 1) := by decide +kernel
theorem dX1_planeHeight_27 : decode cX1_planeHeight 27 = .ok (.aaload, 1) := by decide +kernel
theorem dX1_planeHeight_28 : decode cX1_planeHeight 28 = .ok (.getfield 99, 3) := by decide +kernel
theorem dX1_planeHeight_31 : decode cX1_planeHeight 31 = .ok (.invokespecial 26, 3) := by decide +kernel
theorem dX1_planeHeight_34 : decode cX1_planeHeight 34 = .ok (.areturn, 1) := by decide +kernel
theorem dX1_isLower_0 : decode cX1_isLower 0 = .ok (.aload_n 0, 1) := by decide +kernel
theorem dX1_isLower_1 : decode cX1_isLower 1 = .ok (.iload_n 1, 1) := by decide +kernel
theorem dX1_isLower_2 : decode cX1_isLower 2 = .ok (.lload_n 3, 1) := by decide +kernel
theorem dX1_isLower_3 : decode cX1_isLower 3 = .ok (.lload 5, 2) := by decide +kernel
theorem dX1_isLower_5 : decode cX1_isLower 5 = .ok (.invokevirtual 56, 3) := by decide +kernel
theorem dX1_isLower_8 : decode cX1_isLower 8 = .ok (.aload_n 0, 1) := by decide +kernel
theorem dX1_isLower_9 : decode cX1_isLower 9 = .ok (.iload_n 2, 1) := by decide +kernel
theorem dX1_isLower_10 : decode cX1_isLower 10 = .ok (.lload_n 3, 1) := by decide +kernel
theorem dX1_isLower_11 : decode cX1_isLower 11 = .ok (.lload 5, 2) := by decide +kernel
theorem dX1_isLower_13 : decode cX1_isLower 13 = .ok (.invokevirtual 56, 3) := by decide +kernel
theorem dX1_isLower_16 : decode cX1_isLower 16 = .ok (.invokevirtual 162, 3) := by decide +kernel
theorem dX1_isLower_19 : decode cX1_isLower 19 = .ok (.ireturn, 1) := by decide +kernel
theorem dX1_lowestSide_0 : decode cX1_lowestSide 0 = .ok (.iconst 0, 1) := by decide +kernel
theorem dX1_lowestSide_1 : decode cX1_lowestSide 1 = .ok (.istore 5, 2) := by decide +kernel
theorem dX1_lowestSide_3 : decode cX1_lowestSide 3 = .ok (.iconst 1, 1) := by decide +kernel
theorem dX1_lowestSide_4 : decode cX1_lowestSide 4 = .ok (.istore 6, 2) := by decide +kernel
theorem dX1_lowestSide_6 : decode cX1_lowestSide 6 = .ok (.iload 6, 2) := by decide +kernel
theorem dX1_lowestSide_8 : decode cX1_lowestSide 8 = .ok (.iconst 4, 1) := by decide +kernel
theorem dX1_lowestSide_9 : decode cX1_lowestSide 9 = .ok (.if_icmp .ge 44, 3) := by decide +kernel
theorem dX1_lowestSide_12 : decode cX1_lowestSide 12 = .ok (.aload_n 0, 1) := by decide +kernel
theorem dX1_lowestSide_13 : decode cX1_lowestSide 13 = .ok (.iload 6, 2) := by decide +kernel
theorem dX1_lowestSide_15 : decode cX1_lowestSide 15 = .ok (.invokevirtual 140, 3) := by decide +kernel
theorem dX1_lowestSide_18 : decode cX1_lowestSide 18 = .ok (.ifCond .ne 29, 3) := by decide +kernel
theorem dX1_lowestSide_21 : decode cX1_lowestSide 21 = .ok (.aload_n 0, 1) := by decide +kernel
theorem dX1_lowestSide_22 : decode cX1_lowestSide 22 = .ok (.iload 5, 2) := by decide +kernel
theorem dX1_lowestSide_24 : decode cX1_lowestSide 24 = .ok (.invokevirtual 140, 3) := by decide +kernel
theorem dX1_lowestSide_27 : decode cX1_lowestSide 27 = .ok (.ifCond .ne 16, 3) := by decide +kernel
theorem dX1_lowestSide_30 : decode cX1_lowestSide 30 = .ok (.aload_n 0, 1) := by decide +kernel
theorem dX1_lowestSide_31 : decode cX1_lowestSide 31 = .ok (.iload 6, 2) := by decide +kernel
theorem dX1_lowestSide_33 : decode cX1_lowestSide 33 = .ok (.iload 5, 2) := by decide +kernel
theorem dX1_lowestSide_35 : decode cX1_lowestSide 35 = .ok (.lload_n 1, 1) := by decide +kernel
theorem dX1_lowestSide_36 : decode cX1_lowestSide 36 = .ok (.lload_n 3, 1) := by decide +kernel
theorem dX1_lowestSide_37 : decode cX1_lowestSide 37 = .ok (.invokevirtual 165, 3) := by decide +kernel
theorem dX1_lowestSide_40 : decode cX1_lowestSide 40 = .ok (.ifCond .eq 7, 3) := by decide +kernel
theorem dX1_lowestSide_43 : decode cX1_lowestSide 43 = .ok (.iload 6, 2) := by decide +kernel
theorem dX1_lowestSide_45 : decode cX1_lowestSide 45 = .ok (.istore 5, 2) := by decide +kernel
theorem dX1_lowestSide_47 : decode cX1_lowestSide 47 = .ok (.iinc 6 1, 3) := by decide +kernel
theorem dX1_lowestSide_50 : decode cX1_lowestSide 50 = .ok (.goto (-44), 3) := by decide +kernel
theorem dX1_lowestSide_53 : decode cX1_lowestSide 53 = .ok (.iload 5, 2) := by decide +kernel
theorem dX1_lowestSide_55 : decode cX1_lowestSide 55 = .ok (.ireturn, 1) := by decide +kernel
theorem dX1_limitBy_0 : decode cX1_limitBy 0 = .ok (.aload_n 0, 1) := by decide +kernel
theorem dX1_limitBy_1 : decode cX1_limitBy 1 = .ok (.getfield 22, 3) := by decide +kernel
theorem dX1_limitBy_4 : decode cX1_limitBy 4 = .ok (.iload_n 2, 1) := by decide +kernel
theorem dX1_limitBy_5 : decode cX1_limitBy 5 = .ok (.aaload, 1) := by decide +kernel
theorem dX1_limitBy_6 : decode cX1_limitBy 6 = .ok (.astore 5, 2) := by decide +kernel
theorem dX1_limitBy_8 : decode cX1_limitBy 8 = .ok (.iload_n 1, 1) := by decide +kernel
theorem dX1_limitBy_9 : decode cX1_limitBy 9 = .ok (.iload_n 2, 1) := by decide +kernel
theorem dX1_limitBy_10 : decode cX1_limitBy 10 = .ok (.invokestatic 169, 3) := by decide +kernel
theorem dX1_limitBy_13 : decode cX1_limitBy 13 = .ok (.if_icmp .ne 28, 3) := by decide +kernel
theorem dX1_limitBy_16 : decode cX1_limitBy 16 = .ok (.aload 5, 2) := by decide +kernel
theorem dX1_limitBy_18 : decode cX1_limitBy 18 = .ok (.aload 5, 2) := by decide +kernel
theorem dX1_limitBy_20 : decode cX1_limitBy 20 = .ok (.aload_n 0, 1) := by decide +kernel
theorem dX1_limitBy_21 : decode cX1_limitBy 21 = .ok (.getfield 22, 3) := by decide +kernel
theorem dX1_limitBy_24 : decode cX1_limitBy 24 = .ok (.iload_n 1, 1) := by decide +kernel
theorem dX1_limitBy_25 : decode cX1_limitBy 25 = .ok (.aaload, 1) := by decide +kernel
theorem dX1_limitBy_26 : decode cX1_limitBy 26 = .ok (.invokevirtual 172, 3) := by decide +kernel
theorem dX1_limitBy_29 : decode cX1_limitBy 29 = .ok (.invokevirtual 176, 3) := by decide +kernel
theorem dX1_limitBy_32 : decode cX1_limitBy 32 = .ok (.aload_n 0, 1) := by decide +kernel
theorem dX1_limitBy_33 : decode cX1_limitBy 33 = .ok (.iload_n 2, 1) := by decide +kernel
theorem dX1_limitBy_34 : decode cX1_limitBy 34 = .ok (.invokevirtual 179, 3) := by decide +kernel
theorem dX1_limitBy_37 : decode cX1_limitBy 37 = .ok (.invokevirtual 106, 3) := by decide +kernel
theorem dX1_limitBy_40 : decode cX1_limitBy 40 = .ok (.areturn, 1) := by decide +kernel
theorem dX1_limitBy_41 : decode cX1_limitBy 41 = .ok (.iload_n 1, 1) := by decide +kernel
theorem dX1_limitBy_42 : decode cX1_limitBy 42 = .ok (.ifCond .eq 8, 3) := by decide +kernel
theorem dX1_limitBy_45 : decode cX1_limitBy 45 = .ok (.iload_n 1, 1) := by decide +kernel
theorem dX1_limitBy_46 : decode cX1_limitBy 46 = .ok (.iconst 3, 1) := by decide +kernel
theorem dX1_limitBy_47 : decode cX1_limitBy 47 = .ok (.if_icmp .ne 7, 3) := by decide +kernel
theorem dX1_limitBy_50 : decode cX1_limitBy 50 = .ok (.iconst 1, 1) := by decide +kernel
theorem dX1_limitBy_51 : decode cX1_limitBy 51 = .ok (.goto 4, 3) := by decide +kernel
theorem dX1_limitBy_54 : decode cX1_limitBy 54 = .ok (.iconst 0, 1) := by decide +kernel
theorem dX1_limitBy_55 : decode cX1_limitBy 55 = .ok (.istore 6, 2) := by decide +kernel
theorem dX1_limitBy_57 : decode cX1_limitBy 57 = .ok (.iload 6, 2) := by decide +kernel
theorem dX1_limitBy_59 : decode cX1_limitBy 59 = .ok (.ifCond .eq 7, 3) := by decide +kernel
theorem dX1_limitBy_62 : decode cX1_limitBy 62 = .ok (.lload_n 3, 1) := by decide +kernel
theorem dX1_limitBy_63 : decode cX1_limitBy 63 = .ok (.goto 10, 3) := by decide +kernel
theorem dX1_limitBy_66 : decode cX1_limitBy 66 = .ok (.aload_n 0, 1) := by decide +kernel
theorem dX1_limitBy_67 : decode cX1_limitBy 67 = .ok (.iload_n 2, 1) := by decide +kernel
theorem dX1_limitBy_68 : decode cX1_limitBy 68 = .ok (.invokevirtual 69, 3) := by decide +kernel
theorem dX1_limitBy_71 : decode cX1_limitBy 71 = .ok (.lload_n 3, 1) := by decide +kernel
theorem dX1_limitBy_72 : decode cX1_limitBy 72 = .ok (.lsub, 1) := by decide +kernel
theorem dX1_limitBy_73 : decode cX1_limitBy 73 = .ok (.lstore 7, 2) := by decide +kernel
theorem dX1_limitBy_75 : decode cX1_limitBy 75 = .ok (.aload 5, 2) := by decide +kernel
theorem dX1_limitBy_77 : decode cX1_limitBy 77 = .ok (.aload_n 0, 1) := by decide +kernel
theorem dX1_limitBy_78 : decode cX1_limitBy 78 = .ok (.getfield 22, 3) := by decide +kernel
theorem dX1_limitBy_81 : decode cX1_limitBy 81 = .ok (.iload_n 1, 1) := by decide +kernel
theorem dX1_limitBy_82 : decode cX1_limitBy 82 = .ok (.aaload, 1) := by decide +kernel
theorem dX1_limitBy_83 : decode cX1_limitBy 83 = .ok (.invokevirtual 176, 3) := by decide +kernel
theorem dX1_limitBy_86 : decode cX1_limitBy 86 = .ok (.lload 7, 2) := by decide +kernel
theorem dX1_limitBy_88 : decode cX1_limitBy 88 = .ok (.invokevirtual 106, 3) := by decide +kernel
theorem dX1_limitBy_91 : decode cX1_limitBy 91 = .ok (.areturn, 1) := by decide +kernel
theorem dX1_endingSide_0 : decode cX1_endingSide 0 = .ok (.iload_n 1, 1) := by decide +kernel
theorem dX1_endingSide_1 : decode cX1_endingSide 1 = .ok (.invokestatic 169, 3) := by decide +kernel
theorem dX1_endingSide_4 : decode cX1_endingSide 4 = .ok (.istore 4, 2) := by decide +kernel
theorem dX1_endingSide_6 : decode cX1_endingSide 6 = .ok (.aload_n 0, 1) := by decide +kernel
theorem dX1_endingSide_7 : decode cX1_endingSide 7 = .ok (.iload 4, 2) := by decide +kernel
theorem dX1_endingSide_9 : decode cX1_endingSide 9 = .ok (.iload_n 1, 1) := by decide +kernel
theorem dX1_endingSide_10 : decode cX1_endingSide 10 = .ok (.lload_n 2, 1) := by decide +kernel
theorem dX1_endingSide_11 : decode cX1_endingSide 11 = .ok (.invokevirtual 182, 3) := by decide +kernel
theorem dX1_endingSide_14 : decode cX1_endingSide 14 = .ok (.astore 5, 2) := by decide +kernel
theorem dX1_endingSide_16 : decode cX1_endingSide 16 = .ok (.iconst 0, 1) := by decide +kernel
theorem dX1_endingSide_17 : decode cX1_endingSide 17 = .ok (.istore 6, 2) := by decide +kernel
theorem dX1_endingSide_19 : decode cX1_endingSide 19 = .ok (.iload 6, 2) := by decide +kernel
theorem dX1_endingSide_21 : decode cX1_endingSide 21 = .ok (.iconst 4, 1) := by decide +kernel
theorem dX1_endingSide_22 : decode cX1_endingSide 22 = .ok (.if_icmp .ge 81, 3) := by decide +kernel
theorem dX1_endingSide_25 : decode cX1_endingSide 25 = .ok (.iload 6, 2) := by decide +kernel
theorem dX1_endingSide_27 : decode cX1_endingSide 27 = .ok (.iload_n 1, 1) := by decide +kernel
theorem dX1_endingSide_28 : decode cX1_endingSide 28 = .ok (.if_icmp .eq 69, 3) := by decide +kernel
theorem dX1_endingSide_31 : decode cX1_endingSide 31 = .ok (.iload 6, 2) := by decide +kernel
theorem dX1_endingSide_33 : decode cX1_endingSide 33 = .ok (.iload_n 1, 1) := by decide +kernel
theorem dX1_endingSide_34 : decode cX1_endingSide 34 = .ok (.invokestatic 169, 3) := by decide +kernel
theorem dX1_endingSide_37 : decode cX1_endingSide 37 = .ok (.if_icmp .eq 60, 3) := by decide +kernel
theorem dX1_endingSide_40 : decode cX1_endingSide 40 = .ok (.aload_n 0, 1) := by decide +kernel
theorem dX1_endingSide_41 : decode cX1_endingSide 41 = .ok (.iload 6, 2) := by decide +kernel
theorem dX1_endingSide_43 : decode cX1_endingSide 43 = .ok (.invokevirtual 140, 3) := by decide +kernel
theorem dX1_endingSide_46 : decode cX1_endingSide 46 = .ok (.ifCond .eq 6, 3) := by decide +kernel
theorem dX1_endingSide_49 : decode cX1_endingSide 49 = .ok (.goto 48, 3) := by decide +kernel
theorem dX1_endingSide_52 : decode cX1_endingSide 52 = .ok (.aload_n 0, 1) := by decide +kernel
theorem dX1_endingSide_53 : decode cX1_endingSide 53 = .ok (.iload 6, 2) := by decide +kernel
theorem dX1_endingSide_55 : decode cX1_endingSide 55 = .ok (.iload_n 1, 1) := by decide +kernel
theorem dX1_endingSide_56 : decode cX1_endingSide 56 = .ok (.lload_n 2, 1) := by decide +kernel
theorem dX1_endingSide_57 : decode cX1_endingSide 57 = .ok (.invokevirtual 182, 3) := by decide +kernel
theorem dX1_endingSide_60 : decode cX1_endingSide 60 = .ok (.astore 7, 2) := by decide +kernel
theorem dX1_endingSide_62 : decode cX1_endingSide 62 = .ok (.aload 7, 2) := by decide +kernel
theorem dX1_endingSide_64 : decode cX1_endingSide 64 = .ok (.aload 5, 2) := by decide +kernel
theorem dX1_endingSide_66 : decode cX1_endingSide 66 = .ok (.invokevirtual 162, 3) := by decide +kernel
theorem dX1_endingSide_69 : decode cX1_endingSide 69 = .ok (.ifCond .ne 20, 3) := by decide +kernel
theorem dX1_endingSide_72 : decode cX1_endingSide 72 = .ok (.aload 7, 2) := by decide +kernel
theorem dX1_endingSide_74 : decode cX1_endingSide 74 = .ok (.aload 5, 2) := by decide +kernel
theorem dX1_endingSide_76 : decode cX1_endingSide 76 = .ok (.invokevirtual 151, 3) := by decide +kernel
theorem dX1_endingSide_79 : decode cX1_endingSide 79 = .ok (.ifCond .eq 18, 3) := by decide +kernel
theorem dX1_endingSide_82 : decode cX1_endingSide 82 = .ok (.iload 6, 2) := by decide +kernel
theorem dX1_endingSide_84 : decode cX1_endingSide 84 = .ok (.iload 4, 2) := by decide +kernel
theorem dX1_endingSide_86 : decode cX1_endingSide 86 = .ok (.if_icmp .ge 11, 3) := by decide +kernel
theorem dX1_endingSide_89 : decode cX1_endingSide 89 = .ok (.iload 6, 2) := by decide +kernel
theorem dX1_endingSide_91 : decode cX1_endingSide 91 = .ok (.istore 4, 2) := by decide +kernel
theorem dX1_endingSide_93 : decode cX1_endingSide 93 = .ok (.aload 7, 2) := by decide +kernel
theorem dX1_endingSide_95 : decode cX1_endingSide 95 = .ok (.astore 5, 2) := by decide +kernel
theorem dX1_endingSide_97 : decode cX1_endingSide 97 = .ok (.iinc 6 1, 3) := by decide +kernel
theorem dX1_endingSide_100 : decode cX1_endingSide 100 = .ok (.goto (-81), 3) := by decide +kernel
theorem dX1_endingSide_103 : decode cX1_endingSide 103 = .ok (.iload 4, 2) := by decide +kernel
theorem dX1_endingSide_105 : decode cX1_endingSide 105 = .ok (.ireturn, 1) := by decide +kernel
theorem dX1_rafterEnd_0 : decode cX1_rafterEnd 0 = .ok (.aload_n 0, 1) := by decide +kernel
theorem dX1_rafterEnd_1 : decode cX1_rafterEnd 1 = .ok (.aload_n 0, 1) := by decide +kernel
theorem dX1_rafterEnd_2 : decode cX1_rafterEnd 2 = .ok (.iload_n 1, 1) := by decide +kernel
theorem dX1_rafterEnd_3 : decode cX1_rafterEnd 3 = .ok (.lload_n 2, 1) := by decide +kernel
theorem dX1_rafterEnd_4 : decode cX1_rafterEnd 4 = .ok (.invokevirtual 80, 3) := by decide +kernel
theorem dX1_rafterEnd_7 : decode cX1_rafterEnd 7 = .ok (.iload_n 1, 1) := by decide +kernel
theorem dX1_rafterEnd_8 : decode cX1_rafterEnd 8 = .ok (.lload_n 2, 1) := by decide +kernel
theorem dX1_rafterEnd_9 : decode cX1_rafterEnd 9 = .ok (.invokevirtual 182, 3) := by decide +kernel
theorem dX1_rafterEnd_12 : decode cX1_rafterEnd 12 = .ok (.areturn, 1) := by decide +kernel
theorem dX1_squareAlongSlope_0 : decode cX1_squareAlongSlope 0 = .ok (.aload_n 0, 1) := by decide +kernel
theorem dX1_squareAlongSlope_1 : decode cX1_squareAlongSlope 1 = .ok (.getfield 22, 3) := by decide +kernel
theorem dX1_squareAlongSlope_4 : decode cX1_squareAlongSlope 4 = .ok (.iload_n 1, 1) := by decide +kernel
theorem dX1_squareAlongSlope_5 : decode cX1_squareAlongSlope 5 = .ok (.aaload, 1) := by decide +kernel
theorem dX1_squareAlongSlope_6 : decode cX1_squareAlongSlope 6 = .ok (.invokevirtual 186, 3) := by decide +kernel
theorem dX1_squareAlongSlope_9 : decode cX1_squareAlongSlope 9 = .ok (.astore_n 3, 1) := by decide +kernel
theorem dX1_squareAlongSlope_10 : decode cX1_squareAlongSlope 10 = .ok (.aload_n 3, 1) := by decide +kernel
theorem dX1_squareAlongSlope_11 : decode cX1_squareAlongSlope 11 = .ok (.aload_n 3, 1) := by decide +kernel
theorem dX1_squareAlongSlope_12 : decode cX1_squareAlongSlope 12 = .ok (.invokevirtual 189, 3) := by decide +kernel
theorem dX1_squareAlongSlope_15 : decode cX1_squareAlongSlope 15 = .ok (.new 20, 3) := by decide +kernel
theorem dX1_squareAlongSlope_18 : decode cX1_squareAlongSlope 18 = .ok (.dup, 1) := by decide +kernel
theorem dX1_squareAlongSlope_19 : decode cX1_squareAlongSlope 19 = .ok (.lconst 1, 1) := by decide +kernel
theorem dX1_squareAlongSlope_20 : decode cX1_squareAlongSlope 20 = .ok (.lconst 1, 1) := by decide +kernel
theorem dX1_squareAlongSlope_21 : decode cX1_squareAlongSlope 21 = .ok (.invokespecial 26, 3) := by decide +kernel
theorem dX1_squareAlongSlope_24 : decode cX1_squareAlongSlope 24 = .ok (.invokevirtual 172, 3) := by decide +kernel
theorem dX1_squareAlongSlope_27 : decode cX1_squareAlongSlope 27 = .ok (.aload_n 2, 1) := by decide +kernel
theorem dX1_squareAlongSlope_28 : decode cX1_squareAlongSlope 28 = .ok (.invokevirtual 189, 3) := by decide +kernel
theorem dX1_squareAlongSlope_31 : decode cX1_squareAlongSlope 31 = .ok (.aload_n 2, 1) := by decide +kernel
theorem dX1_squareAlongSlope_32 : decode cX1_squareAlongSlope 32 = .ok (.invokevirtual 189, 3) := by decide +kernel
theorem dX1_squareAlongSlope_35 : decode cX1_squareAlongSlope 35 = .ok (.areturn, 1) := by decide +kernel
theorem dX1_cutTangent_0 : decode cX1_cutTangent 0 = .ok (.aload_n 0, 1) := by decide +kernel
theorem dX1_cutTangent_1 : decode cX1_cutTangent 1 = .ok (.getfield 22, 3) := by decide +kernel
theorem dX1_cutTangent_4 : decode cX1_cutTangent 4 = .ok (.iload_n 1, 1) := by decide +kernel
theorem dX1_cutTangent_5 : decode cX1_cutTangent 5 = .ok (.aaload, 1) := by decide +kernel
theorem dX1_cutTangent_6 : decode cX1_cutTangent 6 = .ok (.astore 5, 2) := by decide +kernel
theorem dX1_cutTangent_8 : decode cX1_cutTangent 8 = .ok (.iload 4, 2) := by decide +kernel
theorem dX1_cutTangent_10 : decode cX1_cutTangent 10 = .ok (.ifCond .ne 9, 3) := by decide +kernel
theorem dX1_cutTangent_13 : decode cX1_cutTangent 13 = .ok (.aload 5, 2) := by decide +kernel
theorem dX1_cutTangent_15 : decode cX1_cutTangent 15 = .ok (.invokevirtual 186, 3) := by decide +kernel
theorem dX1_cutTangent_18 : decode cX1_cutTangent 18 = .ok (.areturn, 1) := by decide +kernel
theorem dX1_cutTangent_19 : decode cX1_cutTangent 19 = .ok (.iload 4, 2) := by decide +kernel
theorem dX1_cutTangent_21 : decode cX1_cutTangent 21 = .ok (.iconst 1, 1) := by decide +kernel
theorem dX1_cutTangent_22 : decode cX1_cutTangent 22 = .ok (.if_icmp .ne 6, 3) := by decide +kernel
theorem dX1_cutTangent_25 : decode cX1_cutTangent 25 = .ok (.aload 5, 2) := by decide +kernel
theorem dX1_cutTangent_27 : decode cX1_cutTangent 27 = .ok (.areturn, 1) := by decide +kernel
theorem dX1_cutTangent_28 : decode cX1_cutTangent 28 = .ok (.aload_n 0, 1) := by decide +kernel
theorem dX1_cutTangent_29 : decode cX1_cutTangent 29 = .ok (.iload_n 1, 1) := by decide +kernel
theorem dX1_cutTangent_30 : decode cX1_cutTangent 30 = .ok (.lload_n 2, 1) := by decide +kernel
theorem dX1_cutTangent_31 : decode cX1_cutTangent 31 = .ok (.invokevirtual 80, 3) := by decide +kernel
theorem dX1_cutTangent_34 : decode cX1_cutTangent 34 = .ok (.istore 6, 2) := by decide +kernel
theorem dX1_cutTangent_36 : decode cX1_cutTangent 36 = .ok (.iload 6, 2) := by decide +kernel
theorem dX1_cutTangent_38 : decode cX1_cutTangent 38 = .ok (.iload_n 1, 1) := by decide +kernel
theorem dX1_cutTangent_39 : decode cX1_cutTangent 39 = .ok (.invokestatic 169, 3) := by decide +kernel
theorem dX1_cutTangent_42 : decode cX1_cutTangent 42 = .ok (.if_icmp .ne 13, 3) := by decide +kernel
theorem dX1_cutTangent_45 : decode cX1_cutTangent 45 = .ok (.new 20, 3) := by decide +kernel
theorem dX1_cutTangent_48 : decode cX1_cutTangent 48 = .ok (.dup, 1) := by decide +kernel
theorem dX1_cutTangent_49 : decode cX1_cutTangent 49 = .ok (.lconst 0, 1) := by decide +kernel
theorem dX1_cutTangent_50 : decode cX1_cutTangent 50 = .ok (.lconst 1, 1) := by decide +kernel
theorem dX1_cutTangent_51 : decode cX1_cutTangent 51 = .ok (.invokespecial 26, 3) := by decide +kernel
theorem dX1_cutTangent_54 : decode cX1_cutTangent 54 = .ok (.areturn, 1) := by decide +kernel
theorem dX1_cutTangent_55 : decode cX1_cutTangent 55 = .ok (.aload_n 0, 1) := by decide +kernel
theorem dX1_cutTangent_56 : decode cX1_cutTangent 56 = .ok (.getfield 22, 3) := by decide +kernel
theorem dX1_cutTangent_59 : decode cX1_cutTangent 59 = .ok (.iload 6, 2) := by decide +kernel
theorem dX1_cutTangent_61 : decode cX1_cutTangent 61 = .ok (.aaload, 1) := by decide +kernel
theorem dX1_cutTangent_62 : decode cX1_cutTangent 62 = .ok (.aload 5, 2) := by decide +kernel
theorem dX1_cutTangent_64 : decode cX1_cutTangent 64 = .ok (.invokevirtual 176, 3) := by decide +kernel
theorem dX1_cutTangent_67 : decode cX1_cutTangent 67 = .ok (.areturn, 1) := by decide +kernel
theorem dX1_peakHeight_0 : decode cX1_peakHeight 0 = .ok (.aload_n 0, 1) := by decide +kernel
theorem dX1_peakHeight_1 : decode cX1_peakHeight 1 = .ok (.getfield 22, 3) := by decide +kernel
theorem dX1_peakHeight_4 : decode cX1_peakHeight 4 = .ok (.iconst 3, 1) := by decide +kernel
theorem dX1_peakHeight_5 : decode cX1_peakHeight 5 = .ok (.aaload, 1) := by decide +kernel
theorem dX1_peakHeight_6 : decode cX1_peakHeight 6 = .ok (.aload_n 0, 1) := by decide +kernel
theorem dX1_peakHeight_7 : decode cX1_peakHeight 7 = .ok (.getfield 22, 3) := by decide +kernel
theorem dX1_peakHeight_10 : decode cX1_peakHeight 10 = .ok (.iconst 1, 1) := by decide +kernel
theorem dX1_peakHeight_11 : decode cX1_peakHeight 11 = .ok (.aaload, 1) := by decide +kernel
theorem dX1_peakHeight_12 : decode cX1_peakHeight 12 = .ok (.invokevirtual 172, 3) := by decide +kernel
theorem dX1_peakHeight_15 : decode cX1_peakHeight 15 = .ok (.astore_n 1, 1) := by decide +kernel
theorem dX1_peakHeight_16 : decode cX1_peakHeight 16 = .ok (.aload_n 0, 1) := by decide +kernel
theorem dX1_peakHeight_17 : decode cX1_peakHeight 17 = .ok (.getfield 22, 3) := by decide +kernel
theorem dX1_peakHeight_20 : decode cX1_peakHeight 20 = .ok (.iconst 0, 1) := by decide +kernel
theorem dX1_peakHeight_21 : decode cX1_peakHeight 21 = .ok (.aaload, 1) := by decide +kernel
theorem dX1_peakHeight_22 : decode cX1_peakHeight 22 = .ok (.aload_n 0, 1) := by decide +kernel
theorem dX1_peakHeight_23 : decode cX1_peakHeight 23 = .ok (.getfield 22, 3) := by decide +kernel
theorem dX1_peakHeight_26 : decode cX1_peakHeight 26 = .ok (.iconst 2, 1) := by decide +kernel
theorem dX1_peakHeight_27 : decode cX1_peakHeight 27 = .ok (.aaload, 1) := by decide +kernel
theorem dX1_peakHeight_28 : decode cX1_peakHeight 28 = .ok (.invokevirtual 172, 3) := by decide +kernel
theorem dX1_peakHeight_31 : decode cX1_peakHeight 31 = .ok (.astore_n 2, 1) := by decide +kernel
theorem dX1_peakHeight_32 : decode cX1_peakHeight 32 = .ok (.aload_n 1, 1) := by decide +kernel
theorem dX1_peakHeight_33 : decode cX1_peakHeight 33 = .ok (.getfield 99, 3) := by decide +kernel
theorem dX1_peakHeight_36 : decode cX1_peakHeight 36 = .ok (.lconst 0, 1) := by decide +kernel
theorem dX1_peakHeight_37 : decode cX1_peakHeight 37 = .ok (.lcmp, 1) := by decide +kernel
theorem dX1_peakHeight_38 : decode cX1_peakHeight 38 = .ok (.ifCond .ne 15, 3) := by decide +kernel
theorem dX1_peakHeight_41 : decode cX1_peakHeight 41 = .ok (.aload_n 2, 1) := by decide +kernel
theorem dX1_peakHeight_42 : decode cX1_peakHeight 42 = .ok (.invokevirtual 186, 3) := by decide +kernel
theorem dX1_peakHeight_45 : decode cX1_peakHeight 45 = .ok (.aload_n 0, 1) := by decide +kernel
theorem dX1_peakHeight_46 : decode cX1_peakHeight 46 = .ok (.getfield 17, 3) := by decide +kernel
theorem dX1_peakHeight_49 : decode cX1_peakHeight 49 = .ok (.invokevirtual 106, 3) := by decide +kernel
theorem dX1_peakHeight_52 : decode cX1_peakHeight 52 = .ok (.areturn, 1) := by decide +kernel
theorem dX1_peakHeight_53 : decode cX1_peakHeight 53 = .ok (.aload_n 1, 1) := by decide +kernel
theorem dX1_peakHeight_54 : decode cX1_peakHeight 54 = .ok (.invokevirtual 186, 3) := by decide +kernel
theorem dX1_peakHeight_57 : decode cX1_peakHeight 57 = .ok (.aload_n 0, 1) := by decide +kernel
theorem dX1_peakHeight_58 : decode cX1_peakHeight 58 = .ok (.getfield 9, 3) := by decide +kernel
theorem dX1_peakHeight_61 : decode cX1_peakHeight 61 = .ok (.invokevirtual 106, 3) := by decide +kernel
theorem dX1_peakHeight_64 : decode cX1_peakHeight 64 = .ok (.astore_n 3, 1) := by decide +kernel
theorem dX1_peakHeight_65 : decode cX1_peakHeight 65 = .ok (.aload_n 2, 1) := by decide +kernel
theorem dX1_peakHeight_66 : decode cX1_peakHeight 66 = .ok (.getfield 99, 3) := by decide +kernel
theorem dX1_peakHeight_69 : decode cX1_peakHeight 69 = .ok (.lconst 0, 1) := by decide +kernel
theorem dX1_peakHeight_70 : decode cX1_peakHeight 70 = .ok (.lcmp, 1) := by decide +kernel
theorem dX1_peakHeight_71 : decode cX1_peakHeight 71 = .ok (.ifCond .ne 5, 3) := by decide +kernel
theorem dX1_peakHeight_74 : decode cX1_peakHeight 74 = .ok (.aload_n 3, 1) := by decide +kernel
theorem dX1_peakHeight_75 : decode cX1_peakHeight 75 = .ok (.areturn, 1) := by decide +kernel
theorem dX1_peakHeight_76 : decode cX1_peakHeight 76 = .ok (.aload_n 2, 1) := by decide +kernel
theorem dX1_peakHeight_77 : decode cX1_peakHeight 77 = .ok (.invokevirtual 186, 3) := by decide +kernel
theorem dX1_peakHeight_80 : decode cX1_peakHeight 80 = .ok (.aload_n 0, 1) := by decide +kernel
theorem dX1_peakHeight_81 : decode cX1_peakHeight 81 = .ok (.getfield 17, 3) := by decide +kernel
theorem dX1_peakHeight_84 : decode cX1_peakHeight 84 = .ok (.invokevirtual 106, 3) := by decide +kernel
theorem dX1_peakHeight_87 : decode cX1_peakHeight 87 = .ok (.astore 4, 2) := by decide +kernel
theorem dX1_peakHeight_89 : decode cX1_peakHeight 89 = .ok (.aload_n 3, 1) := by decide +kernel
theorem dX1_peakHeight_90 : decode cX1_peakHeight 90 = .ok (.aload 4, 2) := by decide +kernel
theorem dX1_peakHeight_92 : decode cX1_peakHeight 92 = .ok (.invokevirtual 162, 3) := by decide +kernel
theorem dX1_peakHeight_95 : decode cX1_peakHeight 95 = .ok (.ifCond .eq 7, 3) := by decide +kernel
theorem dX1_peakHeight_98 : decode cX1_peakHeight 98 = .ok (.aload_n 3, 1) := by decide +kernel
theorem dX1_peakHeight_99 : decode cX1_peakHeight 99 = .ok (.goto 5, 3) := by decide +kernel
theorem dX1_peakHeight_102 : decode cX1_peakHeight 102 = .ok (.aload 4, 2) := by decide +kernel
theorem dX1_peakHeight_104 : decode cX1_peakHeight 104 = .ok (.areturn, 1) := by decide +kernel
theorem dX1_inAtPeak_0 : decode cX1_inAtPeak 0 = .ok (.aload_n 0, 1) := by decide +kernel
theorem dX1_inAtPeak_1 : decode cX1_inAtPeak 1 = .ok (.invokevirtual 118, 3) := by decide +kernel
theorem dX1_inAtPeak_4 : decode cX1_inAtPeak 4 = .ok (.aload_n 0, 1) := by decide +kernel
theorem dX1_inAtPeak_5 : decode cX1_inAtPeak 5 = .ok (.getfield 22, 3) := by decide +kernel
theorem dX1_inAtPeak_8 : decode cX1_inAtPeak 8 = .ok (.iload_n 1, 1) := by decide +kernel
theorem dX1_inAtPeak_9 : decode cX1_inAtPeak 9 = .ok (.aaload, 1) := by decide +kernel
theorem dX1_inAtPeak_10 : decode cX1_inAtPeak 10 = .ok (.invokevirtual 189, 3) := by decide +kernel
theorem dX1_inAtPeak_13 : decode cX1_inAtPeak 13 = .ok (.areturn, 1) := by decide +kernel
theorem dX1_ridgeBound_0 : decode cX1_ridgeBound 0 = .ok (.iload_n 1, 1) := by decide +kernel
theorem dX1_ridgeBound_1 : decode cX1_ridgeBound 1 = .ok (.tableswitch 52 0 2 #[27, 33, 46], 27) := by decide +kernel
theorem dX1_ridgeBound_28 : decode cX1_ridgeBound 28 = .ok (.aload_n 0, 1) := by decide +kernel
theorem dX1_ridgeBound_29 : decode cX1_ridgeBound 29 = .ok (.iconst 3, 1) := by decide +kernel
theorem dX1_ridgeBound_30 : decode cX1_ridgeBound 30 = .ok (.invokevirtual 114, 3) := by decide +kernel
theorem dX1_ridgeBound_33 : decode cX1_ridgeBound 33 = .ok (.areturn, 1) := by decide +kernel
theorem dX1_ridgeBound_34 : decode cX1_ridgeBound 34 = .ok (.aload_n 0, 1) := by decide +kernel
theorem dX1_ridgeBound_35 : decode cX1_ridgeBound 35 = .ok (.iconst 1, 1) := by decide +kernel
theorem dX1_ridgeBound_36 : decode cX1_ridgeBound 36 = .ok (.invokevirtual 114, 3) := by decide +kernel
theorem dX1_ridgeBound_39 : decode cX1_ridgeBound 39 = .ok (.aload_n 0, 1) := by decide +kernel
theorem dX1_ridgeBound_40 : decode cX1_ridgeBound 40 = .ok (.getfield 9, 3) := by decide +kernel
theorem dX1_ridgeBound_43 : decode cX1_ridgeBound 43 = .ok (.invokevirtual 191, 3) := by decide +kernel
theorem dX1_ridgeBound_46 : decode cX1_ridgeBound 46 = .ok (.areturn, 1) := by decide +kernel
theorem dX1_ridgeBound_47 : decode cX1_ridgeBound 47 = .ok (.aload_n 0, 1) := by decide +kernel
theorem dX1_ridgeBound_48 : decode cX1_ridgeBound 48 = .ok (.iconst 0, 1) := by decide +kernel
theorem dX1_ridgeBound_49 : decode cX1_ridgeBound 49 = .ok (.invokevirtual 114, 3) := by decide +kernel
theorem dX1_ridgeBound_52 : decode cX1_ridgeBound 52 = .ok (.areturn, 1) := by decide +kernel
theorem dX1_ridgeBound_53 : decode cX1_ridgeBound 53 = .ok (.aload_n 0, 1) := by decide +kernel
theorem dX1_ridgeBound_54 : decode cX1_ridgeBound 54 = .ok (.iconst 2, 1) := by decide +kernel
theorem dX1_ridgeBound_55 : decode cX1_ridgeBound 55 = .ok (.invokevirtual 114, 3) := by decide +kernel
theorem dX1_ridgeBound_58 : decode cX1_ridgeBound 58 = .ok (.aload_n 0, 1) := by decide +kernel
theorem dX1_ridgeBound_59 : decode cX1_ridgeBound 59 = .ok (.getfield 17, 3) := by decide +kernel
theorem dX1_ridgeBound_62 : decode cX1_ridgeBound 62 = .ok (.invokevirtual 191, 3) := by decide +kernel
theorem dX1_ridgeBound_65 : decode cX1_ridgeBound 65 = .ok (.areturn, 1) := by decide +kernel
theorem dX1_twiceArea_0 : decode cX1_twiceArea 0 = .ok (.aload_n 0, 1) := by decide +kernel
theorem dX1_twiceArea_1 : decode cX1_twiceArea 1 = .ok (.invokevirtual 118, 3) := by decide +kernel
theorem dX1_twiceArea_4 : decode cX1_twiceArea 4 = .ok (.astore_n 2, 1) := by decide +kernel
theorem dX1_twiceArea_5 : decode cX1_twiceArea 5 = .ok (.aload_n 0, 1) := by decide +kernel
theorem dX1_twiceArea_6 : decode cX1_twiceArea 6 = .ok (.getfield 22, 3) := by decide +kernel
theorem dX1_twiceArea_9 : decode cX1_twiceArea 9 = .ok (.iload_n 1, 1) := by decide +kernel
theorem dX1_twiceArea_10 : decode cX1_twiceArea 10 = .ok (.invokestatic 110, 3) := by decide +kernel
theorem dX1_twiceArea_13 : decode cX1_twiceArea 13 = .ok (.aaload, 1) := by decide +kernel
theorem dX1_twiceArea_14 : decode cX1_twiceArea 14 = .ok (.aload_n 0, 1) := by decide +kernel
theorem dX1_twiceArea_15 : decode cX1_twiceArea 15 = .ok (.getfield 22, 3) := by decide +kernel
theorem dX1_twiceArea_18 : decode cX1_twiceArea 18 = .ok (.iload_n 1, 1) := by decide +kernel
theorem dX1_twiceArea_19 : decode cX1_twiceArea 19 = .ok (.invokestatic 110, 3) := by decide +kernel
theorem dX1_twiceArea_22 : decode cX1_twiceArea 22 = .ok (.invokestatic 169, 3) := by decide +kernel
theorem dX1_twiceArea_25 : decode cX1_twiceArea 25 = .ok (.aaload, 1) := by decide +kernel
theorem dX1_twiceArea_26 : decode cX1_twiceArea 26 = .ok (.invokevirtual 172, 3) := by decide +kernel
theorem dX1_twiceArea_29 : decode cX1_twiceArea 29 = .ok (.astore_n 3, 1) := by decide +kernel
theorem dX1_twiceArea_30 : decode cX1_twiceArea 30 = .ok (.aload_n 2, 1) := by decide +kernel
theorem dX1_twiceArea_31 : decode cX1_twiceArea 31 = .ok (.aload_n 3, 1) := by decide +kernel
theorem dX1_twiceArea_32 : decode cX1_twiceArea 32 = .ok (.invokevirtual 189, 3) := by decide +kernel
theorem dX1_twiceArea_35 : decode cX1_twiceArea 35 = .ok (.ldc2_w 194, 3) := by decide +kernel
theorem dX1_twiceArea_38 : decode cX1_twiceArea 38 = .ok (.aload_n 0, 1) := by decide +kernel
theorem dX1_twiceArea_39 : decode cX1_twiceArea 39 = .ok (.iload_n 1, 1) := by decide +kernel
theorem dX1_twiceArea_40 : decode cX1_twiceArea 40 = .ok (.invokevirtual 69, 3) := by decide +kernel
theorem dX1_twiceArea_43 : decode cX1_twiceArea 43 = .ok (.lmul, 1) := by decide +kernel
theorem dX1_twiceArea_44 : decode cX1_twiceArea 44 = .ok (.invokevirtual 191, 3) := by decide +kernel
theorem dX1_twiceArea_47 : decode cX1_twiceArea 47 = .ok (.astore 4, 2) := by decide +kernel
theorem dX1_twiceArea_49 : decode cX1_twiceArea 49 = .ok (.aload_n 2, 1) := by decide +kernel
theorem dX1_twiceArea_50 : decode cX1_twiceArea 50 = .ok (.aload_n 0, 1) := by decide +kernel
theorem dX1_twiceArea_51 : decode cX1_twiceArea 51 = .ok (.getfield 22, 3) := by decide +kernel
theorem dX1_twiceArea_54 : decode cX1_twiceArea 54 = .ok (.iload_n 1, 1) := by decide +kernel
theorem dX1_twiceArea_55 : decode cX1_twiceArea 55 = .ok (.aaload, 1) := by decide +kernel
theorem dX1_twiceArea_56 : decode cX1_twiceArea 56 = .ok (.invokevirtual 189, 3) := by decide +kernel
theorem dX1_twiceArea_59 : decode cX1_twiceArea 59 = .ok (.aload 4, 2) := by decide +kernel
theorem dX1_twiceArea_61 : decode cX1_twiceArea 61 = .ok (.invokevirtual 189, 3) := by decide +kernel
theorem dX1_twiceArea_64 : decode cX1_twiceArea 64 = .ok (.areturn, 1) := by decide +kernel
theorem dX1_root_0 : decode cX1_root 0 = .ok (.lconst 0, 1) := by decide +kernel
theorem dX1_root_1 : decode cX1_root 1 = .ok (.lstore_n 2, 1) := by decide +kernel
theorem dX1_root_2 : decode cX1_root 2 = .ok (.bipush 30, 2) := by decide +kernel
theorem dX1_root_4 : decode cX1_root 4 = .ok (.istore 4, 2) := by decide +kernel
theorem dX1_root_6 : decode cX1_root 6 = .ok (.iload 4, 2) := by decide +kernel
theorem dX1_root_8 : decode cX1_root 8 = .ok (.ifCond .lt 30, 3) := by decide +kernel
theorem dX1_root_11 : decode cX1_root 11 = .ok (.lload_n 2, 1) := by decide +kernel
theorem dX1_root_12 : decode cX1_root 12 = .ok (.lconst 1, 1) := by decide +kernel
theorem dX1_root_13 : decode cX1_root 13 = .ok (.iload 4, 2) := by decide +kernel
theorem dX1_root_15 : decode cX1_root 15 = .ok (.lshl, 1) := by decide +kernel
theorem dX1_root_16 : decode cX1_root 16 = .ok (.ladd, 1) := by decide +kernel
theorem dX1_root_17 : decode cX1_root 17 = .ok (.lstore 5, 2) := by decide +kernel
theorem dX1_root_19 : decode cX1_root 19 = .ok (.lload 5, 2) := by decide +kernel
theorem dX1_root_21 : decode cX1_root 21 = .ok (.lload 5, 2) := by decide +kernel
theorem dX1_root_23 : decode cX1_root 23 = .ok (.lmul, 1) := by decide +kernel
theorem dX1_root_24 : decode cX1_root 24 = .ok (.lload_n 0, 1) := by decide +kernel
theorem dX1_root_25 : decode cX1_root 25 = .ok (.lcmp, 1) := by decide +kernel
theorem dX1_root_26 : decode cX1_root 26 = .ok (.ifCond .gt 6, 3) := by decide +kernel
theorem dX1_root_29 : decode cX1_root 29 = .ok (.lload 5, 2) := by decide +kernel
theorem dX1_root_31 : decode cX1_root 31 = .ok (.lstore_n 2, 1) := by decide +kernel
theorem dX1_root_32 : decode cX1_root 32 = .ok (.iinc 4 (-1), 3) := by decide +kernel
theorem dX1_root_35 : decode cX1_root 35 = .ok (.goto (-29), 3) := by decide +kernel
theorem dX1_root_38 : decode cX1_root 38 = .ok (.lload_n 2, 1) := by decide +kernel
theorem dX1_root_39 : decode cX1_root 39 = .ok (.lreturn, 1) := by decide +kernel
