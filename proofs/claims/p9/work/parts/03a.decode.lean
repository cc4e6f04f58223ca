theorem dJ0_charAt_5068e_0 : decode cJ0_charAt_5068e 0 = .ok (.aload_n 0, 1) := by decide +kernel
theorem dJ0_charAt_5068e_1 : decode cJ0_charAt_5068e 1 = .ok (.invokevirtual 492, 3) := by decide +kernel
theorem dJ0_charAt_5068e_4 : decode cJ0_charAt_5068e 4 = .ok (.ifCond .eq 12, 3) := by decide +kernel
theorem dJ0_charAt_5068e_7 : decode cJ0_charAt_5068e 7 = .ok (.aload_n 0, 1) := by decide +kernel
theorem dJ0_charAt_5068e_8 : decode cJ0_charAt_5068e 8 = .ok (.getfield 9, 3) := by decide +kernel
theorem dJ0_charAt_5068e_11 : decode cJ0_charAt_5068e 11 = .ok (.iload_n 1, 1) := by decide +kernel
theorem dJ0_charAt_5068e_12 : decode cJ0_charAt_5068e 12 = .ok (.invokestatic 495, 3) := by decide +kernel
theorem dJ0_charAt_5068e_15 : decode cJ0_charAt_5068e 15 = .ok (.ireturn, 1) := by decide +kernel
theorem dJ0_charAt_5068e_16 : decode cJ0_charAt_5068e 16 = .ok (.aload_n 0, 1) := by decide +kernel
theorem dJ0_charAt_5068e_17 : decode cJ0_charAt_5068e 17 = .ok (.getfield 9, 3) := by decide +kernel
theorem dJ0_charAt_5068e_20 : decode cJ0_charAt_5068e 20 = .ok (.iload_n 1, 1) := by decide +kernel
theorem dJ0_charAt_5068e_21 : decode cJ0_charAt_5068e 21 = .ok (.invokestatic 498, 3) := by decide +kernel
theorem dJ0_charAt_5068e_24 : decode cJ0_charAt_5068e 24 = .ok (.ireturn, 1) := by decide +kernel
theorem dJ0_checkIndex_df160_0 : decode cJ0_checkIndex_df160 0 = .ok (.iload_n 0, 1) := by decide +kernel
theorem dJ0_checkIndex_df160_1 : decode cJ0_checkIndex_df160 1 = .ok (.iload_n 1, 1) := by decide +kernel
theorem dJ0_checkIndex_df160_2 : decode cJ0_checkIndex_df160 2 = .ok (.getstatic 1053, 3) := by decide +kernel
theorem dJ0_checkIndex_df160_5 : decode cJ0_checkIndex_df160 5 = .ok (.invokestatic 1059, 3) := by decide +kernel
theorem dJ0_checkIndex_df160_8 : decode cJ0_checkIndex_df160 8 = .ok (.pop, 1) := by decide +kernel
theorem dJ0_checkIndex_df160_9 : decode cJ0_checkIndex_df160 9 = .ok (.return_, 1) := by decide +kernel
theorem dJ0_coder_7d493_0 : decode cJ0_coder_7d493 0 = .ok (.getstatic 38, 3) := by decide +kernel
theorem dJ0_coder_7d493_3 : decode cJ0_coder_7d493 3 = .ok (.ifCond .eq 10, 3) := by decide +kernel
theorem dJ0_coder_7d493_6 : decode cJ0_coder_7d493 6 = .ok (.aload_n 0, 1) := by decide +kernel
theorem dJ0_coder_7d493_7 : decode cJ0_coder_7d493 7 = .ok (.getfield 15, 3) := by decide +kernel
theorem dJ0_coder_7d493_10 : decode cJ0_coder_7d493 10 = .ok (.goto 4, 3) := by decide +kernel
theorem dJ0_coder_7d493_13 : decode cJ0_coder_7d493 13 = .ok (.iconst 1, 1) := by decide +kernel
theorem dJ0_coder_7d493_14 : decode cJ0_coder_7d493 14 = .ok (.ireturn, 1) := by decide +kernel
theorem dJ0_isLatin1_aae02_0 : decode cJ0_isLatin1_aae02 0 = .ok (.getstatic 38, 3) := by decide +kernel
theorem dJ0_isLatin1_aae02_3 : decode cJ0_isLatin1_aae02 3 = .ok (.ifCond .eq 14, 3) := by decide +kernel
theorem dJ0_isLatin1_aae02_6 : decode cJ0_isLatin1_aae02 6 = .ok (.aload_n 0, 1) := by decide +kernel
theorem dJ0_isLatin1_aae02_7 : decode cJ0_isLatin1_aae02 7 = .ok (.getfield 15, 3) := by decide +kernel
theorem dJ0_isLatin1_aae02_10 : decode cJ0_isLatin1_aae02 10 = .ok (.ifCond .ne 7, 3) := by decide +kernel
theorem dJ0_isLatin1_aae02_13 : decode cJ0_isLatin1_aae02 13 = .ok (.iconst 1, 1) := by decide +kernel
theorem dJ0_isLatin1_aae02_14 : decode cJ0_isLatin1_aae02 14 = .ok (.goto 4, 3) := by decide +kernel
theorem dJ0_isLatin1_aae02_17 : decode cJ0_isLatin1_aae02 17 = .ok (.iconst 0, 1) := by decide +kernel
theorem dJ0_isLatin1_aae02_18 : decode cJ0_isLatin1_aae02 18 = .ok (.ireturn, 1) := by decide +kernel
theorem dJ0_length_8abf5_0 : decode cJ0_length_8abf5 0 = .ok (.aload_n 0, 1) := by decide +kernel
theorem dJ0_length_8abf5_1 : decode cJ0_length_8abf5 1 = .ok (.getfield 9, 3) := by decide +kernel
theorem dJ0_length_8abf5_4 : decode cJ0_length_8abf5 4 = .ok (.arraylength, 1) := by decide +kernel
theorem dJ0_length_8abf5_5 : decode cJ0_length_8abf5 5 = .ok (.aload_n 0, 1) := by decide +kernel
theorem dJ0_length_8abf5_6 : decode cJ0_length_8abf5 6 = .ok (.invokevirtual 335, 3) := by decide +kernel
theorem dJ0_length_8abf5_9 : decode cJ0_length_8abf5 9 = .ok (.ishr, 1) := by decide +kernel
theorem dJ0_length_8abf5_10 : decode cJ0_length_8abf5 10 = .ok (.ireturn, 1) := by decide +kernel
theorem dJ1_charAt_3b067_0 : decode cJ1_charAt_3b067 0 = .ok (.iload_n 1, 1) := by decide +kernel
theorem dJ1_charAt_3b067_1 : decode cJ1_charAt_3b067 1 = .ok (.aload_n 0, 1) := by decide +kernel
theorem dJ1_charAt_3b067_2 : decode cJ1_charAt_3b067 2 = .ok (.arraylength, 1) := by decide +kernel
theorem dJ1_charAt_3b067_3 : decode cJ1_charAt_3b067 3 = .ok (.invokestatic 9, 3) := by decide +kernel
theorem dJ1_charAt_3b067_6 : decode cJ1_charAt_3b067 6 = .ok (.aload_n 0, 1) := by decide +kernel
theorem dJ1_charAt_3b067_7 : decode cJ1_charAt_3b067 7 = .ok (.iload_n 1, 1) := by decide +kernel
theorem dJ1_charAt_3b067_8 : decode cJ1_charAt_3b067 8 = .ok (.baload, 1) := by decide +kernel
theorem dJ1_charAt_3b067_9 : decode cJ1_charAt_3b067 9 = .ok (.sipush 255, 3) := by decide +kernel
theorem dJ1_charAt_3b067_12 : decode cJ1_charAt_3b067 12 = .ok (.iand, 1) := by decide +kernel
theorem dJ1_charAt_3b067_13 : decode cJ1_charAt_3b067 13 = .ok (.i2c, 1) := by decide +kernel
theorem dJ1_charAt_3b067_14 : decode cJ1_charAt_3b067 14 = .ok (.ireturn, 1) := by decide +kernel
theorem dJ2_charAt_3b067_0 : decode cJ2_charAt_3b067 0 = .ok (.iload_n 1, 1) := by decide +kernel
theorem dJ2_charAt_3b067_1 : decode cJ2_charAt_3b067 1 = .ok (.aload_n 0, 1) := by decide +kernel
theorem dJ2_charAt_3b067_2 : decode cJ2_charAt_3b067 2 = .ok (.invokestatic 67, 3) := by decide +kernel
theorem dJ2_charAt_3b067_5 : decode cJ2_charAt_3b067 5 = .ok (.aload_n 0, 1) := by decide +kernel
theorem dJ2_charAt_3b067_6 : decode cJ2_charAt_3b067 6 = .ok (.iload_n 1, 1) := by decide +kernel
theorem dJ2_charAt_3b067_7 : decode cJ2_charAt_3b067 7 = .ok (.invokestatic 71, 3) := by decide +kernel
theorem dJ2_charAt_3b067_10 : decode cJ2_charAt_3b067 10 = .ok (.ireturn, 1) := by decide +kernel
theorem dJ2_checkIndex_2214a_0 : decode cJ2_checkIndex_2214a 0 = .ok (.iload_n 0, 1) := by decide +kernel
theorem dJ2_checkIndex_2214a_1 : decode cJ2_checkIndex_2214a 1 = .ok (.aload_n 1, 1) := by decide +kernel
theorem dJ2_checkIndex_2214a_2 : decode cJ2_checkIndex_2214a 2 = .ok (.invokestatic 48, 3) := by decide +kernel
theorem dJ2_checkIndex_2214a_5 : decode cJ2_checkIndex_2214a 5 = .ok (.invokestatic 414, 3) := by decide +kernel
theorem dJ2_checkIndex_2214a_8 : decode cJ2_checkIndex_2214a 8 = .ok (.return_, 1) := by decide +kernel
theorem dJ2_getChar_3b067_0 : decode cJ2_getChar_3b067 0 = .ok (.getstatic 44, 3) := by decide +kernel
theorem dJ2_getChar_3b067_3 : decode cJ2_getChar_3b067 3 = .ok (.ifCond .ne 25, 3) := by decide +kernel
theorem dJ2_getChar_3b067_6 : decode cJ2_getChar_3b067 6 = .ok (.iload_n 1, 1) := by decide +kernel
theorem dJ2_getChar_3b067_7 : decode cJ2_getChar_3b067 7 = .ok (.ifCond .lt 11, 3) := by decide +kernel
theorem dJ2_getChar_3b067_10 : decode cJ2_getChar_3b067 10 = .ok (.iload_n 1, 1) := by decide +kernel
theorem dJ2_getChar_3b067_11 : decode cJ2_getChar_3b067 11 = .ok (.aload_n 0, 1) := by decide +kernel
theorem dJ2_getChar_3b067_12 : decode cJ2_getChar_3b067 12 = .ok (.invokestatic 48, 3) := by decide +kernel
theorem dJ2_getChar_3b067_15 : decode cJ2_getChar_3b067 15 = .ok (.if_icmp .lt 13, 3) := by decide +kernel
theorem dJ2_getChar_3b067_18 : decode cJ2_getChar_3b067 18 = .ok (.new 52, 3) := by decide +kernel
theorem dJ2_getChar_3b067_21 : decode cJ2_getChar_3b067 21 = .ok (.dup, 1) := by decide +kernel
theorem dJ2_getChar_3b067_22 : decode cJ2_getChar_3b067 22 = .ok (.ldc 54, 2) := by decide +kernel
theorem dJ2_getChar_3b067_24 : decode cJ2_getChar_3b067 24 = .ok (.invokespecial 56, 3) := by decide +kernel
theorem dJ2_getChar_3b067_27 : decode cJ2_getChar_3b067 27 = .ok (.athrow, 1) := by decide +kernel
theorem dJ2_getChar_3b067_28 : decode cJ2_getChar_3b067 28 = .ok (.iload_n 1, 1) := by decide +kernel
theorem dJ2_getChar_3b067_29 : decode cJ2_getChar_3b067 29 = .ok (.iconst 1, 1) := by decide +kernel
theorem dJ2_getChar_3b067_30 : decode cJ2_getChar_3b067 30 = .ok (.ishl, 1) := by decide +kernel
theorem dJ2_getChar_3b067_31 : decode cJ2_getChar_3b067 31 = .ok (.istore_n 1, 1) := by decide +kernel
theorem dJ2_getChar_3b067_32 : decode cJ2_getChar_3b067 32 = .ok (.aload_n 0, 1) := by decide +kernel
theorem dJ2_getChar_3b067_33 : decode cJ2_getChar_3b067 33 = .ok (.iload_n 1, 1) := by decide +kernel
theorem dJ2_getChar_3b067_34 : decode cJ2_getChar_3b067 34 = .ok (.iinc 1 1, 3) := by decide +kernel
theorem dJ2_getChar_3b067_37 : decode cJ2_getChar_3b067 37 = .ok (.baload, 1) := by decide +kernel
theorem dJ2_getChar_3b067_38 : decode cJ2_getChar_3b067 38 = .ok (.sipush 255, 3) := by decide +kernel
theorem dJ2_getChar_3b067_41 : decode cJ2_getChar_3b067 41 = .ok (.iand, 1) := by decide +kernel
theorem dJ2_getChar_3b067_42 : decode cJ2_getChar_3b067 42 = .ok (.getstatic 59, 3) := by decide +kernel
theorem dJ2_getChar_3b067_45 : decode cJ2_getChar_3b067 45 = .ok (.ishl, 1) := by decide +kernel
theorem dJ2_getChar_3b067_46 : decode cJ2_getChar_3b067 46 = .ok (.aload_n 0, 1) := by decide +kernel
theorem dJ2_getChar_3b067_47 : decode cJ2_getChar_3b067 47 = .ok (.iload_n 1, 1) := by decide +kernel
theorem dJ2_getChar_3b067_48 : decode cJ2_getChar_3b067 48 = .ok (.baload, 1) := by decide +kernel
theorem dJ2_getChar_3b067_49 : decode cJ2_getChar_3b067 49 = .ok (.sipush 255, 3) := by decide +kernel
theorem dJ2_getChar_3b067_52 : decode cJ2_getChar_3b067 52 = .ok (.iand, 1) := by decide +kernel
theorem dJ2_getChar_3b067_53 : decode cJ2_getChar_3b067 53 = .ok (.getstatic 63, 3) := by decide +kernel
theorem dJ2_getChar_3b067_56 : decode cJ2_getChar_3b067 56 = .ok (.ishl, 1) := by decide +kernel
theorem dJ2_getChar_3b067_57 : decode cJ2_getChar_3b067 57 = .ok (.ior, 1) := by decide +kernel
theorem dJ2_getChar_3b067_58 : decode cJ2_getChar_3b067 58 = .ok (.i2c, 1) := by decide +kernel
theorem dJ2_getChar_3b067_59 : decode cJ2_getChar_3b067 59 = .ok (.ireturn, 1) := by decide +kernel
theorem dJ2_length_9d52b_0 : decode cJ2_length_9d52b 0 = .ok (.aload_n 0, 1) := by decide +kernel
theorem dJ2_length_9d52b_1 : decode cJ2_length_9d52b 1 = .ok (.arraylength, 1) := by decide +kernel
theorem dJ2_length_9d52b_2 : decode cJ2_length_9d52b 2 = .ok (.iconst 1, 1) := by decide +kernel
theorem dJ2_length_9d52b_3 : decode cJ2_length_9d52b 3 = .ok (.ishr, 1) := by decide +kernel
theorem dJ2_length_9d52b_4 : decode cJ2_length_9d52b 4 = .ok (.ireturn, 1) := by decide +kernel
theorem dJ3_checkIndex_8e157_0 : decode cJ3_checkIndex_8e157 0 = .ok (.iload_n 0, 1) := by decide +kernel
theorem dJ3_checkIndex_8e157_1 : decode cJ3_checkIndex_8e157 1 = .ok (.ifCond .lt 8, 3) := by decide +kernel
theorem dJ3_checkIndex_8e157_4 : decode cJ3_checkIndex_8e157 4 = .ok (.iload_n 0, 1) := by decide +kernel
theorem dJ3_checkIndex_8e157_5 : decode cJ3_checkIndex_8e157 5 = .ok (.iload_n 1, 1) := by decide +kernel
theorem dJ3_checkIndex_8e157_6 : decode cJ3_checkIndex_8e157 6 = .ok (.if_icmp .lt 10, 3) := by decide +kernel
theorem dJ3_checkIndex_8e157_9 : decode cJ3_checkIndex_8e157 9 = .ok (.aload_n 2, 1) := by decide +kernel
theorem dJ3_checkIndex_8e157_10 : decode cJ3_checkIndex_8e157 10 = .ok (.iload_n 0, 1) := by decide +kernel
theorem dJ3_checkIndex_8e157_11 : decode cJ3_checkIndex_8e157 11 = .ok (.iload_n 1, 1) := by decide +kernel
theorem dJ3_checkIndex_8e157_12 : decode cJ3_checkIndex_8e157 12 = .ok (.invokestatic 95, 3) := by decide +kernel
theorem dJ3_checkIndex_8e157_15 : decode cJ3_checkIndex_8e157 15 = .ok (.athrow, 1) := by decide +kernel
theorem dJ3_checkIndex_8e157_16 : decode cJ3_checkIndex_8e157 16 = .ok (.iload_n 0, 1) := by decide +kernel
theorem dJ3_checkIndex_8e157_17 : decode cJ3_checkIndex_8e157 17 = .ok (.ireturn, 1) := by decide +kernel
theorem dJ9_abs_0f7a4_0 : decode cJ9_abs_0f7a4 0 = .ok (.iload_n 0, 1) := by decide +kernel
theorem dJ9_abs_0f7a4_1 : decode cJ9_abs_0f7a4 1 = .ok (.ifCond .ge 8, 3) := by decide +kernel
theorem dJ9_abs_0f7a4_4 : decode cJ9_abs_0f7a4 4 = .ok (.iload_n 0, 1) := by decide +kernel
theorem dJ9_abs_0f7a4_5 : decode cJ9_abs_0f7a4 5 = .ok (.ineg, 1) := by decide +kernel
theorem dJ9_abs_0f7a4_6 : decode cJ9_abs_0f7a4 6 = .ok (.goto 4, 3) := by decide +kernel
theorem dJ9_abs_0f7a4_9 : decode cJ9_abs_0f7a4 9 = .ok (.iload_n 0, 1) := by decide +kernel
theorem dJ9_abs_0f7a4_10 : decode cJ9_abs_0f7a4 10 = .ok (.ireturn, 1) := by decide +kernel
theorem dJ9_max_7cf53_0 : decode cJ9_max_7cf53 0 = .ok (.iload_n 0, 1) := by decide +kernel
theorem dJ9_max_7cf53_1 : decode cJ9_max_7cf53 1 = .ok (.iload_n 1, 1) := by decide +kernel
theorem dJ9_max_7cf53_2 : decode cJ9_max_7cf53 2 = .ok (.if_icmp .lt 7, 3) := by decide +kernel
theorem dJ9_max_7cf53_5 : decode cJ9_max_7cf53 5 = .ok (.iload_n 0, 1) := by decide +kernel
theorem dJ9_max_7cf53_6 : decode cJ9_max_7cf53 6 = .ok (.goto 4, 3) := by decide +kernel
theorem dJ9_max_7cf53_9 : decode cJ9_max_7cf53 9 = .ok (.iload_n 1, 1) := by decide +kernel
theorem dJ9_max_7cf53_10 : decode cJ9_max_7cf53 10 = .ok (.ireturn, 1) := by decide +kernel
theorem dJ9_min_7cf53_0 : decode cJ9_min_7cf53 0 = .ok (.iload_n 0, 1) := by decide +kernel
theorem dJ9_min_7cf53_1 : decode cJ9_min_7cf53 1 = .ok (.iload_n 1, 1) := by decide +kernel
theorem dJ9_min_7cf53_2 : decode cJ9_min_7cf53 2 = .ok (.if_icmp .gt 7, 3) := by decide +kernel
theorem dJ9_min_7cf53_5 : decode cJ9_min_7cf53 5 = .ok (.iload_n 0, 1) := by decide +kernel
theorem dJ9_min_7cf53_6 : decode cJ9_min_7cf53 6 = .ok (.goto 4, 3) := by decide +kernel
theorem dJ9_min_7cf53_9 : decode cJ9_min_7cf53 9 = .ok (.iload_n 1, 1) := by decide +kernel
theorem dJ9_min_7cf53_10 : decode cJ9_min_7cf53 10 = .ok (.ireturn, 1) := by decide +kernel
theorem dL_cell_0 : decode cL_cell 0 = .ok (.iload_n 1, 1) := by decide +kernel
theorem dL_cell_1 : decode cL_cell 1 = .ok (.aload_n 0, 1) := by decide +kernel
theorem dL_cell_2 : decode cL_cell 2 = .ok (.arraylength, 1) := by decide +kernel
theorem dL_cell_3 : decode cL_cell 3 = .ok (.if_icmp .ge 9, 3) := by decide +kernel
theorem dL_cell_6 : decode cL_cell 6 = .ok (.aload_n 0, 1) := by decide +kernel
theorem dL_cell_7 : decode cL_cell 7 = .ok (.iload_n 1, 1) := by decide +kernel
theorem dL_cell_8 : decode cL_cell 8 = .ok (.iaload, 1) := by decide +kernel
theorem dL_cell_9 : decode cL_cell 9 = .ok (.goto 4, 3) := by decide +kernel
theorem dL_cell_12 : decode cL_cell 12 = .ok (.iconst 0, 1) := by decide +kernel
theorem dL_cell_13 : decode cL_cell 13 = .ok (.ireturn, 1) := by decide +kernel
theorem dX0_apart_0 : decode cX0_apart 0 = .ok (.iload_n 0, 1) := by decide +kernel
theorem dX0_apart_1 : decode cX0_apart 1 = .ok (.iload_n 1, 1) := by decide +kernel
theorem dX0_apart_2 : decode cX0_apart 2 = .ok (.isub, 1) := by decide +kernel
theorem dX0_apart_3 : decode cX0_apart 3 = .ok (.bipush 31, 2) := by decide +kernel
theorem dX0_apart_5 : decode cX0_apart 5 = .ok (.iand, 1) := by decide +kernel
theorem dX0_apart_6 : decode cX0_apart 6 = .ok (.istore_n 2, 1) := by decide +kernel
theorem dX0_apart_7 : decode cX0_apart 7 = .ok (.iload_n 2, 1) := by decide +kernel
theorem dX0_apart_8 : decode cX0_apart 8 = .ok (.bipush 32, 2) := by decide +kernel
theorem dX0_apart_10 : decode cX0_apart 10 = .ok (.iload_n 2, 1) := by decide +kernel
theorem dX0_apart_11 : decode cX0_apart 11 = .ok (.isub, 1) := by decide +kernel
theorem dX0_apart_12 : decode cX0_apart 12 = .ok (.invokestatic 9, 3) := by decide +kernel
theorem dX0_apart_15 : decode cX0_apart 15 = .ok (.ireturn, 1) := by decide +kernel
theorem dX0_best_0 : decode cX0_best 0 = .ok (.bipush 8, 2) := by decide +kernel
theorem dX0_best_2 : decode cX0_best 2 = .ok (.bipush 16, 2) := by decide +kernel
theorem dX0_best_4 : decode cX0_best 4 = .ok (.iload_n 0, 1) := by decide +kernel
theorem dX0_best_5 : decode cX0_best 5 = .ok (.isub, 1) := by decide +kernel
theorem dX0_best_6 : decode cX0_best 6 = .ok (.bipush 8, 2) := by decide +kernel
theorem dX0_best_8 : decode cX0_best 8 = .ok (.imul, 1) := by decide +kernel
theorem dX0_best_9 : decode cX0_best 9 = .ok (.bipush 10, 2) := by decide +kernel
theorem dX0_best_11 : decode cX0_best 11 = .ok (.idiv, 1) := by decide +kernel
theorem dX0_best_12 : decode cX0_best 12 = .ok (.invokestatic 9, 3) := by decide +kernel
theorem dX0_best_15 : decode cX0_best 15 = .ok (.ireturn, 1) := by decide +kernel
theorem dX0_east_0 : decode cX0_east 0 = .ok (.iload_n 0, 1) := by decide +kernel
theorem dX0_east_1 : decode cX0_east 1 = .ok (.bipush 8, 2) := by decide +kernel
theorem dX0_east_3 : decode cX0_east 3 = .ok (.isub, 1) := by decide +kernel
theorem dX0_east_4 : decode cX0_east 4 = .ok (.invokestatic 22, 3) := by decide +kernel
theorem dX0_east_7 : decode cX0_east 7 = .ok (.ireturn, 1) := by decide +kernel
theorem dX0_isAback_0 : decode cX0_isAback 0 = .ok (.iload_n 0, 1) := by decide +kernel
theorem dX0_isAback_1 : decode cX0_isAback 1 = .ok (.iconst 5, 1) := by decide +kernel
theorem dX0_isAback_2 : decode cX0_isAback 2 = .ok (.if_icmp .ge 7, 3) := by decide +kernel
theorem dX0_isAback_5 : decode cX0_isAback 5 = .ok (.iconst 1, 1) := by decide +kernel
theorem dX0_isAback_6 : decode cX0_isAback 6 = .ok (.goto 4, 3) := by decide +kernel
theorem dX0_isAback_9 : decode cX0_isAback 9 = .ok (.iconst 0, 1) := by decide +kernel
theorem dX0_isAback_10 : decode cX0_isAback 10 = .ok (.ireturn, 1) := by decide +kernel
theorem dX0_isWind_0 : decode cX0_isWind 0 = .ok (.iload_n 0, 1) := by decide +kernel
theorem dX0_isWind_1 : decode cX0_isWind 1 = .ok (.ifCond .lt 23, 3) := by decide +kernel
theorem dX0_isWind_4 : decode cX0_isWind 4 = .ok (.iload_n 0, 1) := by decide +kernel
theorem dX0_isWind_5 : decode cX0_isWind 5 = .ok (.bipush 32, 2) := by decide +kernel
theorem dX0_isWind_7 : decode cX0_isWind 7 = .ok (.if_icmp .ge 17, 3) := by decide +kernel
theorem dX0_isWind_10 : decode cX0_isWind 10 = .ok (.iload_n 1, 1) := by decide +kernel
theorem dX0_isWind_11 : decode cX0_isWind 11 = .ok (.ifCond .lt 13, 3) := by decide +kernel
theorem dX0_isWind_14 : decode cX0_isWind 14 = .ok (.iload_n 1, 1) := by decide +kernel
theorem dX0_isWind_15 : decode cX0_isWind 15 = .ok (.bipush 12, 2) := by decide +kernel
theorem dX0_isWind_17 : decode cX0_isWind 17 = .ok (.if_icmp .gt 7, 3) := by decide +kernel
theorem dX0_isWind_20 : decode cX0_isWind 20 = .ok (.iconst 1, 1) := by decide +kernel
theorem dX0_isWind_21 : decode cX0_isWind 21 = .ok (.goto 4, 3) := by decide +kernel
theorem dX0_isWind_24 : decode cX0_isWind 24 = .ok (.iconst 0, 1) := by decide +kernel
theorem dX0_isWind_25 : decode cX0_isWind 25 = .ok (.ireturn, 1) := by decide +kernel
theorem dX0_north_0 : decode cX0_north 0 = .ok (.getstatic 19, 3) := by decide +kernel
theorem dX0_north_3 : decode cX0_north 3 = .ok (.iload_n 0, 1) := by decide +kernel
theorem dX0_north_4 : decode cX0_north 4 = .ok (.bipush 31, 2) := by decide +kernel
theorem dX0_north_6 : decode cX0_north 6 = .ok (.iand, 1) := by decide +kernel
theorem dX0_north_7 : decode cX0_north 7 = .ok (.iaload, 1) := by decide +kernel
theorem dX0_north_8 : decode cX0_north 8 = .ok (.ireturn, 1) := by decide +kernel
theorem dX0_pull_0 : decode cX0_pull 0 = .ok (.iload_n 0, 1) := by decide +kernel
theorem dX0_pull_1 : decode cX0_pull 1 = .ok (.ifCond .lt 11, 3) := by decide +kernel
theorem dX0_pull_4 : decode cX0_pull 4 = .ok (.iload_n 0, 1) := by decide +kernel
theorem dX0_pull_5 : decode cX0_pull 5 = .ok (.getstatic 15, 3) := by decide +kernel
theorem dX0_pull_8 : decode cX0_pull 8 = .ok (.arraylength, 1) := by decide +kernel
theorem dX0_pull_9 : decode cX0_pull 9 = .ok (.if_icmp .lt 7, 3) := by decide +kernel
theorem dX0_pull_12 : decode cX0_pull 12 = .ok (.iconst 0, 1) := by decide +kernel
theorem dX0_pull_13 : decode cX0_pull 13 = .ok (.goto 8, 3) := by decide +kernel
theorem dX0_pull_16 : decode cX0_pull 16 = .ok (.getstatic 15, 3) := by decide +kernel
theorem dX0_pull_19 : decode cX0_pull 19 = .ok (.iload_n 0, 1) := by decide +kernel
theorem dX0_pull_20 : decode cX0_pull 20 = .ok (.iaload, 1) := by decide +kernel
theorem dX0_pull_21 : decode cX0_pull 21 = .ok (.ireturn, 1) := by decide +kernel
theorem dX0_turned_0 : decode cX0_turned 0 = .ok (.iload_n 1, 1) := by decide +kernel
theorem dX0_turned_1 : decode cX0_turned 1 = .ok (.iload_n 0, 1) := by decide +kernel
theorem dX0_turned_2 : decode cX0_turned 2 = .ok (.isub, 1) := by decide +kernel
theorem dX0_turned_3 : decode cX0_turned 3 = .ok (.bipush 31, 2) := by decide +kernel
theorem dX0_turned_5 : decode cX0_turned 5 = .ok (.iand, 1) := by decide +kernel
theorem dX0_turned_6 : decode cX0_turned 6 = .ok (.istore_n 2, 1) := by decide +kernel
theorem dX0_turned_7 : decode cX0_turned 7 = .ok (.iload_n 2, 1) := by decide +kernel
theorem dX0_turned_8 : decode cX0_turned 8 = .ok (.ifCond .ne 5, 3) := by decide +kernel
theorem dX0_turned_11 : decode cX0_turned 11 = .ok (.iload_n 0, 1) := by decide +kernel
theorem dX0_turned_12 : decode cX0_turned 12 = .ok (.ireturn, 1) := by decide +kernel
theorem dX0_turned_13 : decode cX0_turned 13 = .ok (.iload_n 2, 1) := by decide +kernel
theorem dX0_turned_14 : decode cX0_turned 14 = .ok (.bipush 16, 2) := by decide +kernel
theorem dX0_turned_16 : decode cX0_turned 16 = .ok (.if_icmp .gt 7, 3) := by decide +kernel
theorem dX0_turned_19 : decode cX0_turned 19 = .ok (.iconst 1, 1) := by decide +kernel
theorem dX0_turned_20 : decode cX0_turned 20 = .ok (.goto 4, 3) := by decide +kernel
theorem dX0_turned_23 : decode cX0_turned 23 = .ok (.iconst (-1), 1) := by decide +kernel
theorem dX0_turned_24 : decode cX0_turned 24 = .ok (.istore_n 3, 1) := by decide +kernel
theorem dX0_turned_25 : decode cX0_turned 25 = .ok (.iload_n 0, 1) := by decide +kernel
theorem dX0_turned_26 : decode cX0_turned 26 = .ok (.iload_n 3, 1) := by decide +kernel
theorem dX0_turned_27 : decode cX0_turned 27 = .ok (.iadd, 1) := by decide +kernel
theorem dX0_turned_28 : decode cX0_turned 28 = .ok (.bipush 31, 2) := by decide +kernel
theorem dX0_turned_30 : decode cX0_turned 30 = .ok (.iand, 1) := by decide +kernel
theorem dX0_turned_31 : decode cX0_turned 31 = .ok (.ireturn, 1) := by decide +kernel
theorem dX1_assign_0 : decode cX1_assign 0 = .ok (.aload_n 0, 1) := by decide +kernel
theorem dX1_assign_1 : decode cX1_assign 1 = .ok (.getfield 15, 3) := by decide +kernel
theorem dX1_assign_4 : decode cX1_assign 4 = .ok (.iload_n 1, 1) := by decide +kernel
theorem dX1_assign_5 : decode cX1_assign 5 = .ok (.iload_n 2, 1) := by decide +kernel
theorem dX1_assign_6 : decode cX1_assign 6 = .ok (.iastore, 1) := by decide +kernel
theorem dX1_assign_7 : decode cX1_assign 7 = .ok (.aload_n 0, 1) := by decide +kernel
theorem dX1_assign_8 : decode cX1_assign 8 = .ok (.getfield 19, 3) := by decide +kernel
theorem dX1_assign_11 : decode cX1_assign 11 = .ok (.iload_n 1, 1) := by decide +kernel
theorem dX1_assign_12 : decode cX1_assign 12 = .ok (.iload_n 3, 1) := by decide +kernel
theorem dX1_assign_13 : decode cX1_assign 13 = .ok (.iastore, 1) := by decide +kernel
theorem dX1_assign_14 : decode cX1_assign 14 = .ok (.aload_n 0, 1) := by decide +kernel
theorem dX1_assign_15 : decode cX1_assign 15 = .ok (.getfield 22, 3) := by decide +kernel
theorem dX1_assign_18 : decode cX1_assign 18 = .ok (.iload_n 1, 1) := by decide +kernel
theorem dX1_assign_19 : decode cX1_assign 19 = .ok (.iload 4, 2) := by decide +kernel
theorem dX1_assign_21 : decode cX1_assign 21 = .ok (.iastore, 1) := by decide +kernel
theorem dX1_assign_22 : decode cX1_assign 22 = .ok (.aload_n 0, 1) := by decide +kernel
theorem dX1_assign_23 : decode cX1_assign 23 = .ok (.getfield 25, 3) := by decide +kernel
theorem dX1_assign_26 : decode cX1_assign 26 = .ok (.iload_n 1, 1) := by decide +kernel
theorem dX1_assign_27 : decode cX1_assign 27 = .ok (.iload 5, 2) := by decide +kernel
theorem dX1_assign_29 : decode cX1_assign 29 = .ok (.iastore, 1) := by decide +kernel
theorem dX1_assign_30 : decode cX1_assign 30 = .ok (.aload_n 0, 1) := by decide +kernel
theorem dX1_assign_31 : decode cX1_assign 31 = .ok (.dup, 1) := by decide +kernel
theorem dX1_assign_32 : decode cX1_assign 32 = .ok (.getfield 41, 3) := by decide +kernel
theorem dX1_assign_35 : decode cX1_assign 35 = .ok (.iconst 1, 1) := by decide +kernel
theorem dX1_assign_36 : decode cX1_assign 36 = .ok (.iadd, 1) := by decide +kernel
theorem dX1_assign_37 : decode cX1_assign 37 = .ok (.putfield 41, 3) := by decide +kernel
theorem dX1_assign_40 : decode cX1_assign 40 = .ok (.return_, 1) := by decide +kernel
theorem dX1_endOf_0 : decode cX1_endOf 0 = .ok (.aload_n 0, 1) := by decide +kernel
theorem dX1_endOf_1 : decode cX1_endOf 1 = .ok (.getfield 28, 3) := by decide +kernel
theorem dX1_endOf_4 : decode cX1_endOf 4 = .ok (.iload_n 1, 1) := by decide +kernel
theorem dX1_endOf_5 : decode cX1_endOf 5 = .ok (.iaload, 1) := by decide +kernel
theorem dX1_endOf_6 : decode cX1_endOf 6 = .ok (.iconst (-1), 1) := by decide +kernel
theorem dX1_endOf_7 : decode cX1_endOf 7 = .ok (.if_icmp .ne 7, 3) := by decide +kernel
theorem dX1_endOf_10 : decode cX1_endOf 10 = .ok (.iconst 0, 1) := by decide +kernel
theorem dX1_endOf_11 : decode cX1_endOf 11 = .ok (.goto 14, 3) := by decide +kernel
theorem dX1_endOf_14 : decode cX1_endOf 14 = .ok (.aload_n 0, 1) := by decide +kernel
theorem dX1_endOf_15 : decode cX1_endOf 15 = .ok (.getfield 25, 3) := by decide +kernel
theorem dX1_endOf_18 : decode cX1_endOf 18 = .ok (.aload_n 0, 1) := by decide +kernel
theorem dX1_endOf_19 : decode cX1_endOf 19 = .ok (.getfield 28, 3) := by decide +kernel
theorem dX1_endOf_22 : decode cX1_endOf 22 = .ok (.iload_n 1, 1) := by decide +kernel
theorem dX1_endOf_23 : decode cX1_endOf 23 = .ok (.iaload, 1) := by decide +kernel
theorem dX1_endOf_24 : decode cX1_endOf 24 = .ok (.iaload, 1) := by decide +kernel
theorem dX1_endOf_25 : decode cX1_endOf 25 = .ok (.ireturn, 1) := by decide +kernel
theorem dX1_init_0 : decode cX1_init 0 = .ok (.aload_n 0, 1) := by decide +kernel
theorem dX1_init_1 : decode cX1_init 1 = .ok (.invokespecial 3, 3) := by decide +kernel
theorem dX1_init_4 : decode cX1_init 4 = .ok (.aload_n 0, 1) := by decide +kernel
theorem dX1_init_5 : decode cX1_init 5 = .ok (.iload_n 1, 1) := by decide +kernel
theorem dX1_init_6 : decode cX1_init 6 = .ok (.putfield 9, 3) := by decide +kernel
theorem dX1_init_9 : decode cX1_init 9 = .ok (.aload_n 0, 1) := by decide +kernel
theorem dX1_init_10 : decode cX1_init 10 = .ok (.bipush 24, 2) := by decide +kernel
theorem dX1_init_12 : decode cX1_init 12 = .ok (.newarray .int, 2) := by decide +kernel
theorem dX1_init_14 : decode cX1_init 14 = .ok (.putfield 15, 3) := by decide +kernel
theorem dX1_init_17 : decode cX1_init 17 = .ok (.aload_n 0, 1) := by decide +kernel
theorem dX1_init_18 : decode cX1_init 18 = .ok (.bipush 24, 2) := by decide +kernel
theorem dX1_init_20 : decode cX1_init 20 = .ok (.newarray .int, 2) := by decide +kernel
theorem dX1_init_22 : decode cX1_init 22 = .ok (.putfield 19, 3) := by decide +kernel
theorem dX1_init_25 : decode cX1_init 25 = .ok (.aload_n 0, 1) := by decide +kernel
theorem dX1_init_26 : decode cX1_init 26 = .ok (.bipush 24, 2) := by decide +kernel
theorem dX1_init_28 : decode cX1_init 28 = .ok (.newarray .int, 2) := by decide +kernel
theorem dX1_init_30 : decode cX1_init 30 = .ok (.putfield 22, 3) := by decide +kernel
theorem dX1_init_33 : decode cX1_init 33 = .ok (.aload_n 0, 1) := by decide +kernel
theorem dX1_init_34 : decode cX1_init 34 = .ok (.bipush 24, 2) := by decide +kernel
theorem dX1_init_36 : decode cX1_init 36 = .ok (.newarray .int, 2) := by decide +kernel
theorem dX1_init_38 : decode cX1_init 38 = .ok (.putfield 25, 3) := by decide +kernel
theorem dX1_init_41 : decode cX1_init 41 = .ok (.aload_n 0, 1) := by decide +kernel
theorem dX1_init_42 : decode cX1_init 42 = .ok (.bipush 24, 2) := by decide +kernel
theorem dX1_init_44 : decode cX1_init 44 = .ok (.newarray .int, 2) := by decide +kernel
theorem dX1_init_46 : decode cX1_init 46 = .ok (.putfield 28, 3) := by decide +kernel
theorem dX1_init_49 : decode cX1_init 49 = .ok (.iconst 0, 1) := by decide +kernel
theorem dX1_init_50 : decode cX1_init 50 = .ok (.istore_n 2, 1) := by decide +kernel
theorem dX1_init_51 : decode cX1_init 51 = .ok (.iload_n 2, 1) := by decide +kernel
theorem dX1_init_52 : decode cX1_init 52 = .ok (.bipush 24, 2) := by decide +kernel
theorem dX1_init_54 : decode cX1_init 54 = .ok (.if_icmp .ge 16, 3) := by decide +kernel
theorem dX1_init_57 : decode cX1_init 57 = .ok (.aload_n 0, 1) := by decide +kernel
theorem dX1_init_58 : decode cX1_init 58 = .ok (.getfield 28, 3) := by decide +kernel
theorem dX1_init_61 : decode cX1_init 61 = .ok (.iload_n 2, 1) := by decide +kernel
theorem dX1_init_62 : decode cX1_init 62 = .ok (.iconst (-1), 1) := by decide +kernel
theorem dX1_init_63 : decode cX1_init 63 = .ok (.iastore, 1) := by decide +kernel
theorem dX1_init_64 : decode cX1_init 64 = .ok (.iinc 2 1, 3) := by decide +kernel
theorem dX1_init_67 : decode cX1_init 67 = .ok (.goto (-16), 3) := by decide +kernel
theorem dX1_init_70 : decode cX1_init 70 = .ok (.return_, 1) := by decide +kernel
theorem dX1_isDue_0 : decode cX1_isDue 0 = .ok (.aload_n 0, 1) := by decide +kernel
theorem dX1_isDue_1 : decode cX1_isDue 1 = .ok (.getfield 28, 3) := by decide +kernel
theorem dX1_isDue_4 : decode cX1_isDue 4 = .ok (.iload_n 1, 1) := by decide +kernel
theorem dX1_isDue_5 : decode cX1_isDue 5 = .ok (.iaload, 1) := by decide +kernel
theorem dX1_isDue_6 : decode cX1_isDue 6 = .ok (.iload_n 1, 1) := by decide +kernel
theorem dX1_isDue_7 : decode cX1_isDue 7 = .ok (.if_icmp .ne 17, 3) := by decide +kernel
theorem dX1_isDue_10 : decode cX1_isDue 10 = .ok (.aload_n 0, 1) := by decide +kernel
theorem dX1_isDue_11 : decode cX1_isDue 11 = .ok (.getfield 25, 3) := by decide +kernel
theorem dX1_isDue_14 : decode cX1_isDue 14 = .ok (.iload_n 1, 1) := by decide +kernel
theorem dX1_isDue_15 : decode cX1_isDue 15 = .ok (.iaload, 1) := by decide +kernel
theorem dX1_isDue_16 : decode cX1_isDue 16 = .ok (.iload_n 2, 1) := by decide +kernel
theorem dX1_isDue_17 : decode cX1_isDue 17 = .ok (.if_icmp .gt 7, 3) := by decide +kernel
theorem dX1_isDue_20 : decode cX1_isDue 20 = .ok (.iconst 1, 1) := by decide +kernel
theorem dX1_isDue_21 : decode cX1_isDue 21 = .ok (.goto 4, 3) := by decide +kernel
theorem dX1_isDue_24 : decode cX1_isDue 24 = .ok (.iconst 0, 1) := by decide +kernel
theorem dX1_isDue_25 : decode cX1_isDue 25 = .ok (.ireturn, 1) := by decide +kernel
theorem dX1_isFree_0 : decode cX1_isFree 0 = .ok (.aload_n 0, 1) := by decide +kernel
theorem dX1_isFree_1 : decode cX1_isFree 1 = .ok (.getfield 28, 3) := by decide +kernel
theorem dX1_isFree_4 : decode cX1_isFree 4 = .ok (.iload_n 1, 1) := by decide +kernel
theorem dX1_isFree_5 : decode cX1_isFree 5 = .ok (.iaload, 1) := by decide +kernel
theorem dX1_isFree_6 : decode cX1_isFree 6 = .ok (.iconst (-1), 1) := by decide +kernel
theorem dX1_isFree_7 : decode cX1_isFree 7 = .ok (.if_icmp .ne 7, 3) := by decide +kernel
theorem dX1_isFree_10 : decode cX1_isFree 10 = .ok (.iconst 1, 1) := by decide +kernel
theorem dX1_isFree_11 : decode cX1_isFree 11 = .ok (.goto 4, 3) := by decide +kernel
theorem dX1_isFree_14 : decode cX1_isFree 14 = .ok (.iconst 0, 1) := by decide +kernel
theorem dX1_isFree_15 : decode cX1_isFree 15 = .ok (.ireturn, 1) := by decide +kernel
theorem dX1_isOnDeck_0 : decode cX1_isOnDeck 0 = .ok (.aload_n 0, 1) := by decide +kernel
theorem dX1_isOnDeck_1 : decode cX1_isOnDeck 1 = .ok (.getfield 31, 3) := by decide +kernel
theorem dX1_isOnDeck_4 : decode cX1_isOnDeck 4 = .ok (.iconst 2, 1) := by decide +kernel
theorem dX1_isOnDeck_5 : decode cX1_isOnDeck 5 = .ok (.if_icmp .eq 13, 3) := by decide +kernel
theorem dX1_isOnDeck_8 : decode cX1_isOnDeck 8 = .ok (.iload_n 1, 1) := by decide +kernel
theorem dX1_isOnDeck_9 : decode cX1_isOnDeck 9 = .ok (.iconst 2, 1) := by decide +kernel
theorem dX1_isOnDeck_10 : decode cX1_isOnDeck 10 = .ok (.irem, 1) := by decide +kernel
theorem dX1_isOnDeck_11 : decode cX1_isOnDeck 11 = .ok (.aload_n 0, 1) := by decide +kernel
theorem dX1_isOnDeck_12 : decode cX1_isOnDeck 12 = .ok (.getfield 31, 3) := by decide +kernel
theorem dX1_isOnDeck_15 : decode cX1_isOnDeck 15 = .ok (.if_icmp .ne 7, 3) := by decide +kernel
theorem dX1_isOnDeck_18 : decode cX1_isOnDeck 18 = .ok (.iconst 1, 1) := by decide +kernel
theorem dX1_isOnDeck_19 : decode cX1_isOnDeck 19 = .ok (.goto 4, 3) := by decide +kernel
theorem dX1_isOnDeck_22 : decode cX1_isOnDeck 22 = .ok (.iconst 0, 1) := by decide +kernel
theorem dX1_isOnDeck_23 : decode cX1_isOnDeck 23 = .ok (.ireturn, 1) := by decide +kernel
theorem dX1_isReady_0 : decode cX1_isReady 0 = .ok (.aload_n 0, 1) := by decide +kernel
theorem dX1_isReady_1 : decode cX1_isReady 1 = .ok (.getfield 28, 3) := by decide +kernel
theorem dX1_isReady_4 : decode cX1_isReady 4 = .ok (.iload_n 1, 1) := by decide +kernel
theorem dX1_isReady_5 : decode cX1_isReady 5 = .ok (.iaload, 1) := by decide +kernel
theorem dX1_isReady_6 : decode cX1_isReady 6 = .ok (.iconst (-1), 1) := by decide +kernel
theorem dX1_isReady_7 : decode cX1_isReady 7 = .ok (.if_icmp .ne 15, 3) := by decide +kernel
theorem dX1_isReady_10 : decode cX1_isReady 10 = .ok (.aload_n 0, 1) := by decide +kernel
theorem dX1_isReady_11 : decode cX1_isReady 11 = .ok (.iload_n 1, 1) := by decide +kernel
theorem dX1_isReady_12 : decode cX1_isReady 12 = .ok (.invokevirtual 34, 3) := by decide +kernel
theorem dX1_isReady_15 : decode cX1_isReady 15 = .ok (.ifCond .eq 7, 3) := by decide +kernel
theorem dX1_isReady_18 : decode cX1_isReady 18 = .ok (.iconst 1, 1) := by decide +kernel
theorem dX1_isReady_19 : decode cX1_isReady 19 = .ok (.goto 4, 3) := by decide +kernel
theorem dX1_isReady_22 : decode cX1_isReady 22 = .ok (.iconst 0, 1) := by decide +kernel
theorem dX1_isReady_23 : decode cX1_isReady 23 = .ok (.ireturn, 1) := by decide +kernel
theorem dX1_muster_0 : decode cX1_muster 0 = .ok (.iconst 0, 1) := by decide +kernel
theorem dX1_muster_1 : decode cX1_muster 1 = .ok (.istore_n 2, 1) := by decide +kernel
theorem dX1_muster_2 : decode cX1_muster 2 = .ok (.iconst 0, 1) := by decide +kernel
theorem dX1_muster_3 : decode cX1_muster 3 = .ok (.istore_n 3, 1) := by decide +kernel
theorem dX1_muster_4 : decode cX1_muster 4 = .ok (.iload_n 3, 1) := by decide +kernel
theorem dX1_muster_5 : decode cX1_muster 5 = .ok (.aload_n 0, 1) := by decide +kernel
theorem dX1_muster_6 : decode cX1_muster 6 = .ok (.getfield 9, 3) := by decide +kernel
theorem dX1_muster_9 : decode cX1_muster 9 = .ok (.if_icmp .ge 25, 3) := by decide +kernel
theorem dX1_muster_12 : decode cX1_muster 12 = .ok (.iload_n 2, 1) := by decide +kernel
theorem dX1_muster_13 : decode cX1_muster 13 = .ok (.aload_n 0, 1) := by decide +kernel
theorem dX1_muster_14 : decode cX1_muster 14 = .ok (.iload_n 3, 1) := by decide +kernel
theorem dX1_muster_15 : decode cX1_muster 15 = .ok (.invokevirtual 38, 3) := by decide +kernel
theorem dX1_muster_18 : decode cX1_muster 18 = .ok (.ifCond .eq 7, 3) := by decide +kernel
theorem dX1_muster_21 : decode cX1_muster 21 = .ok (.iconst 1, 1) := by decide +kernel
theorem dX1_muster_22 : decode cX1_muster 22 = .ok (.goto 4, 3) := by decide +kernel
theorem dX1_muster_25 : decode cX1_muster 25 = .ok (.iconst 0, 1) := by decide +kernel
theorem dX1_muster_26 : decode cX1_muster 26 = .ok (.iadd, 1) := by decide +kernel
theorem dX1_muster_27 : decode cX1_muster 27 = .ok (.istore_n 2, 1) := by decide +kernel
theorem dX1_muster_28 : decode cX1_muster 28 = .ok (.iinc 3 1, 3) := by decide +kernel
theorem dX1_muster_31 : decode cX1_muster 31 = .ok (.goto (-27), 3) := by decide +kernel
theorem dX1_muster_34 : decode cX1_muster 34 = .ok (.iload_n 2, 1) := by decide +kernel
theorem dX1_muster_35 : decode cX1_muster 35 = .ok (.iload_n 1, 1) := by decide +kernel
theorem dX1_muster_36 : decode cX1_muster 36 = .ok (.if_icmp .ge 5, 3) := by decide +kernel
theorem dX1_muster_39 : decode cX1_muster 39 = .ok (.iconst (-1), 1) := by decide +kernel
theorem dX1_muster_40 : decode cX1_muster 40 = .ok (.ireturn, 1) := by decide +kernel
theorem dX1_muster_41 : decode cX1_muster 41 = .ok (.iconst (-1), 1) := by decide +kernel
theorem dX1_muster_42 : decode cX1_muster 42 = .ok (.istore_n 3, 1) := by decide +kernel
theorem dX1_muster_43 : decode cX1_muster 43 = .ok (.iload_n 1, 1) := by decide +kernel
theorem dX1_muster_44 : decode cX1_muster 44 = .ok (.istore 4, 2) := by decide +kernel
theorem dX1_muster_46 : decode cX1_muster 46 = .ok (.iconst 0, 1) := by decide +kernel
theorem dX1_muster_47 : decode cX1_muster 47 = .ok (.istore 5, 2) := by decide +kernel
theorem dX1_muster_49 : decode cX1_muster 49 = .ok (.iload 5, 2) := by decide +kernel
theorem dX1_muster_51 : decode cX1_muster 51 = .ok (.aload_n 0, 1) := by decide +kernel
theorem dX1_muster_52 : decode cX1_muster 52 = .ok (.getfield 9, 3) := by decide +kernel
theorem dX1_muster_55 : decode cX1_muster 55 = .ok (.if_icmp .ge 46, 3) := by decide +kernel
theorem dX1_muster_58 : decode cX1_muster 58 = .ok (.iload 4, 2) := by decide +kernel
theorem dX1_muster_60 : decode cX1_muster 60 = .ok (.ifCond .le 41, 3) := by decide +kernel
theorem dX1_muster_63 : decode cX1_muster 63 = .ok (.aload_n 0, 1) := by decide +kernel
theorem dX1_muster_64 : decode cX1_muster 64 = .ok (.iload 5, 2) := by decide +kernel
theorem dX1_muster_66 : decode cX1_muster 66 = .ok (.invokevirtual 38, 3) := by decide +kernel
theorem dX1_muster_69 : decode cX1_muster 69 = .ok (.ifCond .eq 26, 3) := by decide +kernel
theorem dX1_muster_72 : decode cX1_muster 72 = .ok (.iload_n 3, 1) := by decide +kernel
theorem dX1_muster_73 : decode cX1_muster 73 = .ok (.iconst (-1), 1) := by decide +kernel
theorem dX1_muster_74 : decode cX1_muster 74 = .ok (.if_icmp .ne 8, 3) := by decide +kernel
theorem dX1_muster_77 : decode cX1_muster 77 = .ok (.iload 5, 2) := by decide +kernel
theorem dX1_muster_79 : decode cX1_muster 79 = .ok (.goto 4, 3) := by decide +kernel
theorem dX1_muster_82 : decode cX1_muster 82 = .ok (.iload_n 3, 1) := by decide +kernel
theorem dX1_muster_83 : decode cX1_muster 83 = .ok (.istore_n 3, 1) := by decide +kernel
theorem dX1_muster_84 : decode cX1_muster 84 = .ok (.aload_n 0, 1) := by decide +kernel
theorem dX1_muster_85 : decode cX1_muster 85 = .ok (.getfield 28, 3) := by decide +kernel
theorem dX1_muster_88 : decode cX1_muster 88 = .ok (.iload 5, 2) := by decide +kernel
theorem dX1_muster_90 : decode cX1_muster 90 = .ok (.iload_n 3, 1) := by decide +kernel
theorem dX1_muster_91 : decode cX1_muster 91 = .ok (.iastore, 1) := by decide +kernel
theorem dX1_muster_92 : decode cX1_muster 92 = .ok (.iinc 4 (-1), 3) := by decide +kernel
theorem dX1_muster_95 : decode cX1_muster 95 = .ok (.iinc 5 1, 3) := by decide +kernel
theorem dX1_muster_98 : decode cX1_muster 98 = .ok (.goto (-49), 3) := by decide +kernel
theorem dX1_muster_101 : decode cX1_muster 101 = .ok (.iload_n 3, 1) := by decide +kernel
theorem dX1_muster_102 : decode cX1_muster 102 = .ok (.ireturn, 1) := by decide +kernel
theorem dX1_release_0 : decode cX1_release 0 = .ok (.iload_n 1, 1) := by decide +kernel
theorem dX1_release_1 : decode cX1_release 1 = .ok (.iconst (-1), 1) := by decide +kernel
theorem dX1_release_2 : decode cX1_release 2 = .ok (.if_icmp .ne 4, 3) := by decide +kernel
theorem dX1_release_5 : decode cX1_release 5 = .ok (.return_, 1) := by decide +kernel
theorem dX1_release_6 : decode cX1_release 6 = .ok (.iload_n 1, 1) := by decide +kernel
theorem dX1_release_7 : decode cX1_release 7 = .ok (.istore_n 2, 1) := by decide +kernel
theorem dX1_release_8 : decode cX1_release 8 = .ok (.iload_n 2, 1) := by decide +kernel
theorem dX1_release_9 : decode cX1_release 9 = .ok (.aload_n 0, 1) := by decide +kernel
theorem dX1_release_10 : decode cX1_release 10 = .ok (.getfield 9, 3) := by decide +kernel
theorem dX1_release_13 : decode cX1_release 13 = .ok (.if_icmp .ge 26, 3) := by decide +kernel
theorem dX1_release_16 : decode cX1_release 16 = .ok (.aload_n 0, 1) := by decide +kernel
theorem dX1_release_17 : decode cX1_release 17 = .ok (.getfield 28, 3) := by decide +kernel
theorem dX1_release_20 : decode cX1_release 20 = .ok (.iload_n 2, 1) := by decide +kernel
theorem dX1_release_21 : decode cX1_release 21 = .ok (.iaload, 1) := by decide +kernel
theorem dX1_release_22 : decode cX1_release 22 = .ok (.iload_n 1, 1) := by decide +kernel
theorem dX1_release_23 : decode cX1_release 23 = .ok (.if_icmp .ne 10, 3) := by decide +kernel
theorem dX1_release_26 : decode cX1_release 26 = .ok (.aload_n 0, 1) := by decide +kernel
theorem dX1_release_27 : decode cX1_release 27 = .ok (.getfield 28, 3) := by decide +kernel
theorem dX1_release_30 : decode cX1_release 30 = .ok (.iload_n 2, 1) := by decide +kernel
theorem dX1_release_31 : decode cX1_release 31 = .ok (.iconst (-1), 1) := by decide +kernel
theorem dX1_release_32 : decode cX1_release 32 = .ok (.iastore, 1) := by decide +kernel
theorem dX1_release_33 : decode cX1_release 33 = .ok (.iinc 2 1, 3) := by decide +kernel
theorem dX1_release_36 : decode cX1_release 36 = .ok (.goto (-28), 3) := by decide +kernel
theorem dX1_release_39 : decode cX1_release 39 = .ok (.aload_n 0, 1) := by decide +kernel
theorem dX1_release_40 : decode cX1_release 40 = .ok (.dup, 1) := by decide +kernel
theorem dX1_release_41 : decode cX1_release 41 = .ok (.getfield 41, 3) := by decide +kernel
theorem dX1_release_44 : decode cX1_release 44 = .ok (.iconst 1, 1) := by decide +kernel
theorem dX1_release_45 : decode cX1_release 45 = .ok (.isub, 1) := by decide +kernel
theorem dX1_release_46 : decode cX1_release 46 = .ok (.putfield 41, 3) := by decide +kernel
theorem dX1_release_49 : decode cX1_release 49 = .ok (.return_, 1) := by decide +kernel
theorem dX2_chooseCourses_0 : decode cX2_chooseCourses 0 = .ok (.iconst 0, 1) := by decide +kernel
theorem dX2_chooseCourses_1 : decode cX2_chooseCourses 1 = .ok (.istore_n 1, 1) := by decide +kernel
theorem dX2_chooseCourses_2 : decode cX2_chooseCourses 2 = .ok (.iconst 0, 1) := by decide +kernel
theorem dX2_chooseCourses_3 : decode cX2_chooseCourses 3 = .ok (.istore_n 2, 1) := by decide +kernel
theorem dX2_chooseCourses_4 : decode cX2_chooseCourses 4 = .ok (.iconst 0, 1) := by decide +kernel
theorem dX2_chooseCourses_5 : decode cX2_chooseCourses 5 = .ok (.istore_n 3, 1) := by decide +kernel
theorem dX2_chooseCourses_6 : decode cX2_chooseCourses 6 = .ok (.iload_n 3, 1) := by decide +kernel
theorem dX2_chooseCourses_7 : decode cX2_chooseCourses 7 = .ok (.aload_n 0, 1) := by decide +kernel
theorem dX2_chooseCourses_8 : decode cX2_chooseCourses 8 = .ok (.getfield 60, 3) := by decide +kernel
theorem dX2_chooseCourses_11 : decode cX2_chooseCourses 11 = .ok (.if_icmp .ge 56, 3) := by decide +kernel
theorem dX2_chooseCourses_14 : decode cX2_chooseCourses 14 = .ok (.aload_n 0, 1) := by decide +kernel
theorem dX2_chooseCourses_15 : decode cX2_chooseCourses 15 = .ok (.iload_n 3, 1) := by decide +kernel
theorem dX2_chooseCourses_16 : decode cX2_chooseCourses 16 = .ok (.iload_n 1, 1) := by decide +kernel
theorem dX2_chooseCourses_17 : decode cX2_chooseCourses 17 = .ok (.iload_n 2, 1) := by decide +kernel
theorem dX2_chooseCourses_18 : decode cX2_chooseCourses 18 = .ok (.invokevirtual 91, 3) := by decide +kernel
theorem dX2_chooseCourses_21 : decode cX2_chooseCourses 21 = .ok (.istore 4, 2) := by decide +kernel
theorem dX2_chooseCourses_23 : decode cX2_chooseCourses 23 = .ok (.aload_n 0, 1) := by decide +kernel
theorem dX2_chooseCourses_24 : decode cX2_chooseCourses 24 = .ok (.getfield 27, 3) := by decide +kernel
theorem dX2_chooseCourses_27 : decode cX2_chooseCourses 27 = .ok (.iload_n 3, 1) := by decide +kernel
theorem dX2_chooseCourses_28 : decode cX2_chooseCourses 28 = .ok (.iload 4, 2) := by decide +kernel
theorem dX2_chooseCourses_30 : decode cX2_chooseCourses 30 = .ok (.iastore, 1) := by decide +kernel
theorem dX2_chooseCourses_31 : decode cX2_chooseCourses 31 = .ok (.iload_n 1, 1) := by decide +kernel
theorem dX2_chooseCourses_32 : decode cX2_chooseCourses 32 = .ok (.aload_n 0, 1) := by decide +kernel
theorem dX2_chooseCourses_33 : decode cX2_chooseCourses 33 = .ok (.getfield 13, 3) := by decide +kernel
theorem dX2_chooseCourses_36 : decode cX2_chooseCourses 36 = .ok (.iload_n 3, 1) := by decide +kernel
theorem dX2_chooseCourses_37 : decode cX2_chooseCourses 37 = .ok (.bipush 32, 2) := by decide +kernel
theorem dX2_chooseCourses_39 : decode cX2_chooseCourses 39 = .ok (.imul, 1) := by decide +kernel
theorem dX2_chooseCourses_40 : decode cX2_chooseCourses 40 = .ok (.iload 4, 2) := by decide +kernel
theorem dX2_chooseCourses_42 : decode cX2_chooseCourses 42 = .ok (.iadd, 1) := by decide +kernel
theorem dX2_chooseCourses_43 : decode cX2_chooseCourses 43 = .ok (.iaload, 1) := by decide +kernel
theorem dX2_chooseCourses_44 : decode cX2_chooseCourses 44 = .ok (.iadd, 1) := by decide +kernel
theorem dX2_chooseCourses_45 : decode cX2_chooseCourses 45 = .ok (.istore_n 1, 1) := by decide +kernel
theorem dX2_chooseCourses_46 : decode cX2_chooseCourses 46 = .ok (.iload_n 2, 1) := by decide +kernel
theorem dX2_chooseCourses_47 : decode cX2_chooseCourses 47 = .ok (.aload_n 0, 1) := by decide +kernel
theorem dX2_chooseCourses_48 : decode cX2_chooseCourses 48 = .ok (.getfield 17, 3) := by decide +kernel
theorem dX2_chooseCourses_51 : decode cX2_chooseCourses 51 = .ok (.iload_n 3, 1) := by decide +kernel
theorem dX2_chooseCourses_52 : decode cX2_chooseCourses 52 = .ok (.bipush 32, 2) := by decide +kernel
theorem dX2_chooseCourses_54 : decode cX2_chooseCourses 54 = .ok (.imul, 1) := by decide +kernel
theorem dX2_chooseCourses_55 : decode cX2_chooseCourses 55 = .ok (.iload 4, 2) := by decide +kernel
theorem dX2_chooseCourses_57 : decode cX2_chooseCourses 57 = .ok (.iadd, 1) := by decide +kernel
theorem dX2_chooseCourses_58 : decode cX2_chooseCourses 58 = .ok (.iaload, 1) := by decide +kernel
theorem dX2_chooseCourses_59 : decode cX2_chooseCourses 59 = .ok (.iadd, 1) := by decide +kernel
theorem dX2_chooseCourses_60 : decode cX2_chooseCourses 60 = .ok (.istore_n 2, 1) := by decide +kernel
theorem dX2_chooseCourses_61 : decode cX2_chooseCourses 61 = .ok (.iinc 3 1, 3) := by decide +kernel
theorem dX2_chooseCourses_64 : decode cX2_chooseCourses 64 = .ok (.goto (-58), 3) := by decide +kernel
theorem dX2_chooseCourses_67 : decode cX2_chooseCourses 67 = .ok (.return_, 1) := by decide +kernel
theorem dX2_clear_0 : decode cX2_clear 0 = .ok (.iconst 0, 1) := by decide +kernel
theorem dX2_clear_1 : decode cX2_clear 1 = .ok (.istore_n 2, 1) := by decide +kernel
theorem dX2_clear_2 : decode cX2_clear 2 = .ok (.iload_n 2, 1) := by decide +kernel
theorem dX2_clear_3 : decode cX2_clear 3 = .ok (.bipush 49, 2) := by decide +kernel
theorem dX2_clear_5 : decode cX2_clear 5 = .ok (.if_icmp .ge 18, 3) := by decide +kernel
theorem dX2_clear_8 : decode cX2_clear 8 = .ok (.aload_n 0, 1) := by decide +kernel
theorem dX2_clear_9 : decode cX2_clear 9 = .ok (.iload_n 1, 1) := by decide +kernel
theorem dX2_clear_10 : decode cX2_clear 10 = .ok (.bipush 49, 2) := by decide +kernel
theorem dX2_clear_12 : decode cX2_clear 12 = .ok (.imul, 1) := by decide +kernel
theorem dX2_clear_13 : decode cX2_clear 13 = .ok (.iload_n 2, 1) := by decide +kernel
theorem dX2_clear_14 : decode cX2_clear 14 = .ok (.iadd, 1) := by decide +kernel
theorem dX2_clear_15 : decode cX2_clear 15 = .ok (.lconst 0, 1) := by decide +kernel
theorem dX2_clear_16 : decode cX2_clear 16 = .ok (.lastore, 1) := by decide +kernel
theorem dX2_clear_17 : decode cX2_clear 17 = .ok (.iinc 2 1, 3) := by decide +kernel
theorem dX2_clear_20 : decode cX2_clear 20 = .ok (.goto (-18), 3) := by decide +kernel
theorem dX2_clear_23 : decode cX2_clear 23 = .ok (.return_, 1) := by decide +kernel
theorem dX2_countGlasses_0 : decode cX2_countGlasses 0 = .ok (.aload_n 0, 1) := by decide +kernel
theorem dX2_countGlasses_1 : decode cX2_countGlasses 1 = .ok (.getfield 20, 3) := by decide +kernel
theorem dX2_countGlasses_4 : decode cX2_countGlasses 4 = .ok (.iconst 0, 1) := by decide +kernel
theorem dX2_countGlasses_5 : decode cX2_countGlasses 5 = .ok (.iconst 0, 1) := by decide +kernel
theorem dX2_countGlasses_6 : decode cX2_countGlasses 6 = .ok (.iconst 0, 1) := by decide +kernel
theorem dX2_countGlasses_7 : decode cX2_countGlasses 7 = .ok (.invokestatic 71, 3) := by decide +kernel
theorem dX2_countGlasses_10 : decode cX2_countGlasses 10 = .ok (.iconst 0, 1) := by decide +kernel
theorem dX2_countGlasses_11 : decode cX2_countGlasses 11 = .ok (.istore_n 3, 1) := by decide +kernel
theorem dX2_countGlasses_12 : decode cX2_countGlasses 12 = .ok (.iload_n 3, 1) := by decide +kernel
theorem dX2_countGlasses_13 : decode cX2_countGlasses 13 = .ok (.bipush 8, 2) := by decide +kernel
theorem dX2_countGlasses_15 : decode cX2_countGlasses 15 = .ok (.if_icmp .ge 29, 3) := by decide +kernel
theorem dX2_countGlasses_18 : decode cX2_countGlasses 18 = .ok (.aload_n 0, 1) := by decide +kernel
theorem dX2_countGlasses_19 : decode cX2_countGlasses 19 = .ok (.getfield 20, 3) := by decide +kernel
theorem dX2_countGlasses_22 : decode cX2_countGlasses 22 = .ok (.iload_n 3, 1) := by decide +kernel
theorem dX2_countGlasses_23 : decode cX2_countGlasses 23 = .ok (.iload_n 1, 1) := by decide +kernel
theorem dX2_countGlasses_24 : decode cX2_countGlasses 24 = .ok (.iload_n 2, 1) := by decide +kernel
theorem dX2_countGlasses_25 : decode cX2_countGlasses 25 = .ok (.invokestatic 75, 3) := by decide +kernel
theorem dX2_countGlasses_28 : decode cX2_countGlasses 28 = .ok (.ifCond .eq 5, 3) := by decide +kernel
theorem dX2_countGlasses_31 : decode cX2_countGlasses 31 = .ok (.iload_n 3, 1) := by decide +kernel
theorem dX2_countGlasses_32 : decode cX2_countGlasses 32 = .ok (.ireturn, 1) := by decide +kernel
theorem dX2_countGlasses_33 : decode cX2_countGlasses 33 = .ok (.aload_n 0, 1) := by decide +kernel
theorem dX2_countGlasses_34 : decode cX2_countGlasses 34 = .ok (.iload_n 3, 1) := by decide +kernel
theorem dX2_countGlasses_35 : decode cX2_countGlasses 35 = .ok (.invokevirtual 79, 3) := by decide +kernel
theorem dX2_countGlasses_38 : decode cX2_countGlasses 38 = .ok (.iinc 3 1, 3) := by decide +kernel
theorem dX2_countGlasses_41 : decode cX2_countGlasses 41 = .ok (.goto (-29), 3) := by decide +kernel
theorem dX2_countGlasses_44 : decode cX2_countGlasses 44 = .ok (.aload_n 0, 1) := by decide +kernel
theorem dX2_countGlasses_45 : decode cX2_countGlasses 45 = .ok (.getfield 20, 3) := by decide +kernel
theorem dX2_countGlasses_48 : decode cX2_countGlasses 48 = .ok (.bipush 8, 2) := by decide +kernel
theorem dX2_countGlasses_50 : decode cX2_countGlasses 50 = .ok (.iload_n 1, 1) := by decide +kernel
theorem dX2_countGlasses_51 : decode cX2_countGlasses 51 = .ok (.iload_n 2, 1) := by decide +kernel
theorem dX2_countGlasses_52 : decode cX2_countGlasses 52 = .ok (.invokestatic 75, 3) := by decide +kernel
theorem dX2_countGlasses_55 : decode cX2_countGlasses 55 = .ok (.ifCond .eq 8, 3) := by decide +kernel
theorem dX2_countGlasses_58 : decode cX2_countGlasses 58 = .ok (.bipush 8, 2) := by decide +kernel
theorem dX2_countGlasses_60 : decode cX2_countGlasses 60 = .ok (.goto 4, 3) := by decide +kernel
theorem dX2_countGlasses_63 : decode cX2_countGlasses 63 = .ok (.iconst (-1), 1) := by decide +kernel
theorem dX2_countGlasses_64 : decode cX2_countGlasses 64 = .ok (.ireturn, 1) := by decide +kernel
theorem dX2_has_0 : decode cX2_has 0 = .ok (.iload_n 2, 1) := by decide +kernel
theorem dX2_has_1 : decode cX2_has 1 = .ok (.iload_n 3, 1) := by decide +kernel
theorem dX2_has_2 : decode cX2_has 2 = .ok (.invokestatic 51, 3) := by decide +kernel
theorem dX2_has_5 : decode cX2_has 5 = .ok (.ifCond .eq 30, 3) := by decide +kernel
theorem dX2_has_8 : decode cX2_has 8 = .ok (.aload_n 0, 1) := by decide +kernel
theorem dX2_has_9 : decode cX2_has 9 = .ok (.iload_n 1, 1) := by decide +kernel
theorem dX2_has_10 : decode cX2_has 10 = .ok (.bipush 49, 2) := by decide +kernel
theorem dX2_has_12 : decode cX2_has 12 = .ok (.imul, 1) := by decide +kernel
theorem dX2_has_13 : decode cX2_has 13 = .ok (.iload_n 3, 1) := by decide +kernel
theorem dX2_has_14 : decode cX2_has 14 = .ok (.iadd, 1) := by decide +kernel
theorem dX2_has_15 : decode cX2_has 15 = .ok (.bipush 24, 2) := by decide +kernel
theorem dX2_has_17 : decode cX2_has 17 = .ok (.iadd, 1) := by decide +kernel
theorem dX2_has_18 : decode cX2_has 18 = .ok (.laload, 1) := by decide +kernel
theorem dX2_has_19 : decode cX2_has 19 = .ok (.iload_n 2, 1) := by decide +kernel
theorem dX2_has_20 : decode cX2_has 20 = .ok (.bipush 24, 2) := by decide +kernel
theorem dX2_has_22 : decode cX2_has 22 = .ok (.iadd, 1) := by decide +kernel
theorem dX2_has_23 : decode cX2_has 23 = .ok (.lushr, 1) := by decide +kernel
theorem dX2_has_24 : decode cX2_has 24 = .ok (.lconst 1, 1) := by decide +kernel
theorem dX2_has_25 : decode cX2_has 25 = .ok (.land, 1) := by decide +kernel
theorem dX2_has_26 : decode cX2_has 26 = .ok (.lconst 0, 1) := by decide +kernel
theorem dX2_has_27 : decode cX2_has 27 = .ok (.lcmp, 1) := by decide +kernel
theorem dX2_has_28 : decode cX2_has 28 = .ok (.ifCond .eq 7, 3) := by decide +kernel
theorem dX2_has_31 : decode cX2_has 31 = .ok (.iconst 1, 1) := by decide +kernel
theorem dX2_has_32 : decode cX2_has 32 = .ok (.goto 4, 3) := by decide +kernel
theorem dX2_has_35 : decode cX2_has 35 = .ok (.iconst 0, 1) := by decide +kernel
theorem dX2_has_36 : decode cX2_has 36 = .ok (.ireturn, 1) := by decide +kernel
theorem dX2_init_0 : decode cX2_init 0 = .ok (.aload_n 0, 1) := by decide +kernel
theorem dX2_init_1 : decode cX2_init 1 = .ok (.invokespecial 5, 3) := by decide +kernel
theorem dX2_init_4 : decode cX2_init 4 = .ok (.aload_n 0, 1) := by decide +kernel
theorem dX2_init_5 : decode cX2_init 5 = .ok (.sipush 256, 3) := by decide +kernel
theorem dX2_init_8 : decode cX2_init 8 = .ok (.newarray .int, 2) := by decide +kernel
theorem dX2_init_10 : decode cX2_init 10 = .ok (.putfield 13, 3) := by decide +kernel
theorem dX2_init_13 : decode cX2_init 13 = .ok (.aload_n 0, 1) := by decide +kernel
theorem dX2_init_14 : decode cX2_init 14 = .ok (.sipush 256, 3) := by decide +kernel
theorem dX2_init_17 : decode cX2_init 17 = .ok (.newarray .int, 2) := by decide +kernel
theorem dX2_init_19 : decode cX2_init 19 = .ok (.putfield 17, 3) := by decide +kernel
theorem dX2_init_22 : decode cX2_init 22 = .ok (.aload_n 0, 1) := by decide +kernel
theorem dX2_init_23 : decode cX2_init 23 = .ok (.sipush 441, 3) := by decide +kernel
theorem dX2_init_26 : decode cX2_init 26 = .ok (.newarray .long, 2) := by decide +kernel
theorem dX2_init_28 : decode cX2_init 28 = .ok (.putfield 20, 3) := by decide +kernel
theorem dX2_init_31 : decode cX2_init 31 = .ok (.aload_n 0, 1) := by decide +kernel
theorem dX2_init_32 : decode cX2_init 32 = .ok (.sipush 441, 3) := by decide +kernel
theorem dX2_init_35 : decode cX2_init 35 = .ok (.newarray .long, 2) := by decide +kernel
theorem dX2_init_37 : decode cX2_init 37 = .ok (.putfield 24, 3) := by decide +kernel
theorem dX2_init_40 : decode cX2_init 40 = .ok (.aload_n 0, 1) := by decide +kernel
theorem dX2_init_41 : decode cX2_init 41 = .ok (.bipush 8, 2) := by decide +kernel
theorem dX2_init_43 : decode cX2_init 43 = .ok (.newarray .int, 2) := by decide +kernel
theorem dX2_init_45 : decode cX2_init 45 = .ok (.putfield 27, 3) := by decide +kernel
theorem dX2_init_48 : decode cX2_init 48 = .ok (.return_, 1) := by decide +kernel
theorem dX2_isPlace_0 : decode cX2_isPlace 0 = .ok (.iload_n 0, 1) := by decide +kernel
theorem dX2_isPlace_1 : decode cX2_isPlace 1 = .ok (.bipush (-24), 2) := by decide +kernel
theorem dX2_isPlace_3 : decode cX2_isPlace 3 = .ok (.if_icmp .lt 25, 3) := by decide +kernel
theorem dX2_isPlace_6 : decode cX2_isPlace 6 = .ok (.iload_n 0, 1) := by decide +kernel
theorem dX2_isPlace_7 : decode cX2_isPlace 7 = .ok (.bipush 24, 2) := by decide +kernel
theorem dX2_isPlace_9 : decode cX2_isPlace 9 = .ok (.if_icmp .gt 19, 3) := by decide +kernel
theorem dX2_isPlace_12 : decode cX2_isPlace 12 = .ok (.iload_n 1, 1) := by decide +kernel
theorem dX2_isPlace_13 : decode cX2_isPlace 13 = .ok (.bipush (-24), 2) := by decide +kernel
theorem dX2_isPlace_15 : decode cX2_isPlace 15 = .ok (.if_icmp .lt 13, 3) := by decide +kernel
theorem dX2_isPlace_18 : decode cX2_isPlace 18 = .ok (.iload_n 1, 1) := by decide +kernel
theorem dX2_isPlace_19 : decode cX2_isPlace 19 = .ok (.bipush 24, 2) := by decide +kernel
theorem dX2_isPlace_21 : decode cX2_isPlace 21 = .ok (.if_icmp .gt 7, 3) := by decide +kernel
theorem dX2_isPlace_24 : decode cX2_isPlace 24 = .ok (.iconst 1, 1) := by decide +kernel
theorem dX2_isPlace_25 : decode cX2_isPlace 25 = .ok (.goto 4, 3) := by decide +kernel
theorem dX2_isPlace_28 : decode cX2_isPlace 28 = .ok (.iconst 0, 1) := by decide +kernel
theorem dX2_isPlace_29 : decode cX2_isPlace 29 = .ok (.ireturn, 1) := by decide +kernel
theorem dX2_leastLeading_0 : decode cX2_leastLeading 0 = .ok (.iconst 0, 1) := by decide +kernel
theorem dX2_leastLeading_1 : decode cX2_leastLeading 1 = .ok (.istore 4, 2) := by decide +kernel
theorem dX2_leastLeading_3 : decode cX2_leastLeading 3 = .ok (.iload 4, 2) := by decide +kernel
theorem dX2_leastLeading_5 : decode cX2_leastLeading 5 = .ok (.bipush 32, 2) := by decide +kernel
theorem dX2_leastLeading_7 : decode cX2_leastLeading 7 = .ok (.if_icmp .ge 52, 3) := by decide +kernel
theorem dX2_leastLeading_10 : decode cX2_leastLeading 10 = .ok (.iload_n 1, 1) := by decide +kernel
theorem dX2_leastLeading_11 : decode cX2_leastLeading 11 = .ok (.bipush 32, 2) := by decide +kernel
theorem dX2_leastLeading_13 : decode cX2_leastLeading 13 = .ok (.imul, 1) := by decide +kernel
theorem dX2_leastLeading_14 : decode cX2_leastLeading 14 = .ok (.iload 4, 2) := by decide +kernel
theorem dX2_leastLeading_16 : decode cX2_leastLeading 16 = .ok (.iadd, 1) := by decide +kernel
theorem dX2_leastLeading_17 : decode cX2_leastLeading 17 = .ok (.istore 5, 2) := by decide +kernel
theorem dX2_leastLeading_19 : decode cX2_leastLeading 19 = .ok (.aload_n 0, 1) := by decide +kernel
theorem dX2_leastLeading_20 : decode cX2_leastLeading 20 = .ok (.getfield 24, 3) := by decide +kernel
theorem dX2_leastLeading_23 : decode cX2_leastLeading 23 = .ok (.iload_n 1, 1) := by decide +kernel
theorem dX2_leastLeading_24 : decode cX2_leastLeading 24 = .ok (.iconst 1, 1) := by decide +kernel
theorem dX2_leastLeading_25 : decode cX2_leastLeading 25 = .ok (.iadd, 1) := by decide +kernel
theorem dX2_leastLeading_26 : decode cX2_leastLeading 26 = .ok (.iload_n 2, 1) := by decide +kernel
theorem dX2_leastLeading_27 : decode cX2_leastLeading 27 = .ok (.aload_n 0, 1) := by decide +kernel
theorem dX2_leastLeading_28 : decode cX2_leastLeading 28 = .ok (.getfield 13, 3) := by decide +kernel
theorem dX2_leastLeading_31 : decode cX2_leastLeading 31 = .ok (.iload 5, 2) := by decide +kernel
theorem dX2_leastLeading_33 : decode cX2_leastLeading 33 = .ok (.iaload, 1) := by decide +kernel
theorem dX2_leastLeading_34 : decode cX2_leastLeading 34 = .ok (.iadd, 1) := by decide +kernel
theorem dX2_leastLeading_35 : decode cX2_leastLeading 35 = .ok (.iload_n 3, 1) := by decide +kernel
theorem dX2_leastLeading_36 : decode cX2_leastLeading 36 = .ok (.aload_n 0, 1) := by decide +kernel
theorem dX2_leastLeading_37 : decode cX2_leastLeading 37 = .ok (.getfield 17, 3) := by decide +kernel
theorem dX2_leastLeading_40 : decode cX2_leastLeading 40 = .ok (.iload 5, 2) := by decide +kernel
theorem dX2_leastLeading_42 : decode cX2_leastLeading 42 = .ok (.iaload, 1) := by decide +kernel
theorem dX2_leastLeading_43 : decode cX2_leastLeading 43 = .ok (.iadd, 1) := by decide +kernel
theorem dX2_leastLeading_44 : decode cX2_leastLeading 44 = .ok (.invokestatic 75, 3) := by decide +kernel
theorem dX2_leastLeading_47 : decode cX2_leastLeading 47 = .ok (.ifCond .eq 6, 3) := by decide +kernel
theorem dX2_leastLeading_50 : decode cX2_leastLeading 50 = .ok (.iload 4, 2) := by decide +kernel
theorem dX2_leastLeading_52 : decode cX2_leastLeading 52 = .ok (.ireturn, 1) := by decide +kernel
theorem dX2_leastLeading_53 : decode cX2_leastLeading 53 = .ok (.iinc 4 1, 3) := by decide +kernel
theorem dX2_leastLeading_56 : decode cX2_leastLeading 56 = .ok (.goto (-53), 3) := by decide +kernel
theorem dX2_leastLeading_59 : decode cX2_leastLeading 59 = .ok (.iconst 0, 1) := by decide +kernel
theorem dX2_leastLeading_60 : decode cX2_leastLeading 60 = .ok (.ireturn, 1) := by decide +kernel
theorem dX2_make_0 : decode cX2_make 0 = .ok (.iload_n 1, 1) := by decide +kernel
theorem dX2_make_1 : decode cX2_make 1 = .ok (.iload_n 2, 1) := by decide +kernel
theorem dX2_make_2 : decode cX2_make 2 = .ok (.invokestatic 51, 3) := by decide +kernel
theorem dX2_make_5 : decode cX2_make 5 = .ok (.ifCond .ne 5, 3) := by decide +kernel
theorem dX2_make_8 : decode cX2_make 8 = .ok (.iconst (-1), 1) := by decide +kernel
theorem dX2_make_9 : decode cX2_make 9 = .ok (.ireturn, 1) := by decide +kernel
theorem dX2_make_10 : decode cX2_make 10 = .ok (.aload_n 0, 1) := by decide +kernel
theorem dX2_make_11 : decode cX2_make 11 = .ok (.iload_n 1, 1) := by decide +kernel
theorem dX2_make_12 : decode cX2_make 12 = .ok (.iload_n 2, 1) := by decide +kernel
theorem dX2_make_13 : decode cX2_make 13 = .ok (.invokevirtual 54, 3) := by decide +kernel
theorem dX2_make_16 : decode cX2_make 16 = .ok (.istore_n 3, 1) := by decide +kernel
theorem dX2_make_17 : decode cX2_make 17 = .ok (.aload_n 0, 1) := by decide +kernel
theorem dX2_make_18 : decode cX2_make 18 = .ok (.iconst 0, 1) := by decide +kernel
theorem dX2_make_19 : decode cX2_make 19 = .ok (.iload_n 3, 1) := by decide +kernel
theorem dX2_make_20 : decode cX2_make 20 = .ok (.invokestatic 57, 3) := by decide +kernel
theorem dX2_make_23 : decode cX2_make 23 = .ok (.putfield 60, 3) := by decide +kernel
theorem dX2_make_26 : decode cX2_make 26 = .ok (.aload_n 0, 1) := by decide +kernel
theorem dX2_make_27 : decode cX2_make 27 = .ok (.getfield 60, 3) := by decide +kernel
theorem dX2_make_30 : decode cX2_make 30 = .ok (.ifCond .le 13, 3) := by decide +kernel
theorem dX2_make_33 : decode cX2_make 33 = .ok (.aload_n 0, 1) := by decide +kernel
theorem dX2_make_34 : decode cX2_make 34 = .ok (.iload_n 1, 1) := by decide +kernel
theorem dX2_make_35 : decode cX2_make 35 = .ok (.iload_n 2, 1) := by decide +kernel
theorem dX2_make_36 : decode cX2_make 36 = .ok (.invokevirtual 64, 3) := by decide +kernel
theorem dX2_make_39 : decode cX2_make 39 = .ok (.aload_n 0, 1) := by decide +kernel
theorem dX2_make_40 : decode cX2_make 40 = .ok (.invokevirtual 68, 3) := by decide +kernel
theorem dX2_make_43 : decode cX2_make 43 = .ok (.iload_n 3, 1) := by decide +kernel
theorem dX2_make_44 : decode cX2_make 44 = .ok (.ireturn, 1) := by decide +kernel
theorem dX2_move_0 : decode cX2_move 0 = .ok (.bipush 49, 2) := by decide +kernel
theorem dX2_move_2 : decode cX2_move 2 = .ok (.bipush 49, 2) := by decide +kernel
theorem dX2_move_4 : decode cX2_move 4 = .ok (.iload 4, 2) := by decide +kernel
theorem dX2_move_6 : decode cX2_move 6 = .ok (.isub, 1) := by decide +kernel
theorem dX2_move_7 : decode cX2_move 7 = .ok (.invokestatic 42, 3) := by decide +kernel
theorem dX2_move_10 : decode cX2_move 10 = .ok (.istore 5, 2) := by decide +kernel
theorem dX2_move_12 : decode cX2_move 12 = .ok (.iconst 0, 1) := by decide +kernel
theorem dX2_move_13 : decode cX2_move 13 = .ok (.iload 4, 2) := by decide +kernel
theorem dX2_move_15 : decode cX2_move 15 = .ok (.ineg, 1) := by decide +kernel
theorem dX2_move_16 : decode cX2_move 16 = .ok (.invokestatic 57, 3) := by decide +kernel
theorem dX2_move_19 : decode cX2_move 19 = .ok (.istore 6, 2) := by decide +kernel
theorem dX2_move_21 : decode cX2_move 21 = .ok (.iload 6, 2) := by decide +kernel
theorem dX2_move_23 : decode cX2_move 23 = .ok (.iload 5, 2) := by decide +kernel
theorem dX2_move_25 : decode cX2_move 25 = .ok (.if_icmp .ge 59, 3) := by decide +kernel
theorem dX2_move_28 : decode cX2_move 28 = .ok (.aload_n 0, 1) := by decide +kernel
theorem dX2_move_29 : decode cX2_move 29 = .ok (.iload_n 1, 1) := by decide +kernel
theorem dX2_move_30 : decode cX2_move 30 = .ok (.bipush 49, 2) := by decide +kernel
theorem dX2_move_32 : decode cX2_move 32 = .ok (.imul, 1) := by decide +kernel
theorem dX2_move_33 : decode cX2_move 33 = .ok (.iload 6, 2) := by decide +kernel
theorem dX2_move_35 : decode cX2_move 35 = .ok (.iadd, 1) := by decide +kernel
theorem dX2_move_36 : decode cX2_move 36 = .ok (.laload, 1) := by decide +kernel
theorem dX2_move_37 : decode cX2_move 37 = .ok (.lstore 7, 2) := by decide +kernel
theorem dX2_move_39 : decode cX2_move 39 = .ok (.iload_n 3, 1) := by decide +kernel
theorem dX2_move_40 : decode cX2_move 40 = .ok (.ifCond .ge 11, 3) := by decide +kernel
theorem dX2_move_43 : decode cX2_move 43 = .ok (.lload 7, 2) := by decide +kernel
theorem dX2_move_45 : decode cX2_move 45 = .ok (.iload_n 3, 1) := by decide +kernel
theorem dX2_move_46 : decode cX2_move 46 = .ok (.ineg, 1) := by decide +kernel
theorem dX2_move_47 : decode cX2_move 47 = .ok (.lushr, 1) := by decide +kernel
theorem dX2_move_48 : decode cX2_move 48 = .ok (.goto 7, 3) := by decide +kernel
theorem dX2_move_51 : decode cX2_move 51 = .ok (.lload 7, 2) := by decide +kernel
theorem dX2_move_53 : decode cX2_move 53 = .ok (.iload_n 3, 1) := by decide +kernel
theorem dX2_move_54 : decode cX2_move 54 = .ok (.lshl, 1) := by decide +kernel
theorem dX2_move_55 : decode cX2_move 55 = .ok (.lstore 9, 2) := by decide +kernel
theorem dX2_move_57 : decode cX2_move 57 = .ok (.aload_n 0, 1) := by decide +kernel
theorem dX2_move_58 : decode cX2_move 58 = .ok (.iload_n 2, 1) := by decide +kernel
theorem dX2_move_59 : decode cX2_move 59 = .ok (.bipush 49, 2) := by decide +kernel
theorem dX2_move_61 : decode cX2_move 61 = .ok (.imul, 1) := by decide +kernel
theorem dX2_move_62 : decode cX2_move 62 = .ok (.iload 6, 2) := by decide +kernel
theorem dX2_move_64 : decode cX2_move 64 = .ok (.iadd, 1) := by decide +kernel
theorem dX2_move_65 : decode cX2_move 65 = .ok (.iload 4, 2) := by decide +kernel
theorem dX2_move_67 : decode cX2_move 67 = .ok (.iadd, 1) := by decide +kernel
theorem dX2_move_68 : decode cX2_move 68 = .ok (.dup2, 1) := by decide +kernel
theorem dX2_move_69 : decode cX2_move 69 = .ok (.laload, 1) := by decide +kernel
theorem dX2_move_70 : decode cX2_move 70 = .ok (.lload 9, 2) := by decide +kernel
theorem dX2_move_72 : decode cX2_move 72 = .ok (.ldc2_w 95, 3) := by decide +kernel
theorem dX2_move_75 : decode cX2_move 75 = .ok (.land, 1) := by decide +kernel
theorem dX2_move_76 : decode cX2_move 76 = .ok (.lor, 1) := by decide +kernel
theorem dX2_move_77 : decode cX2_move 77 = .ok (.lastore, 1) := by decide +kernel
theorem dX2_move_78 : decode cX2_move 78 = .ok (.iinc 6 1, 3) := by decide +kernel
theorem dX2_move_81 : decode cX2_move 81 = .ok (.goto (-60), 3) := by decide +kernel
theorem dX2_move_84 : decode cX2_move 84 = .ok (.return_, 1) := by decide +kernel
theorem dX2_putOnly_0 : decode cX2_putOnly 0 = .ok (.aload_n 0, 1) := by decide +kernel
theorem dX2_putOnly_1 : decode cX2_putOnly 1 = .ok (.iload_n 1, 1) := by decide +kernel
theorem dX2_putOnly_2 : decode cX2_putOnly 2 = .ok (.invokestatic 83, 3) := by decide +kernel
theorem dX2_putOnly_5 : decode cX2_putOnly 5 = .ok (.aload_n 0, 1) := by decide +kernel
theorem dX2_putOnly_6 : decode cX2_putOnly 6 = .ok (.iload_n 1, 1) := by decide +kernel
theorem dX2_putOnly_7 : decode cX2_putOnly 7 = .ok (.bipush 49, 2) := by decide +kernel
theorem dX2_putOnly_9 : decode cX2_putOnly 9 = .ok (.imul, 1) := by decide +kernel
theorem dX2_putOnly_10 : decode cX2_putOnly 10 = .ok (.iload_n 3, 1) := by decide +kernel
theorem dX2_putOnly_11 : decode cX2_putOnly 11 = .ok (.iadd, 1) := by decide +kernel
theorem dX2_putOnly_12 : decode cX2_putOnly 12 = .ok (.bipush 24, 2) := by decide +kernel
theorem dX2_putOnly_14 : decode cX2_putOnly 14 = .ok (.iadd, 1) := by decide +kernel
theorem dX2_putOnly_15 : decode cX2_putOnly 15 = .ok (.lconst 1, 1) := by decide +kernel
theorem dX2_putOnly_16 : decode cX2_putOnly 16 = .ok (.iload_n 2, 1) := by decide +kernel
theorem dX2_putOnly_17 : decode cX2_putOnly 17 = .ok (.bipush 24, 2) := by decide +kernel
theorem dX2_putOnly_19 : decode cX2_putOnly 19 = .ok (.iadd, 1) := by decide +kernel
theorem dX2_putOnly_20 : decode cX2_putOnly 20 = .ok (.lshl, 1) := by decide +kernel
theorem dX2_putOnly_21 : decode cX2_putOnly 21 = .ok (.lastore, 1) := by decide +kernel
theorem dX2_putOnly_22 : decode cX2_putOnly 22 = .ok (.return_, 1) := by decide +kernel
theorem dX2_spread_0 : decode cX2_spread 0 = .ok (.aload_n 0, 1) := by decide +kernel
theorem dX2_spread_1 : decode cX2_spread 1 = .ok (.getfield 20, 3) := by decide +kernel
theorem dX2_spread_4 : decode cX2_spread 4 = .ok (.iload_n 1, 1) := by decide +kernel
theorem dX2_spread_5 : decode cX2_spread 5 = .ok (.iconst 1, 1) := by decide +kernel
theorem dX2_spread_6 : decode cX2_spread 6 = .ok (.iadd, 1) := by decide +kernel
theorem dX2_spread_7 : decode cX2_spread 7 = .ok (.invokestatic 83, 3) := by decide +kernel
theorem dX2_spread_10 : decode cX2_spread 10 = .ok (.iconst 0, 1) := by decide +kernel
theorem dX2_spread_11 : decode cX2_spread 11 = .ok (.istore_n 2, 1) := by decide +kernel
theorem dX2_spread_12 : decode cX2_spread 12 = .ok (.iload_n 2, 1) := by decide +kernel
theorem dX2_spread_13 : decode cX2_spread 13 = .ok (.bipush 32, 2) := by decide +kernel
theorem dX2_spread_15 : decode cX2_spread 15 = .ok (.if_icmp .ge 39, 3) := by decide +kernel
theorem dX2_spread_18 : decode cX2_spread 18 = .ok (.iload_n 1, 1) := by decide +kernel
theorem dX2_spread_19 : decode cX2_spread 19 = .ok (.bipush 32, 2) := by decide +kernel
theorem dX2_spread_21 : decode cX2_spread 21 = .ok (.imul, 1) := by decide +kernel
theorem dX2_spread_22 : decode cX2_spread 22 = .ok (.iload_n 2, 1) := by decide +kernel
theorem dX2_spread_23 : decode cX2_spread 23 = .ok (.iadd, 1) := by decide +kernel
theorem dX2_spread_24 : decode cX2_spread 24 = .ok (.istore_n 3, 1) := by decide +kernel
theorem dX2_spread_25 : decode cX2_spread 25 = .ok (.aload_n 0, 1) := by decide +kernel
theorem dX2_spread_26 : decode cX2_spread 26 = .ok (.getfield 20, 3) := by decide +kernel
theorem dX2_spread_29 : decode cX2_spread 29 = .ok (.iload_n 1, 1) := by decide +kernel
theorem dX2_spread_30 : decode cX2_spread 30 = .ok (.iload_n 1, 1) := by decide +kernel
theorem dX2_spread_31 : decode cX2_spread 31 = .ok (.iconst 1, 1) := by decide +kernel
theorem dX2_spread_32 : decode cX2_spread 32 = .ok (.iadd, 1) := by decide +kernel
theorem dX2_spread_33 : decode cX2_spread 33 = .ok (.aload_n 0, 1) := by decide +kernel
theorem dX2_spread_34 : decode cX2_spread 34 = .ok (.getfield 13, 3) := by decide +kernel
theorem dX2_spread_37 : decode cX2_spread 37 = .ok (.iload_n 3, 1) := by decide +kernel
theorem dX2_spread_38 : decode cX2_spread 38 = .ok (.iaload, 1) := by decide +kernel
theorem dX2_spread_39 : decode cX2_spread 39 = .ok (.aload_n 0, 1) := by decide +kernel
theorem dX2_spread_40 : decode cX2_spread 40 = .ok (.getfield 17, 3) := by decide +kernel
theorem dX2_spread_43 : decode cX2_spread 43 = .ok (.iload_n 3, 1) := by decide +kernel
theorem dX2_spread_44 : decode cX2_spread 44 = .ok (.iaload, 1) := by decide +kernel
theorem dX2_spread_45 : decode cX2_spread 45 = .ok (.invokestatic 87, 3) := by decide +kernel
theorem dX2_spread_48 : decode cX2_spread 48 = .ok (.iinc 2 1, 3) := by decide +kernel
theorem dX2_spread_51 : decode cX2_spread 51 = .ok (.goto (-39), 3) := by decide +kernel
theorem dX2_spread_54 : decode cX2_spread 54 = .ok (.return_, 1) := by decide +kernel
theorem dX2_tell_0 : decode cX2_tell 0 = .ok (.iload_n 1, 1) := by decide +kernel
theorem dX2_tell_1 : decode cX2_tell 1 = .ok (.ifCond .lt 17, 3) := by decide +kernel
theorem dX2_tell_4 : decode cX2_tell 4 = .ok (.iload_n 1, 1) := by decide +kernel
theorem dX2_tell_5 : decode cX2_tell 5 = .ok (.bipush 8, 2) := by decide +kernel
theorem dX2_tell_7 : decode cX2_tell 7 = .ok (.if_icmp .ge 11, 3) := by decide +kernel
theorem dX2_tell_10 : decode cX2_tell 10 = .ok (.iload_n 2, 1) := by decide +kernel
theorem dX2_tell_11 : decode cX2_tell 11 = .ok (.iload_n 3, 1) := by decide +kernel
theorem dX2_tell_12 : decode cX2_tell 12 = .ok (.invokestatic 30, 3) := by decide +kernel
theorem dX2_tell_15 : decode cX2_tell 15 = .ok (.ifCond .ne 5, 3) := by decide +kernel
theorem dX2_tell_18 : decode cX2_tell 18 = .ok (.iconst 0, 1) := by decide +kernel
theorem dX2_tell_19 : decode cX2_tell 19 = .ok (.ireturn, 1) := by decide +kernel
theorem dX2_tell_20 : decode cX2_tell 20 = .ok (.iconst 0, 1) := by decide +kernel
theorem dX2_tell_21 : decode cX2_tell 21 = .ok (.istore 4, 2) := by decide +kernel
theorem dX2_tell_23 : decode cX2_tell 23 = .ok (.iload 4, 2) := by decide +kernel
theorem dX2_tell_25 : decode cX2_tell 25 = .ok (.bipush 32, 2) := by decide +kernel
theorem dX2_tell_27 : decode cX2_tell 27 = .ok (.if_icmp .ge 80, 3) := by decide +kernel
theorem dX2_tell_30 : decode cX2_tell 30 = .ok (.iload_n 2, 1) := by decide +kernel
theorem dX2_tell_31 : decode cX2_tell 31 = .ok (.iload 4, 2) := by decide +kernel
theorem dX2_tell_33 : decode cX2_tell 33 = .ok (.invokestatic 34, 3) := by decide +kernel
theorem dX2_tell_36 : decode cX2_tell 36 = .ok (.invokestatic 38, 3) := by decide +kernel
theorem dX2_tell_39 : decode cX2_tell 39 = .ok (.istore 5, 2) := by decide +kernel
theorem dX2_tell_41 : decode cX2_tell 41 = .ok (.bipush 12, 2) := by decide +kernel
theorem dX2_tell_43 : decode cX2_tell 43 = .ok (.iload_n 3, 1) := by decide +kernel
theorem dX2_tell_44 : decode cX2_tell 44 = .ok (.iload 5, 2) := by decide +kernel
theorem dX2_tell_46 : decode cX2_tell 46 = .ok (.imul, 1) := by decide +kernel
theorem dX2_tell_47 : decode cX2_tell 47 = .ok (.bipush 8, 2) := by decide +kernel
theorem dX2_tell_49 : decode cX2_tell 49 = .ok (.idiv, 1) := by decide +kernel
theorem dX2_tell_50 : decode cX2_tell 50 = .ok (.invokestatic 42, 3) := by decide +kernel
theorem dX2_tell_53 : decode cX2_tell 53 = .ok (.istore 6, 2) := by decide +kernel
theorem dX2_tell_55 : decode cX2_tell 55 = .ok (.aload_n 0, 1) := by decide +kernel
theorem dX2_tell_56 : decode cX2_tell 56 = .ok (.getfield 13, 3) := by decide +kernel
theorem dX2_tell_59 : decode cX2_tell 59 = .ok (.iload_n 1, 1) := by decide +kernel
theorem dX2_tell_60 : decode cX2_tell 60 = .ok (.bipush 32, 2) := by decide +kernel
theorem dX2_tell_62 : decode cX2_tell 62 = .ok (.imul, 1) := by decide +kernel
theorem dX2_tell_63 : decode cX2_tell 63 = .ok (.iload 4, 2) := by decide +kernel
theorem dX2_tell_65 : decode cX2_tell 65 = .ok (.iadd, 1) := by decide +kernel
theorem dX2_tell_66 : decode cX2_tell 66 = .ok (.iload 6, 2) := by decide +kernel
theorem dX2_tell_68 : decode cX2_tell 68 = .ok (.iload 4, 2) := by decide +kernel
theorem dX2_tell_70 : decode cX2_tell 70 = .ok (.invokestatic 47, 3) := by decide +kernel
theorem dX2_tell_73 : decode cX2_tell 73 = .ok (.imul, 1) := by decide +kernel
theorem dX2_tell_74 : decode cX2_tell 74 = .ok (.bipush 16, 2) := by decide +kernel
theorem dX2_tell_76 : decode cX2_tell 76 = .ok (.idiv, 1) := by decide +kernel
theorem dX2_tell_77 : decode cX2_tell 77 = .ok (.iastore, 1) := by decide +kernel
theorem dX2_tell_78 : decode cX2_tell 78 = .ok (.aload_n 0, 1) := by decide +kernel
theorem dX2_tell_79 : decode cX2_tell 79 = .ok (.getfield 17, 3) := by decide +kernel
theorem dX2_tell_82 : decode cX2_tell 82 = .ok (.iload_n 1, 1) := by decide +kernel
theorem dX2_tell_83 : decode cX2_tell 83 = .ok (.bipush 32, 2) := by decide +kernel
theorem dX2_tell_85 : decode cX2_tell 85 = .ok (.imul, 1) := by decide +kernel
theorem dX2_tell_86 : decode cX2_tell 86 = .ok (.iload 4, 2) := by decide +kernel
theorem dX2_tell_88 : decode cX2_tell 88 = .ok (.iadd, 1) := by decide +kernel
theorem dX2_tell_89 : decode cX2_tell 89 = .ok (.iload 6, 2) := by decide +kernel
theorem dX2_tell_91 : decode cX2_tell 91 = .ok (.iload 4, 2) := by decide +kernel
theorem dX2_tell_93 : decode cX2_tell 93 = .ok (.invokestatic 49, 3) := by decide +kernel
theorem dX2_tell_96 : decode cX2_tell 96 = .ok (.imul, 1) := by decide +kernel
theorem dX2_tell_97 : decode cX2_tell 97 = .ok (.bipush 16, 2) := by decide +kernel
theorem dX2_tell_99 : decode cX2_tell 99 = .ok (.idiv, 1) := by decide +kernel
theorem dX2_tell_100 : decode cX2_tell 100 = .ok (.iastore, 1) := by decide +kernel
theorem dX2_tell_101 : decode cX2_tell 101 = .ok (.iinc 4 1, 3) := by decide +kernel
theorem dX2_tell_104 : decode cX2_tell 104 = .ok (.goto (-81), 3) := by decide +kernel
theorem dX2_tell_107 : decode cX2_tell 107 = .ok (.iconst 1, 1) := by decide +kernel
theorem dX2_tell_108 : decode cX2_tell 108 = .ok (.ireturn, 1) := by decide +kernel
theorem dX2_traceBack_0 : decode cX2_traceBack 0 = .ok (.aload_n 0, 1) := by decide +kernel
theorem dX2_traceBack_1 : decode cX2_traceBack 1 = .ok (.getfield 24, 3) := by decide +kernel
theorem dX2_traceBack_4 : decode cX2_traceBack 4 = .ok (.aload_n 0, 1) := by decide +kernel
theorem dX2_traceBack_5 : decode cX2_traceBack 5 = .ok (.getfield 60, 3) := by decide +kernel
theorem dX2_traceBack_8 : decode cX2_traceBack 8 = .ok (.iload_n 1, 1) := by decide +kernel
theorem dX2_traceBack_9 : decode cX2_traceBack 9 = .ok (.iload_n 2, 1) := by decide +kernel
theorem dX2_traceBack_10 : decode cX2_traceBack 10 = .ok (.invokestatic 71, 3) := by decide +kernel
theorem dX2_traceBack_13 : decode cX2_traceBack 13 = .ok (.aload_n 0, 1) := by decide +kernel
theorem dX2_traceBack_14 : decode cX2_traceBack 14 = .ok (.getfield 60, 3) := by decide +kernel
theorem dX2_traceBack_17 : decode cX2_traceBack 17 = .ok (.iconst 1, 1) := by decide +kernel
theorem dX2_traceBack_18 : decode cX2_traceBack 18 = .ok (.isub, 1) := by decide +kernel
theorem dX2_traceBack_19 : decode cX2_traceBack 19 = .ok (.istore_n 3, 1) := by decide +kernel
theorem dX2_traceBack_20 : decode cX2_traceBack 20 = .ok (.iload_n 3, 1) := by decide +kernel
theorem dX2_traceBack_21 : decode cX2_traceBack 21 = .ok (.ifCond .le 69, 3) := by decide +kernel
theorem dX2_traceBack_24 : decode cX2_traceBack 24 = .ok (.aload_n 0, 1) := by decide +kernel
theorem dX2_traceBack_25 : decode cX2_traceBack 25 = .ok (.getfield 24, 3) := by decide +kernel
theorem dX2_traceBack_28 : decode cX2_traceBack 28 = .ok (.iload_n 3, 1) := by decide +kernel
theorem dX2_traceBack_29 : decode cX2_traceBack 29 = .ok (.invokestatic 83, 3) := by decide +kernel
theorem dX2_traceBack_32 : decode cX2_traceBack 32 = .ok (.iconst 0, 1) := by decide +kernel
theorem dX2_traceBack_33 : decode cX2_traceBack 33 = .ok (.istore 4, 2) := by decide +kernel
theorem dX2_traceBack_35 : decode cX2_traceBack 35 = .ok (.iload 4, 2) := by decide +kernel
theorem dX2_traceBack_37 : decode cX2_traceBack 37 = .ok (.bipush 32, 2) := by decide +kernel
theorem dX2_traceBack_39 : decode cX2_traceBack 39 = .ok (.if_icmp .ge 45, 3) := by decide +kernel
theorem dX2_traceBack_42 : decode cX2_traceBack 42 = .ok (.iload_n 3, 1) := by decide +kernel
theorem dX2_traceBack_43 : decode cX2_traceBack 43 = .ok (.bipush 32, 2) := by decide +kernel
theorem dX2_traceBack_45 : decode cX2_traceBack 45 = .ok (.imul, 1) := by decide +kernel
theorem dX2_traceBack_46 : decode cX2_traceBack 46 = .ok (.iload 4, 2) := by decide +kernel
theorem dX2_traceBack_48 : decode cX2_traceBack 48 = .ok (.iadd, 1) := by decide +kernel
theorem dX2_traceBack_49 : decode cX2_traceBack 49 = .ok (.istore 5, 2) := by decide +kernel
theorem dX2_traceBack_51 : decode cX2_traceBack 51 = .ok (.aload_n 0, 1) := by decide +kernel
theorem dX2_traceBack_52 : decode cX2_traceBack 52 = .ok (.getfield 24, 3) := by decide +kernel
theorem dX2_traceBack_55 : decode cX2_traceBack 55 = .ok (.iload_n 3, 1) := by decide +kernel
theorem dX2_traceBack_56 : decode cX2_traceBack 56 = .ok (.iconst 1, 1) := by decide +kernel
theorem dX2_traceBack_57 : decode cX2_traceBack 57 = .ok (.iadd, 1) := by decide +kernel
theorem dX2_traceBack_58 : decode cX2_traceBack 58 = .ok (.iload_n 3, 1) := by decide +kernel
theorem dX2_traceBack_59 : decode cX2_traceBack 59 = .ok (.aload_n 0, 1) := by decide +kernel
theorem dX2_traceBack_60 : decode cX2_traceBack 60 = .ok (.getfield 13, 3) := by decide +kernel
theorem dX2_traceBack_63 : decode cX2_traceBack 63 = .ok (.iload 5, 2) := by decide +kernel
theorem dX2_traceBack_65 : decode cX2_traceBack 65 = .ok (.iaload, 1) := by decide +kernel
theorem dX2_traceBack_66 : decode cX2_traceBack 66 = .ok (.ineg, 1) := by decide +kernel
theorem dX2_traceBack_67 : decode cX2_traceBack 67 = .ok (.aload_n 0, 1) := by decide +kernel
theorem dX2_traceBack_68 : decode cX2_traceBack 68 = .ok (.getfield 17, 3) := by decide +kernel
theorem dX2_traceBack_71 : decode cX2_traceBack 71 = .ok (.iload 5, 2) := by decide +kernel
theorem dX2_traceBack_73 : decode cX2_traceBack 73 = .ok (.iaload, 1) := by decide +kernel
theorem dX2_traceBack_74 : decode cX2_traceBack 74 = .ok (.ineg, 1) := by decide +kernel
theorem dX2_traceBack_75 : decode cX2_traceBack 75 = .ok (.invokestatic 87, 3) := by decide +kernel
theorem dX2_traceBack_78 : decode cX2_traceBack 78 = .ok (.iinc 4 1, 3) := by decide +kernel
theorem dX2_traceBack_81 : decode cX2_traceBack 81 = .ok (.goto (-46), 3) := by decide +kernel
theorem dX2_traceBack_84 : decode cX2_traceBack 84 = .ok (.iinc 3 (-1), 3) := by decide +kernel
theorem dX2_traceBack_87 : decode cX2_traceBack 87 = .ok (.goto (-67), 3) := by decide +kernel
theorem dX2_traceBack_90 : decode cX2_traceBack 90 = .ok (.return_, 1) := by decide +kernel
theorem dX3_checkNumber_0 : decode cX3_checkNumber 0 = .ok (.aload_n 0, 1) := by decide +kernel
theorem dX3_checkNumber_1 : decode cX3_checkNumber 1 = .ok (.getfield 15, 3) := by decide +kernel
theorem dX3_checkNumber_4 : decode cX3_checkNumber 4 = .ok (.getfield 41, 3) := by decide +kernel
theorem dX3_checkNumber_7 : decode cX3_checkNumber 7 = .ok (.iconst 3, 1) := by decide +kernel
theorem dX3_checkNumber_8 : decode cX3_checkNumber 8 = .ok (.if_icmp .eq 9, 3) := by decide +kernel
theorem dX3_checkNumber_11 : decode cX3_checkNumber 11 = .ok (.aload_n 0, 1) := by decide +kernel
theorem dX3_checkNumber_12 : decode cX3_checkNumber 12 = .ok (.iconst 1, 1) := by decide +kernel
theorem dX3_checkNumber_13 : decode cX3_checkNumber 13 = .ok (.invokevirtual 82, 3) := by decide +kernel
theorem dX3_checkNumber_16 : decode cX3_checkNumber 16 = .ok (.ireturn, 1) := by decide +kernel
theorem dX3_checkNumber_17 : decode cX3_checkNumber 17 = .ok (.aload_n 0, 1) := by decide +kernel
theorem dX3_checkNumber_18 : decode cX3_checkNumber 18 = .ok (.getfield 15, 3) := by decide +kernel
theorem dX3_checkNumber_21 : decode cX3_checkNumber 21 = .ok (.getfield 123, 3) := by decide +kernel
theorem dX3_checkNumber_24 : decode cX3_checkNumber 24 = .ok (.iload_n 1, 1) := by decide +kernel
theorem dX3_checkNumber_25 : decode cX3_checkNumber 25 = .ok (.if_icmp .lt 18, 3) := by decide +kernel
theorem dX3_checkNumber_28 : decode cX3_checkNumber 28 = .ok (.aload_n 0, 1) := by decide +kernel
theorem dX3_checkNumber_29 : decode cX3_checkNumber 29 = .ok (.getfield 15, 3) := by decide +kernel
theorem dX3_checkNumber_32 : decode cX3_checkNumber 32 = .ok (.getfield 123, 3) := by decide +kernel
theorem dX3_checkNumber_35 : decode cX3_checkNumber 35 = .ok (.iload_n 2, 1) := by decide +kernel
theorem dX3_checkNumber_36 : decode cX3_checkNumber 36 = .ok (.if_icmp .gt 7, 3) := by decide +kernel
theorem dX3_checkNumber_39 : decode cX3_checkNumber 39 = .ok (.iconst 1, 1) := by decide +kernel
theorem dX3_checkNumber_40 : decode cX3_checkNumber 40 = .ok (.goto 4, 3) := by decide +kernel
theorem dX3_checkNumber_43 : decode cX3_checkNumber 43 = .ok (.iconst 0, 1) := by decide +kernel
theorem dX3_checkNumber_44 : decode cX3_checkNumber 44 = .ok (.istore_n 3, 1) := by decide +kernel
theorem dX3_checkNumber_45 : decode cX3_checkNumber 45 = .ok (.iload_n 3, 1) := by decide +kernel
theorem dX3_checkNumber_46 : decode cX3_checkNumber 46 = .ok (.ifCond .eq 7, 3) := by decide +kernel
theorem dX3_checkNumber_49 : decode cX3_checkNumber 49 = .ok (.iconst 0, 1) := by decide +kernel
theorem dX3_checkNumber_50 : decode cX3_checkNumber 50 = .ok (.goto 8, 3) := by decide +kernel
theorem dX3_checkNumber_53 : decode cX3_checkNumber 53 = .ok (.aload_n 0, 1) := by decide +kernel
theorem dX3_checkNumber_54 : decode cX3_checkNumber 54 = .ok (.iconst 4, 1) := by decide +kernel
theorem dX3_checkNumber_55 : decode cX3_checkNumber 55 = .ok (.invokevirtual 82, 3) := by decide +kernel
theorem dX3_checkNumber_58 : decode cX3_checkNumber 58 = .ok (.ireturn, 1) := by decide +kernel
theorem dX3_faultHere_0 : decode cX3_faultHere 0 = .ok (.iload_n 1, 1) := by decide +kernel
theorem dX3_faultHere_1 : decode cX3_faultHere 1 = .ok (.bipush 16, 2) := by decide +kernel
theorem dX3_faultHere_3 : decode cX3_faultHere 3 = .ok (.aload_n 0, 1) := by decide +kernel
theorem dX3_faultHere_4 : decode cX3_faultHere 4 = .ok (.getfield 15, 3) := by decide +kernel
theorem dX3_faultHere_7 : decode cX3_faultHere 7 = .ok (.getfield 54, 3) := by decide +kernel
theorem dX3_faultHere_10 : decode cX3_faultHere 10 = .ok (.imul, 1) := by decide +kernel
theorem dX3_faultHere_11 : decode cX3_faultHere 11 = .ok (.iadd, 1) := by decide +kernel
theorem dX3_faultHere_12 : decode cX3_faultHere 12 = .ok (.ireturn, 1) := by decide +kernel
theorem dX3_highestOf_0 : decode cX3_highestOf 0 = .ok (.iload_n 0, 1) := by decide +kernel
theorem dX3_highestOf_1 : decode cX3_highestOf 1 = .ok (.tableswitch 49 2 6 #[35, 37, 40, 43, 45], 35) := by decide +kernel
theorem dX3_highestOf_36 : decode cX3_highestOf 36 = .ok (.iconst 2, 1) := by decide +kernel
theorem dX3_highestOf_37 : decode cX3_highestOf 37 = .ok (.ireturn, 1) := by decide +kernel
theorem dX3_highestOf_38 : decode cX3_highestOf 38 = .ok (.bipush 17, 2) := by decide +kernel
theorem dX3_highestOf_40 : decode cX3_highestOf 40 = .ok (.ireturn, 1) := by decide +kernel
theorem dX3_highestOf_41 : decode cX3_highestOf 41 = .ok (.bipush 31, 2) := by decide +kernel
theorem dX3_highestOf_43 : decode cX3_highestOf 43 = .ok (.ireturn, 1) := by decide +kernel
theorem dX3_highestOf_44 : decode cX3_highestOf 44 = .ok (.iconst 2, 1) := by decide +kernel
theorem dX3_highestOf_45 : decode cX3_highestOf 45 = .ok (.ireturn, 1) := by decide +kernel
theorem dX3_highestOf_46 : decode cX3_highestOf 46 = .ok (.sipush 999, 3) := by decide +kernel
theorem dX3_highestOf_49 : decode cX3_highestOf 49 = .ok (.ireturn, 1) := by decide +kernel
theorem dX3_highestOf_50 : decode cX3_highestOf 50 = .ok (.bipush 8, 2) := by decide +kernel
theorem dX3_highestOf_52 : decode cX3_highestOf 52 = .ok (.ireturn, 1) := by decide +kernel
theorem dX3_init_0 : decode cX3_init 0 = .ok (.aload_n 0, 1) := by decide +kernel
theorem dX3_init_1 : decode cX3_init 1 = .ok (.invokespecial 3, 3) := by decide +kernel
theorem dX3_init_4 : decode cX3_init 4 = .ok (.aload_n 0, 1) := by decide +kernel
theorem dX3_init_5 : decode cX3_init 5 = .ok (.bipush 8, 2) := by decide +kernel
theorem dX3_init_7 : decode cX3_init 7 = .ok (.newarray .int, 2) := by decide +kernel
theorem dX3_init_9 : decode cX3_init 9 = .ok (.putfield 11, 3) := by decide +kernel
theorem dX3_init_12 : decode cX3_init 12 = .ok (.aload_n 0, 1) := by decide +kernel
theorem dX3_init_13 : decode cX3_init 13 = .ok (.aload_n 1, 1) := by decide +kernel
theorem dX3_init_14 : decode cX3_init 14 = .ok (.putfield 15, 3) := by decide +kernel
theorem dX3_init_17 : decode cX3_init 17 = .ok (.return_, 1) := by decide +kernel
theorem dX3_isOver_0 : decode cX3_isOver 0 = .ok (.aload_n 0, 1) := by decide +kernel
theorem dX3_isOver_1 : decode cX3_isOver 1 = .ok (.getfield 15, 3) := by decide +kernel
theorem dX3_isOver_4 : decode cX3_isOver 4 = .ok (.getfield 41, 3) := by decide +kernel
theorem dX3_isOver_7 : decode cX3_isOver 7 = .ok (.ifCond .ne 14, 3) := by decide +kernel
theorem dX3_isOver_10 : decode cX3_isOver 10 = .ok (.aload_n 0, 1) := by decide +kernel
theorem dX3_isOver_11 : decode cX3_isOver 11 = .ok (.getfield 29, 3) := by decide +kernel
theorem dX3_isOver_14 : decode cX3_isOver 14 = .ok (.ifCond .ne 7, 3) := by decide +kernel
theorem dX3_isOver_17 : decode cX3_isOver 17 = .ok (.iconst 1, 1) := by decide +kernel
theorem dX3_isOver_18 : decode cX3_isOver 18 = .ok (.goto 4, 3) := by decide +kernel
theorem dX3_isOver_21 : decode cX3_isOver 21 = .ok (.iconst 0, 1) := by decide +kernel
theorem dX3_isOver_22 : decode cX3_isOver 22 = .ok (.ireturn, 1) := by decide +kernel
theorem dX3_partHere_0 : decode cX3_partHere 0 = .ok (.aload_n 0, 1) := by decide +kernel
theorem dX3_partHere_1 : decode cX3_partHere 1 = .ok (.getfield 15, 3) := by decide +kernel
theorem dX3_partHere_4 : decode cX3_partHere 4 = .ok (.getfield 41, 3) := by decide +kernel
theorem dX3_partHere_7 : decode cX3_partHere 7 = .ok (.iconst 3, 1) := by decide +kernel
theorem dX3_partHere_8 : decode cX3_partHere 8 = .ok (.if_icmp .ne 5, 3) := by decide +kernel
theorem dX3_partHere_11 : decode cX3_partHere 11 = .ok (.iconst 0, 1) := by decide +kernel
theorem dX3_partHere_12 : decode cX3_partHere 12 = .ok (.ireturn, 1) := by decide +kernel
theorem dX3_partHere_13 : decode cX3_partHere 13 = .ok (.aload_n 0, 1) := by decide +kernel
theorem dX3_partHere_14 : decode cX3_partHere 14 = .ok (.getfield 15, 3) := by decide +kernel
theorem dX3_partHere_17 : decode cX3_partHere 17 = .ok (.ldc 148, 2) := by decide +kernel
theorem dX3_partHere_19 : decode cX3_partHere 19 = .ok (.invokevirtual 68, 3) := by decide +kernel
theorem dX3_partHere_22 : decode cX3_partHere 22 = .ok (.ifCond .eq 5, 3) := by decide +kernel
theorem dX3_partHere_25 : decode cX3_partHere 25 = .ok (.iconst 1, 1) := by decide +kernel
theorem dX3_partHere_26 : decode cX3_partHere 26 = .ok (.ireturn, 1) := by decide +kernel
theorem dX3_partHere_27 : decode cX3_partHere 27 = .ok (.aload_n 0, 1) := by decide +kernel
theorem dX3_partHere_28 : decode cX3_partHere 28 = .ok (.getfield 15, 3) := by decide +kernel
theorem dX3_partHere_31 : decode cX3_partHere 31 = .ok (.ldc 150, 2) := by decide +kernel
theorem dX3_partHere_33 : decode cX3_partHere 33 = .ok (.invokevirtual 68, 3) := by decide +kernel
theorem dX3_partHere_36 : decode cX3_partHere 36 = .ok (.ifCond .eq 5, 3) := by decide +kernel
theorem dX3_partHere_39 : decode cX3_partHere 39 = .ok (.iconst 2, 1) := by decide +kernel
theorem dX3_partHere_40 : decode cX3_partHere 40 = .ok (.ireturn, 1) := by decide +kernel
theorem dX3_partHere_41 : decode cX3_partHere 41 = .ok (.aload_n 0, 1) := by decide +kernel
theorem dX3_partHere_42 : decode cX3_partHere 42 = .ok (.getfield 15, 3) := by decide +kernel
theorem dX3_partHere_45 : decode cX3_partHere 45 = .ok (.ldc 152, 2) := by decide +kernel
theorem dX3_partHere_47 : decode cX3_partHere 47 = .ok (.invokevirtual 68, 3) := by decide +kernel
theorem dX3_partHere_50 : decode cX3_partHere 50 = .ok (.ifCond .eq 5, 3) := by decide +kernel
theorem dX3_partHere_53 : decode cX3_partHere 53 = .ok (.iconst 3, 1) := by decide +kernel
theorem dX3_partHere_54 : decode cX3_partHere 54 = .ok (.ireturn, 1) := by decide +kernel
theorem dX3_partHere_55 : decode cX3_partHere 55 = .ok (.aload_n 0, 1) := by decide +kernel
theorem dX3_partHere_56 : decode cX3_partHere 56 = .ok (.getfield 15, 3) := by decide +kernel
theorem dX3_partHere_59 : decode cX3_partHere 59 = .ok (.ldc 154, 2) := by decide +kernel
theorem dX3_partHere_61 : decode cX3_partHere 61 = .ok (.invokevirtual 68, 3) := by decide +kernel
theorem dX3_partHere_64 : decode cX3_partHere 64 = .ok (.ifCond .eq 5, 3) := by decide +kernel
theorem dX3_partHere_67 : decode cX3_partHere 67 = .ok (.iconst 4, 1) := by decide +kernel
theorem dX3_partHere_68 : decode cX3_partHere 68 = .ok (.ireturn, 1) := by decide +kernel
theorem dX3_partHere_69 : decode cX3_partHere 69 = .ok (.aload_n 0, 1) := by decide +kernel
theorem dX3_partHere_70 : decode cX3_partHere 70 = .ok (.getfield 15, 3) := by decide +kernel
theorem dX3_partHere_73 : decode cX3_partHere 73 = .ok (.ldc 156, 2) := by decide +kernel
theorem dX3_partHere_75 : decode cX3_partHere 75 = .ok (.invokevirtual 68, 3) := by decide +kernel
theorem dX3_partHere_78 : decode cX3_partHere 78 = .ok (.ifCond .eq 5, 3) := by decide +kernel
theorem dX3_partHere_81 : decode cX3_partHere 81 = .ok (.iconst 5, 1) := by decide +kernel
theorem dX3_partHere_82 : decode cX3_partHere 82 = .ok (.ireturn, 1) := by decide +kernel
theorem dX3_partHere_83 : decode cX3_partHere 83 = .ok (.aload_n 0, 1) := by decide +kernel
theorem dX3_partHere_84 : decode cX3_partHere 84 = .ok (.getfield 15, 3) := by decide +kernel
theorem dX3_partHere_87 : decode cX3_partHere 87 = .ok (.ldc 158, 2) := by decide +kernel
theorem dX3_partHere_89 : decode cX3_partHere 89 = .ok (.invokevirtual 68, 3) := by decide +kernel
theorem dX3_partHere_92 : decode cX3_partHere 92 = .ok (.ifCond .eq 6, 3) := by decide +kernel
theorem dX3_partHere_95 : decode cX3_partHere 95 = .ok (.bipush 6, 2) := by decide +kernel
theorem dX3_partHere_97 : decode cX3_partHere 97 = .ok (.ireturn, 1) := by decide +kernel
theorem dX3_partHere_98 : decode cX3_partHere 98 = .ok (.aload_n 0, 1) := by decide +kernel
theorem dX3_partHere_99 : decode cX3_partHere 99 = .ok (.getfield 15, 3) := by decide +kernel
theorem dX3_partHere_102 : decode cX3_partHere 102 = .ok (.ldc 160, 2) := by decide +kernel
theorem dX3_partHere_104 : decode cX3_partHere 104 = .ok (.invokevirtual 68, 3) := by decide +kernel
theorem dX3_partHere_107 : decode cX3_partHere 107 = .ok (.ifCond .eq 8, 3) := by decide +kernel
theorem dX3_partHere_110 : decode cX3_partHere 110 = .ok (.bipush 7, 2) := by decide +kernel
theorem dX3_partHere_112 : decode cX3_partHere 112 = .ok (.goto 4, 3) := by decide +kernel
theorem dX3_partHere_115 : decode cX3_partHere 115 = .ok (.iconst (-1), 1) := by decide +kernel
theorem dX3_partHere_116 : decode cX3_partHere 116 = .ok (.ireturn, 1) := by decide +kernel
theorem dX3_read_0 : decode cX3_read 0 = .ok (.aload_n 0, 1) := by decide +kernel
theorem dX3_read_1 : decode cX3_read 1 = .ok (.aload_n 1, 1) := by decide +kernel
theorem dX3_read_2 : decode cX3_read 2 = .ok (.putfield 19, 3) := by decide +kernel
theorem dX3_read_5 : decode cX3_read 5 = .ok (.aload_n 0, 1) := by decide +kernel
theorem dX3_read_6 : decode cX3_read 6 = .ok (.getfield 19, 3) := by decide +kernel
theorem dX3_read_9 : decode cX3_read 9 = .ok (.iconst 0, 1) := by decide +kernel
theorem dX3_read_10 : decode cX3_read 10 = .ok (.putfield 23, 3) := by decide +kernel
theorem dX3_read_13 : decode cX3_read 13 = .ok (.aload_n 0, 1) := by decide +kernel
theorem dX3_read_14 : decode cX3_read 14 = .ok (.iconst 0, 1) := by decide +kernel
theorem dX3_read_15 : decode cX3_read 15 = .ok (.putfield 29, 3) := by decide +kernel
theorem dX3_read_18 : decode cX3_read 18 = .ok (.aload_n 0, 1) := by decide +kernel
theorem dX3_read_19 : decode cX3_read 19 = .ok (.getfield 15, 3) := by decide +kernel
theorem dX3_read_22 : decode cX3_read 22 = .ok (.invokevirtual 32, 3) := by decide +kernel
theorem dX3_read_25 : decode cX3_read 25 = .ok (.iconst 0, 1) := by decide +kernel
theorem dX3_read_26 : decode cX3_read 26 = .ok (.istore_n 2, 1) := by decide +kernel
theorem dX3_read_27 : decode cX3_read 27 = .ok (.iconst 0, 1) := by decide +kernel
theorem dX3_read_28 : decode cX3_read 28 = .ok (.istore_n 3, 1) := by decide +kernel
theorem dX3_read_29 : decode cX3_read 29 = .ok (.iload_n 3, 1) := by decide +kernel
theorem dX3_read_30 : decode cX3_read 30 = .ok (.sipush 1000, 3) := by decide +kernel
theorem dX3_read_33 : decode cX3_read 33 = .ok (.if_icmp .gt 51, 3) := by decide +kernel
theorem dX3_read_36 : decode cX3_read 36 = .ok (.iload_n 2, 1) := by decide +kernel
theorem dX3_read_37 : decode cX3_read 37 = .ok (.ifCond .ne 47, 3) := by decide +kernel
theorem dX3_read_40 : decode cX3_read 40 = .ok (.aload_n 0, 1) := by decide +kernel
theorem dX3_read_41 : decode cX3_read 41 = .ok (.invokevirtual 37, 3) := by decide +kernel
theorem dX3_read_44 : decode cX3_read 44 = .ok (.ifCond .ne 40, 3) := by decide +kernel
theorem dX3_read_47 : decode cX3_read 47 = .ok (.aload_n 0, 1) := by decide +kernel
theorem dX3_read_48 : decode cX3_read 48 = .ok (.getfield 15, 3) := by decide +kernel
theorem dX3_read_51 : decode cX3_read 51 = .ok (.getfield 41, 3) := by decide +kernel
theorem dX3_read_54 : decode cX3_read 54 = .ok (.bipush 125, 2) := by decide +kernel
theorem dX3_read_56 : decode cX3_read 56 = .ok (.if_icmp .ne 17, 3) := by decide +kernel
theorem dX3_read_59 : decode cX3_read 59 = .ok (.aload_n 0, 1) := by decide +kernel
theorem dX3_read_60 : decode cX3_read 60 = .ok (.getfield 29, 3) := by decide +kernel
theorem dX3_read_63 : decode cX3_read 63 = .ok (.ifCond .le 10, 3) := by decide +kernel
theorem dX3_read_66 : decode cX3_read 66 = .ok (.aload_n 0, 1) := by decide +kernel
theorem dX3_read_67 : decode cX3_read 67 = .ok (.invokevirtual 44, 3) := by decide +kernel
theorem dX3_read_70 : decode cX3_read 70 = .ok (.goto 7, 3) := by decide +kernel
theorem dX3_read_73 : decode cX3_read 73 = .ok (.aload_n 0, 1) := by decide +kernel
theorem dX3_read_74 : decode cX3_read 74 = .ok (.invokevirtual 48, 3) := by decide +kernel
theorem dX3_read_77 : decode cX3_read 77 = .ok (.istore_n 2, 1) := by decide +kernel
theorem dX3_read_78 : decode cX3_read 78 = .ok (.iinc 3 1, 3) := by decide +kernel
theorem dX3_read_81 : decode cX3_read 81 = .ok (.goto (-52), 3) := by decide +kernel
theorem dX3_read_84 : decode cX3_read 84 = .ok (.iload_n 2, 1) := by decide +kernel
theorem dX3_read_85 : decode cX3_read 85 = .ok (.ifCond .ne 10, 3) := by decide +kernel
theorem dX3_read_88 : decode cX3_read 88 = .ok (.aload_n 0, 1) := by decide +kernel
theorem dX3_read_89 : decode cX3_read 89 = .ok (.getfield 19, 3) := by decide +kernel
theorem dX3_read_92 : decode cX3_read 92 = .ok (.invokevirtual 51, 3) := by decide +kernel
theorem dX3_read_95 : decode cX3_read 95 = .ok (.iload_n 2, 1) := by decide +kernel
theorem dX3_read_96 : decode cX3_read 96 = .ok (.ireturn, 1) := by decide +kernel
theorem dX3_readClosing_0 : decode cX3_readClosing 0 = .ok (.aload_n 0, 1) := by decide +kernel
theorem dX3_readClosing_1 : decode cX3_readClosing 1 = .ok (.getfield 11, 3) := by decide +kernel
theorem dX3_readClosing_4 : decode cX3_readClosing 4 = .ok (.aload_n 0, 1) := by decide +kernel
theorem dX3_readClosing_5 : decode cX3_readClosing 5 = .ok (.getfield 29, 3) := by decide +kernel
theorem dX3_readClosing_8 : decode cX3_readClosing 8 = .ok (.iconst 1, 1) := by decide +kernel
theorem dX3_readClosing_9 : decode cX3_readClosing 9 = .ok (.isub, 1) := by decide +kernel
theorem dX3_readClosing_10 : decode cX3_readClosing 10 = .ok (.iaload, 1) := by decide +kernel
theorem dX3_readClosing_11 : decode cX3_readClosing 11 = .ok (.istore_n 1, 1) := by decide +kernel
theorem dX3_readClosing_12 : decode cX3_readClosing 12 = .ok (.aload_n 0, 1) := by decide +kernel
theorem dX3_readClosing_13 : decode cX3_readClosing 13 = .ok (.getfield 15, 3) := by decide +kernel
theorem dX3_readClosing_16 : decode cX3_readClosing 16 = .ok (.invokevirtual 57, 3) := by decide +kernel
theorem dX3_readClosing_19 : decode cX3_readClosing 19 = .ok (.aload_n 0, 1) := by decide +kernel
theorem dX3_readClosing_20 : decode cX3_readClosing 20 = .ok (.getfield 19, 3) := by decide +kernel
theorem dX3_readClosing_23 : decode cX3_readClosing 23 = .ok (.getfield 60, 3) := by decide +kernel
theorem dX3_readClosing_26 : decode cX3_readClosing 26 = .ok (.iload_n 1, 1) := by decide +kernel
theorem dX3_readClosing_27 : decode cX3_readClosing 27 = .ok (.iaload, 1) := by decide +kernel
theorem dX3_readClosing_28 : decode cX3_readClosing 28 = .ok (.bipush 7, 2) := by decide +kernel
theorem dX3_readClosing_30 : decode cX3_readClosing 30 = .ok (.if_icmp .ne 58, 3) := by decide +kernel
theorem dX3_readClosing_33 : decode cX3_readClosing 33 = .ok (.aload_n 0, 1) := by decide +kernel
theorem dX3_readClosing_34 : decode cX3_readClosing 34 = .ok (.getfield 19, 3) := by decide +kernel
theorem dX3_readClosing_37 : decode cX3_readClosing 37 = .ok (.getfield 63, 3) := by decide +kernel
theorem dX3_readClosing_40 : decode cX3_readClosing 40 = .ok (.iload_n 1, 1) := by decide +kernel
theorem dX3_readClosing_41 : decode cX3_readClosing 41 = .ok (.iaload, 1) := by decide +kernel
theorem dX3_readClosing_42 : decode cX3_readClosing 42 = .ok (.iconst (-1), 1) := by decide +kernel
theorem dX3_readClosing_43 : decode cX3_readClosing 43 = .ok (.if_icmp .ne 45, 3) := by decide +kernel
theorem dX3_readClosing_46 : decode cX3_readClosing 46 = .ok (.aload_n 0, 1) := by decide +kernel
theorem dX3_readClosing_47 : decode cX3_readClosing 47 = .ok (.getfield 19, 3) := by decide +kernel
theorem dX3_readClosing_50 : decode cX3_readClosing 50 = .ok (.getfield 63, 3) := by decide +kernel
theorem dX3_readClosing_53 : decode cX3_readClosing 53 = .ok (.iload_n 1, 1) := by decide +kernel
theorem dX3_readClosing_54 : decode cX3_readClosing 54 = .ok (.aload_n 0, 1) := by decide +kernel
theorem dX3_readClosing_55 : decode cX3_readClosing 55 = .ok (.getfield 19, 3) := by decide +kernel
theorem dX3_readClosing_58 : decode cX3_readClosing 58 = .ok (.getfield 23, 3) := by decide +kernel
theorem dX3_readClosing_61 : decode cX3_readClosing 61 = .ok (.iastore, 1) := by decide +kernel
theorem dX3_readClosing_62 : decode cX3_readClosing 62 = .ok (.aload_n 0, 1) := by decide +kernel
theorem dX3_readClosing_63 : decode cX3_readClosing 63 = .ok (.getfield 15, 3) := by decide +kernel
theorem dX3_readClosing_66 : decode cX3_readClosing 66 = .ok (.ldc 66, 2) := by decide +kernel
theorem dX3_readClosing_68 : decode cX3_readClosing 68 = .ok (.invokevirtual 68, 3) := by decide +kernel
theorem dX3_readClosing_71 : decode cX3_readClosing 71 = .ok (.ifCond .eq 17, 3) := by decide +kernel
theorem dX3_readClosing_74 : decode cX3_readClosing 74 = .ok (.aload_n 0, 1) := by decide +kernel
theorem dX3_readClosing_75 : decode cX3_readClosing 75 = .ok (.getfield 15, 3) := by decide +kernel
theorem dX3_readClosing_78 : decode cX3_readClosing 78 = .ok (.invokevirtual 57, 3) := by decide +kernel
theorem dX3_readClosing_81 : decode cX3_readClosing 81 = .ok (.aload_n 0, 1) := by decide +kernel
theorem dX3_readClosing_82 : decode cX3_readClosing 82 = .ok (.bipush 123, 2) := by decide +kernel
theorem dX3_readClosing_84 : decode cX3_readClosing 84 = .ok (.invokevirtual 72, 3) := by decide +kernel
theorem dX3_readClosing_87 : decode cX3_readClosing 87 = .ok (.ireturn, 1) := by decide +kernel
theorem dX3_readClosing_88 : decode cX3_readClosing 88 = .ok (.aload_n 0, 1) := by decide +kernel
theorem dX3_readClosing_89 : decode cX3_readClosing 89 = .ok (.getfield 19, 3) := by decide +kernel
theorem dX3_readClosing_92 : decode cX3_readClosing 92 = .ok (.getfield 76, 3) := by decide +kernel
theorem dX3_readClosing_95 : decode cX3_readClosing 95 = .ok (.iload_n 1, 1) := by decide +kernel
theorem dX3_readClosing_96 : decode cX3_readClosing 96 = .ok (.aload_n 0, 1) := by decide +kernel
theorem dX3_readClosing_97 : decode cX3_readClosing 97 = .ok (.getfield 19, 3) := by decide +kernel
theorem dX3_readClosing_100 : decode cX3_readClosing 100 = .ok (.getfield 23, 3) := by decide +kernel
theorem dX3_readClosing_103 : decode cX3_readClosing 103 = .ok (.iastore, 1) := by decide +kernel
theorem dX3_readClosing_104 : decode cX3_readClosing 104 = .ok (.aload_n 0, 1) := by decide +kernel
theorem dX3_readClosing_105 : decode cX3_readClosing 105 = .ok (.dup, 1) := by decide +kernel
theorem dX3_readClosing_106 : decode cX3_readClosing 106 = .ok (.getfield 29, 3) := by decide +kernel
theorem dX3_readClosing_109 : decode cX3_readClosing 109 = .ok (.iconst 1, 1) := by decide +kernel
theorem dX3_readClosing_110 : decode cX3_readClosing 110 = .ok (.isub, 1) := by decide +kernel
theorem dX3_readClosing_111 : decode cX3_readClosing 111 = .ok (.putfield 29, 3) := by decide +kernel
theorem dX3_readClosing_114 : decode cX3_readClosing 114 = .ok (.iconst 0, 1) := by decide +kernel
theorem dX3_readClosing_115 : decode cX3_readClosing 115 = .ok (.ireturn, 1) := by decide +kernel
theorem dX3_readCondition_0 : decode cX3_readCondition 0 = .ok (.aload_n 0, 1) := by decide +kernel
theorem dX3_readCondition_1 : decode cX3_readCondition 1 = .ok (.iload_n 1, 1) := by decide +kernel
theorem dX3_readCondition_2 : decode cX3_readCondition 2 = .ok (.iconst 1, 1) := by decide +kernel
theorem dX3_readCondition_3 : decode cX3_readCondition 3 = .ok (.invokevirtual 135, 3) := by decide +kernel
theorem dX3_readCondition_6 : decode cX3_readCondition 6 = .ok (.istore_n 2, 1) := by decide +kernel
theorem dX3_readCondition_7 : decode cX3_readCondition 7 = .ok (.iload_n 2, 1) := by decide +kernel
theorem dX3_readCondition_8 : decode cX3_readCondition 8 = .ok (.ifCond .ne 67, 3) := by decide +kernel
theorem dX3_readCondition_11 : decode cX3_readCondition 11 = .ok (.aload_n 0, 1) := by decide +kernel
theorem dX3_readCondition_12 : decode cX3_readCondition 12 = .ok (.getfield 15, 3) := by decide +kernel
theorem dX3_readCondition_15 : decode cX3_readCondition 15 = .ok (.getfield 41, 3) := by decide +kernel
theorem dX3_readCondition_18 : decode cX3_readCondition 18 = .ok (.bipush 60, 2) := by decide +kernel
theorem dX3_readCondition_20 : decode cX3_readCondition 20 = .ok (.if_icmp .eq 15, 3) := by decide +kernel
theorem dX3_readCondition_23 : decode cX3_readCondition 23 = .ok (.aload_n 0, 1) := by decide +kernel
theorem dX3_readCondition_24 : decode cX3_readCondition 24 = .ok (.getfield 15, 3) := by decide +kernel
theorem dX3_readCondition_27 : decode cX3_readCondition 27 = .ok (.getfield 41, 3) := by decide +kernel
theorem dX3_readCondition_30 : decode cX3_readCondition 30 = .ok (.bipush 61, 2) := by decide +kernel
theorem dX3_readCondition_32 : decode cX3_readCondition 32 = .ok (.if_icmp .ne 43, 3) := by decide +kernel
theorem dX3_readCondition_35 : decode cX3_readCondition 35 = .ok (.aload_n 0, 1) := by decide +kernel
theorem dX3_readCondition_36 : decode cX3_readCondition 36 = .ok (.getfield 19, 3) := by decide +kernel
theorem dX3_readCondition_39 : decode cX3_readCondition 39 = .ok (.getfield 120, 3) := by decide +kernel
theorem dX3_readCondition_42 : decode cX3_readCondition 42 = .ok (.iload_n 1, 1) := by decide +kernel
theorem dX3_readCondition_43 : decode cX3_readCondition 43 = .ok (.aload_n 0, 1) := by decide +kernel
theorem dX3_readCondition_44 : decode cX3_readCondition 44 = .ok (.getfield 15, 3) := by decide +kernel
theorem dX3_readCondition_47 : decode cX3_readCondition 47 = .ok (.getfield 41, 3) := by decide +kernel
theorem dX3_readCondition_50 : decode cX3_readCondition 50 = .ok (.bipush 60, 2) := by decide +kernel
theorem dX3_readCondition_52 : decode cX3_readCondition 52 = .ok (.if_icmp .ne 7, 3) := by decide +kernel
theorem dX3_readCondition_55 : decode cX3_readCondition 55 = .ok (.iconst 1, 1) := by decide +kernel
theorem dX3_readCondition_56 : decode cX3_readCondition 56 = .ok (.goto 4, 3) := by decide +kernel
theorem dX3_readCondition_59 : decode cX3_readCondition 59 = .ok (.iconst 2, 1) := by decide +kernel
theorem dX3_readCondition_60 : decode cX3_readCondition 60 = .ok (.iastore, 1) := by decide +kernel
theorem dX3_readCondition_61 : decode cX3_readCondition 61 = .ok (.aload_n 0, 1) := by decide +kernel
theorem dX3_readCondition_62 : decode cX3_readCondition 62 = .ok (.getfield 15, 3) := by decide +kernel
theorem dX3_readCondition_65 : decode cX3_readCondition 65 = .ok (.invokevirtual 57, 3) := by decide +kernel
theorem dX3_readCondition_68 : decode cX3_readCondition 68 = .ok (.aload_n 0, 1) := by decide +kernel
theorem dX3_readCondition_69 : decode cX3_readCondition 69 = .ok (.iload_n 1, 1) := by decide +kernel
theorem dX3_readCondition_70 : decode cX3_readCondition 70 = .ok (.iconst (-1), 1) := by decide +kernel
theorem dX3_readCondition_71 : decode cX3_readCondition 71 = .ok (.invokevirtual 135, 3) := by decide +kernel
theorem dX3_readCondition_74 : decode cX3_readCondition 74 = .ok (.istore_n 2, 1) := by decide +kernel
theorem dX3_readCondition_75 : decode cX3_readCondition 75 = .ok (.iload_n 2, 1) := by decide +kernel
theorem dX3_readCondition_76 : decode cX3_readCondition 76 = .ok (.ifCond .ne 11, 3) := by decide +kernel
theorem dX3_readCondition_79 : decode cX3_readCondition 79 = .ok (.aload_n 0, 1) := by decide +kernel
theorem dX3_readCondition_80 : decode cX3_readCondition 80 = .ok (.iload_n 1, 1) := by decide +kernel
theorem dX3_readCondition_81 : decode cX3_readCondition 81 = .ok (.invokevirtual 138, 3) := by decide +kernel
theorem dX3_readCondition_84 : decode cX3_readCondition 84 = .ok (.goto 4, 3) := by decide +kernel
theorem dX3_readCondition_87 : decode cX3_readCondition 87 = .ok (.iload_n 2, 1) := by decide +kernel
theorem dX3_readCondition_88 : decode cX3_readCondition 88 = .ok (.ireturn, 1) := by decide +kernel
theorem dX3_readOpening_0 : decode cX3_readOpening 0 = .ok (.aload_n 0, 1) := by decide +kernel
theorem dX3_readOpening_1 : decode cX3_readOpening 1 = .ok (.getfield 15, 3) := by decide +kernel
theorem dX3_readOpening_4 : decode cX3_readOpening 4 = .ok (.getfield 41, 3) := by decide +kernel
theorem dX3_readOpening_7 : decode cX3_readOpening 7 = .ok (.bipush 123, 2) := by decide +kernel
theorem dX3_readOpening_9 : decode cX3_readOpening 9 = .ok (.if_icmp .eq 9, 3) := by decide +kernel
theorem dX3_readOpening_12 : decode cX3_readOpening 12 = .ok (.aload_n 0, 1) := by decide +kernel
theorem dX3_readOpening_13 : decode cX3_readOpening 13 = .ok (.iconst 1, 1) := by decide +kernel
theorem dX3_readOpening_14 : decode cX3_readOpening 14 = .ok (.invokevirtual 82, 3) := by decide +kernel
theorem dX3_readOpening_17 : decode cX3_readOpening 17 = .ok (.ireturn, 1) := by decide +kernel
theorem dX3_readOpening_18 : decode cX3_readOpening 18 = .ok (.aload_n 0, 1) := by decide +kernel
theorem dX3_readOpening_19 : decode cX3_readOpening 19 = .ok (.getfield 29, 3) := by decide +kernel
theorem dX3_readOpening_22 : decode cX3_readOpening 22 = .ok (.bipush 8, 2) := by decide +kernel
theorem dX3_readOpening_24 : decode cX3_readOpening 24 = .ok (.if_icmp .lt 9, 3) := by decide +kernel
theorem dX3_readOpening_27 : decode cX3_readOpening 27 = .ok (.aload_n 0, 1) := by decide +kernel
theorem dX3_readOpening_28 : decode cX3_readOpening 28 = .ok (.iconst 5, 1) := by decide +kernel
theorem dX3_readOpening_29 : decode cX3_readOpening 29 = .ok (.invokevirtual 82, 3) := by decide +kernel
theorem dX3_readOpening_32 : decode cX3_readOpening 32 = .ok (.ireturn, 1) := by decide +kernel
theorem dX3_readOpening_33 : decode cX3_readOpening 33 = .ok (.aload_n 0, 1) := by decide +kernel
theorem dX3_readOpening_34 : decode cX3_readOpening 34 = .ok (.getfield 11, 3) := by decide +kernel
theorem dX3_readOpening_37 : decode cX3_readOpening 37 = .ok (.aload_n 0, 1) := by decide +kernel
theorem dX3_readOpening_38 : decode cX3_readOpening 38 = .ok (.getfield 29, 3) := by decide +kernel
theorem dX3_readOpening_41 : decode cX3_readOpening 41 = .ok (.iload_n 1, 1) := by decide +kernel
theorem dX3_readOpening_42 : decode cX3_readOpening 42 = .ok (.iastore, 1) := by decide +kernel
theorem dX3_readOpening_43 : decode cX3_readOpening 43 = .ok (.aload_n 0, 1) := by decide +kernel
theorem dX3_readOpening_44 : decode cX3_readOpening 44 = .ok (.dup, 1) := by decide +kernel
theorem dX3_readOpening_45 : decode cX3_readOpening 45 = .ok (.getfield 29, 3) := by decide +kernel
theorem dX3_readOpening_48 : decode cX3_readOpening 48 = .ok (.iconst 1, 1) := by decide +kernel
theorem dX3_readOpening_49 : decode cX3_readOpening 49 = .ok (.iadd, 1) := by decide +kernel
theorem dX3_readOpening_50 : decode cX3_readOpening 50 = .ok (.putfield 29, 3) := by decide +kernel
theorem dX3_readOpening_53 : decode cX3_readOpening 53 = .ok (.aload_n 0, 1) := by decide +kernel
theorem dX3_readOpening_54 : decode cX3_readOpening 54 = .ok (.getfield 15, 3) := by decide +kernel
theorem dX3_readOpening_57 : decode cX3_readOpening 57 = .ok (.invokevirtual 57, 3) := by decide +kernel
theorem dX3_readOpening_60 : decode cX3_readOpening 60 = .ok (.iconst 0, 1) := by decide +kernel
theorem dX3_readOpening_61 : decode cX3_readOpening 61 = .ok (.ireturn, 1) := by decide +kernel
theorem dX3_readOrder_0 : decode cX3_readOrder 0 = .ok (.aload_n 0, 1) := by decide +kernel
theorem dX3_readOrder_1 : decode cX3_readOrder 1 = .ok (.iload_n 2, 1) := by decide +kernel
theorem dX3_readOrder_2 : decode cX3_readOrder 2 = .ok (.bipush 6, 2) := by decide +kernel
theorem dX3_readOrder_4 : decode cX3_readOrder 4 = .ok (.if_icmp .ne 7, 3) := by decide +kernel
theorem dX3_readOrder_7 : decode cX3_readOrder 7 = .ok (.iconst 1, 1) := by decide +kernel
theorem dX3_readOrder_8 : decode cX3_readOrder 8 = .ok (.goto 4, 3) := by decide +kernel
theorem dX3_readOrder_11 : decode cX3_readOrder 11 = .ok (.iconst 0, 1) := by decide +kernel
theorem dX3_readOrder_12 : decode cX3_readOrder 12 = .ok (.iload_n 2, 1) := by decide +kernel
theorem dX3_readOrder_13 : decode cX3_readOrder 13 = .ok (.invokestatic 114, 3) := by decide +kernel
theorem dX3_readOrder_16 : decode cX3_readOrder 16 = .ok (.invokevirtual 117, 3) := by decide +kernel
theorem dX3_readOrder_19 : decode cX3_readOrder 19 = .ok (.istore_n 3, 1) := by decide +kernel
theorem dX3_readOrder_20 : decode cX3_readOrder 20 = .ok (.iload_n 3, 1) := by decide +kernel
theorem dX3_readOrder_21 : decode cX3_readOrder 21 = .ok (.ifCond .eq 5, 3) := by decide +kernel
theorem dX3_readOrder_24 : decode cX3_readOrder 24 = .ok (.iload_n 3, 1) := by decide +kernel
theorem dX3_readOrder_25 : decode cX3_readOrder 25 = .ok (.ireturn, 1) := by decide +kernel
theorem dX3_readOrder_26 : decode cX3_readOrder 26 = .ok (.aload_n 0, 1) := by decide +kernel
theorem dX3_readOrder_27 : decode cX3_readOrder 27 = .ok (.getfield 19, 3) := by decide +kernel
theorem dX3_readOrder_30 : decode cX3_readOrder 30 = .ok (.getfield 120, 3) := by decide +kernel
theorem dX3_readOrder_33 : decode cX3_readOrder 33 = .ok (.iload_n 1, 1) := by decide +kernel
theorem dX3_readOrder_34 : decode cX3_readOrder 34 = .ok (.aload_n 0, 1) := by decide +kernel
theorem dX3_readOrder_35 : decode cX3_readOrder 35 = .ok (.getfield 15, 3) := by decide +kernel
theorem dX3_readOrder_38 : decode cX3_readOrder 38 = .ok (.getfield 123, 3) := by decide +kernel
theorem dX3_readOrder_41 : decode cX3_readOrder 41 = .ok (.iastore, 1) := by decide +kernel
theorem dX3_readOrder_42 : decode cX3_readOrder 42 = .ok (.aload_n 0, 1) := by decide +kernel
theorem dX3_readOrder_43 : decode cX3_readOrder 43 = .ok (.getfield 15, 3) := by decide +kernel
theorem dX3_readOrder_46 : decode cX3_readOrder 46 = .ok (.invokevirtual 57, 3) := by decide +kernel
theorem dX3_readOrder_49 : decode cX3_readOrder 49 = .ok (.iload_n 2, 1) := by decide +kernel
theorem dX3_readOrder_50 : decode cX3_readOrder 50 = .ok (.iconst 2, 1) := by decide +kernel
theorem dX3_readOrder_51 : decode cX3_readOrder 51 = .ok (.if_icmp .ne 40, 3) := by decide +kernel
theorem dX3_readOrder_54 : decode cX3_readOrder 54 = .ok (.aload_n 0, 1) := by decide +kernel
theorem dX3_readOrder_55 : decode cX3_readOrder 55 = .ok (.iconst 0, 1) := by decide +kernel
theorem dX3_readOrder_56 : decode cX3_readOrder 56 = .ok (.bipush 8, 2) := by decide +kernel
theorem dX3_readOrder_58 : decode cX3_readOrder 58 = .ok (.invokevirtual 117, 3) := by decide +kernel
theorem dX3_readOrder_61 : decode cX3_readOrder 61 = .ok (.istore_n 3, 1) := by decide +kernel
theorem dX3_readOrder_62 : decode cX3_readOrder 62 = .ok (.iload_n 3, 1) := by decide +kernel
theorem dX3_readOrder_63 : decode cX3_readOrder 63 = .ok (.ifCond .eq 5, 3) := by decide +kernel
theorem dX3_readOrder_66 : decode cX3_readOrder 66 = .ok (.iload_n 3, 1) := by decide +kernel
theorem dX3_readOrder_67 : decode cX3_readOrder 67 = .ok (.ireturn, 1) := by decide +kernel
theorem dX3_readOrder_68 : decode cX3_readOrder 68 = .ok (.aload_n 0, 1) := by decide +kernel
theorem dX3_readOrder_69 : decode cX3_readOrder 69 = .ok (.getfield 19, 3) := by decide +kernel
theorem dX3_readOrder_72 : decode cX3_readOrder 72 = .ok (.getfield 126, 3) := by decide +kernel
theorem dX3_readOrder_75 : decode cX3_readOrder 75 = .ok (.iload_n 1, 1) := by decide +kernel
theorem dX3_readOrder_76 : decode cX3_readOrder 76 = .ok (.aload_n 0, 1) := by decide +kernel
theorem dX3_readOrder_77 : decode cX3_readOrder 77 = .ok (.getfield 15, 3) := by decide +kernel
theorem dX3_readOrder_80 : decode cX3_readOrder 80 = .ok (.getfield 123, 3) := by decide +kernel
theorem dX3_readOrder_83 : decode cX3_readOrder 83 = .ok (.iastore, 1) := by decide +kernel
theorem dX3_readOrder_84 : decode cX3_readOrder 84 = .ok (.aload_n 0, 1) := by decide +kernel
theorem dX3_readOrder_85 : decode cX3_readOrder 85 = .ok (.getfield 15, 3) := by decide +kernel
theorem dX3_readOrder_88 : decode cX3_readOrder 88 = .ok (.invokevirtual 57, 3) := by decide +kernel
theorem dX3_readOrder_91 : decode cX3_readOrder 91 = .ok (.aload_n 0, 1) := by decide +kernel
theorem dX3_readOrder_92 : decode cX3_readOrder 92 = .ok (.bipush 59, 2) := by decide +kernel
theorem dX3_readOrder_94 : decode cX3_readOrder 94 = .ok (.invokevirtual 72, 3) := by decide +kernel
theorem dX3_readOrder_97 : decode cX3_readOrder 97 = .ok (.ireturn, 1) := by decide +kernel
theorem dX3_readSign_0 : decode cX3_readSign 0 = .ok (.aload_n 0, 1) := by decide +kernel
theorem dX3_readSign_1 : decode cX3_readSign 1 = .ok (.getfield 15, 3) := by decide +kernel
theorem dX3_readSign_4 : decode cX3_readSign 4 = .ok (.getfield 41, 3) := by decide +kernel
theorem dX3_readSign_7 : decode cX3_readSign 7 = .ok (.iload_n 1, 1) := by decide +kernel
theorem dX3_readSign_8 : decode cX3_readSign 8 = .ok (.if_icmp .eq 9, 3) := by decide +kernel
theorem dX3_readSign_11 : decode cX3_readSign 11 = .ok (.aload_n 0, 1) := by decide +kernel
theorem dX3_readSign_12 : decode cX3_readSign 12 = .ok (.iconst 1, 1) := by decide +kernel
theorem dX3_readSign_13 : decode cX3_readSign 13 = .ok (.invokevirtual 82, 3) := by decide +kernel
theorem dX3_readSign_16 : decode cX3_readSign 16 = .ok (.ireturn, 1) := by decide +kernel
theorem dX3_readSign_17 : decode cX3_readSign 17 = .ok (.aload_n 0, 1) := by decide +kernel
theorem dX3_readSign_18 : decode cX3_readSign 18 = .ok (.getfield 15, 3) := by decide +kernel
theorem dX3_readSign_21 : decode cX3_readSign 21 = .ok (.invokevirtual 57, 3) := by decide +kernel
theorem dX3_readSign_24 : decode cX3_readSign 24 = .ok (.iconst 0, 1) := by decide +kernel
theorem dX3_readSign_25 : decode cX3_readSign 25 = .ok (.ireturn, 1) := by decide +kernel
theorem dX3_readStatement_0 : decode cX3_readStatement 0 = .ok (.aload_n 0, 1) := by decide +kernel
theorem dX3_readStatement_1 : decode cX3_readStatement 1 = .ok (.invokevirtual 79, 3) := by decide +kernel
theorem dX3_readStatement_4 : decode cX3_readStatement 4 = .ok (.istore_n 1, 1) := by decide +kernel
theorem dX3_readStatement_5 : decode cX3_readStatement 5 = .ok (.iload_n 1, 1) := by decide +kernel
theorem dX3_readStatement_6 : decode cX3_readStatement 6 = .ok (.iconst (-1), 1) := by decide +kernel
theorem dX3_readStatement_7 : decode cX3_readStatement 7 = .ok (.if_icmp .ne 9, 3) := by decide +kernel
theorem dX3_readStatement_10 : decode cX3_readStatement 10 = .ok (.aload_n 0, 1) := by decide +kernel
theorem dX3_readStatement_11 : decode cX3_readStatement 11 = .ok (.iconst 1, 1) := by decide +kernel
theorem dX3_readStatement_12 : decode cX3_readStatement 12 = .ok (.invokevirtual 82, 3) := by decide +kernel
theorem dX3_readStatement_15 : decode cX3_readStatement 15 = .ok (.ireturn, 1) := by decide +kernel
theorem dX3_readStatement_16 : decode cX3_readStatement 16 = .ok (.aload_n 0, 1) := by decide +kernel
theorem dX3_readStatement_17 : decode cX3_readStatement 17 = .ok (.getfield 19, 3) := by decide +kernel
theorem dX3_readStatement_20 : decode cX3_readStatement 20 = .ok (.getfield 23, 3) := by decide +kernel
theorem dX3_readStatement_23 : decode cX3_readStatement 23 = .ok (.bipush 80, 2) := by decide +kernel
theorem dX3_readStatement_25 : decode cX3_readStatement 25 = .ok (.if_icmp .lt 9, 3) := by decide +kernel
theorem dX3_readStatement_28 : decode cX3_readStatement 28 = .ok (.aload_n 0, 1) := by decide +kernel
theorem dX3_readStatement_29 : decode cX3_readStatement 29 = .ok (.iconst 5, 1) := by decide +kernel
theorem dX3_readStatement_30 : decode cX3_readStatement 30 = .ok (.invokevirtual 82, 3) := by decide +kernel
theorem dX3_readStatement_33 : decode cX3_readStatement 33 = .ok (.ireturn, 1) := by decide +kernel
theorem dX3_readStatement_34 : decode cX3_readStatement 34 = .ok (.aload_n 0, 1) := by decide +kernel
theorem dX3_readStatement_35 : decode cX3_readStatement 35 = .ok (.getfield 19, 3) := by decide +kernel
theorem dX3_readStatement_38 : decode cX3_readStatement 38 = .ok (.iload_n 1, 1) := by decide +kernel
theorem dX3_readStatement_39 : decode cX3_readStatement 39 = .ok (.aload_n 0, 1) := by decide +kernel
theorem dX3_readStatement_40 : decode cX3_readStatement 40 = .ok (.getfield 29, 3) := by decide +kernel
theorem dX3_readStatement_43 : decode cX3_readStatement 43 = .ok (.ifCond .le 17, 3) := by decide +kernel
theorem dX3_readStatement_46 : decode cX3_readStatement 46 = .ok (.aload_n 0, 1) := by decide +kernel
theorem dX3_readStatement_47 : decode cX3_readStatement 47 = .ok (.getfield 11, 3) := by decide +kernel
theorem dX3_readStatement_50 : decode cX3_readStatement 50 = .ok (.aload_n 0, 1) := by decide +kernel
theorem dX3_readStatement_51 : decode cX3_readStatement 51 = .ok (.getfield 29, 3) := by decide +kernel
theorem dX3_readStatement_54 : decode cX3_readStatement 54 = .ok (.iconst 1, 1) := by decide +kernel
theorem dX3_readStatement_55 : decode cX3_readStatement 55 = .ok (.isub, 1) := by decide +kernel
theorem dX3_readStatement_56 : decode cX3_readStatement 56 = .ok (.iaload, 1) := by decide +kernel
theorem dX3_readStatement_57 : decode cX3_readStatement 57 = .ok (.goto 4, 3) := by decide +kernel
theorem dX3_readStatement_60 : decode cX3_readStatement 60 = .ok (.iconst (-1), 1) := by decide +kernel
theorem dX3_readStatement_61 : decode cX3_readStatement 61 = .ok (.invokevirtual 86, 3) := by decide +kernel
theorem dX3_readStatement_64 : decode cX3_readStatement 64 = .ok (.istore_n 2, 1) := by decide +kernel
theorem dX3_readStatement_65 : decode cX3_readStatement 65 = .ok (.aload_n 0, 1) := by decide +kernel
theorem dX3_readStatement_66 : decode cX3_readStatement 66 = .ok (.getfield 15, 3) := by decide +kernel
theorem dX3_readStatement_69 : decode cX3_readStatement 69 = .ok (.invokevirtual 57, 3) := by decide +kernel
theorem dX3_readStatement_72 : decode cX3_readStatement 72 = .ok (.iload_n 1, 1) := by decide +kernel
theorem dX3_readStatement_73 : decode cX3_readStatement 73 = .ok (.bipush 7, 2) := by decide +kernel
theorem dX3_readStatement_75 : decode cX3_readStatement 75 = .ok (.if_icmp .eq 9, 3) := by decide +kernel
theorem dX3_readStatement_78 : decode cX3_readStatement 78 = .ok (.iload_n 1, 1) := by decide +kernel
theorem dX3_readStatement_79 : decode cX3_readStatement 79 = .ok (.bipush 8, 2) := by decide +kernel
theorem dX3_readStatement_81 : decode cX3_readStatement 81 = .ok (.if_icmp .ne 11, 3) := by decide +kernel
theorem dX3_readStatement_84 : decode cX3_readStatement 84 = .ok (.aload_n 0, 1) := by decide +kernel
theorem dX3_readStatement_85 : decode cX3_readStatement 85 = .ok (.iload_n 2, 1) := by decide +kernel
theorem dX3_readStatement_86 : decode cX3_readStatement 86 = .ok (.invokevirtual 90, 3) := by decide +kernel
theorem dX3_readStatement_89 : decode cX3_readStatement 89 = .ok (.goto 9, 3) := by decide +kernel
theorem dX3_readStatement_92 : decode cX3_readStatement 92 = .ok (.aload_n 0, 1) := by decide +kernel
theorem dX3_readStatement_93 : decode cX3_readStatement 93 = .ok (.iload_n 2, 1) := by decide +kernel
theorem dX3_readStatement_94 : decode cX3_readStatement 94 = .ok (.iload_n 1, 1) := by decide +kernel
theorem dX3_readStatement_95 : decode cX3_readStatement 95 = .ok (.invokevirtual 93, 3) := by decide +kernel
theorem dX3_readStatement_98 : decode cX3_readStatement 98 = .ok (.ireturn, 1) := by decide +kernel
theorem dX3_readSum_0 : decode cX3_readSum 0 = .ok (.iload_n 2, 1) := by decide +kernel
theorem dX3_readSum_1 : decode cX3_readSum 1 = .ok (.istore_n 3, 1) := by decide +kernel
theorem dX3_readSum_2 : decode cX3_readSum 2 = .ok (.iconst 0, 1) := by decide +kernel
theorem dX3_readSum_3 : decode cX3_readSum 3 = .ok (.istore 4, 2) := by decide +kernel
theorem dX3_readSum_5 : decode cX3_readSum 5 = .ok (.iload 4, 2) := by decide +kernel
theorem dX3_readSum_7 : decode cX3_readSum 7 = .ok (.sipush 1000, 3) := by decide +kernel
theorem dX3_readSum_10 : decode cX3_readSum 10 = .ok (.if_icmp .gt 114, 3) := by decide +kernel
theorem dX3_readSum_13 : decode cX3_readSum 13 = .ok (.aload_n 0, 1) := by decide +kernel
theorem dX3_readSum_14 : decode cX3_readSum 14 = .ok (.invokevirtual 141, 3) := by decide +kernel
theorem dX3_readSum_17 : decode cX3_readSum 17 = .ok (.istore 5, 2) := by decide +kernel
theorem dX3_readSum_19 : decode cX3_readSum 19 = .ok (.iload 5, 2) := by decide +kernel
theorem dX3_readSum_21 : decode cX3_readSum 21 = .ok (.iconst (-1), 1) := by decide +kernel
theorem dX3_readSum_22 : decode cX3_readSum 22 = .ok (.if_icmp .ne 9, 3) := by decide +kernel
theorem dX3_readSum_25 : decode cX3_readSum 25 = .ok (.aload_n 0, 1) := by decide +kernel
theorem dX3_readSum_26 : decode cX3_readSum 26 = .ok (.iconst 1, 1) := by decide +kernel
theorem dX3_readSum_27 : decode cX3_readSum 27 = .ok (.invokevirtual 82, 3) := by decide +kernel
theorem dX3_readSum_30 : decode cX3_readSum 30 = .ok (.ireturn, 1) := by decide +kernel
theorem dX3_readSum_31 : decode cX3_readSum 31 = .ok (.aload_n 0, 1) := by decide +kernel
theorem dX3_readSum_32 : decode cX3_readSum 32 = .ok (.getfield 19, 3) := by decide +kernel
theorem dX3_readSum_35 : decode cX3_readSum 35 = .ok (.iload_n 1, 1) := by decide +kernel
theorem dX3_readSum_36 : decode cX3_readSum 36 = .ok (.iload 5, 2) := by decide +kernel
theorem dX3_readSum_38 : decode cX3_readSum 38 = .ok (.iload 5, 2) := by decide +kernel
theorem dX3_readSum_40 : decode cX3_readSum 40 = .ok (.ifCond .ne 15, 3) := by decide +kernel
theorem dX3_readSum_43 : decode cX3_readSum 43 = .ok (.iload_n 3, 1) := by decide +kernel
theorem dX3_readSum_44 : decode cX3_readSum 44 = .ok (.aload_n 0, 1) := by decide +kernel
theorem dX3_readSum_45 : decode cX3_readSum 45 = .ok (.getfield 15, 3) := by decide +kernel
theorem dX3_readSum_48 : decode cX3_readSum 48 = .ok (.getfield 123, 3) := by decide +kernel
theorem dX3_readSum_51 : decode cX3_readSum 51 = .ok (.imul, 1) := by decide +kernel
theorem dX3_readSum_52 : decode cX3_readSum 52 = .ok (.goto 4, 3) := by decide +kernel
theorem dX3_readSum_55 : decode cX3_readSum 55 = .ok (.iload_n 3, 1) := by decide +kernel
theorem dX3_readSum_56 : decode cX3_readSum 56 = .ok (.invokevirtual 144, 3) := by decide +kernel
theorem dX3_readSum_59 : decode cX3_readSum 59 = .ok (.aload_n 0, 1) := by decide +kernel
theorem dX3_readSum_60 : decode cX3_readSum 60 = .ok (.getfield 15, 3) := by decide +kernel
theorem dX3_readSum_63 : decode cX3_readSum 63 = .ok (.invokevirtual 57, 3) := by decide +kernel
theorem dX3_readSum_66 : decode cX3_readSum 66 = .ok (.aload_n 0, 1) := by decide +kernel
theorem dX3_readSum_67 : decode cX3_readSum 67 = .ok (.getfield 15, 3) := by decide +kernel
theorem dX3_readSum_70 : decode cX3_readSum 70 = .ok (.getfield 41, 3) := by decide +kernel
theorem dX3_readSum_73 : decode cX3_readSum 73 = .ok (.bipush 43, 2) := by decide +kernel
theorem dX3_readSum_75 : decode cX3_readSum 75 = .ok (.if_icmp .eq 17, 3) := by decide +kernel
theorem dX3_readSum_78 : decode cX3_readSum 78 = .ok (.aload_n 0, 1) := by decide +kernel
theorem dX3_readSum_79 : decode cX3_readSum 79 = .ok (.getfield 15, 3) := by decide +kernel
theorem dX3_readSum_82 : decode cX3_readSum 82 = .ok (.getfield 41, 3) := by decide +kernel
theorem dX3_readSum_85 : decode cX3_readSum 85 = .ok (.bipush 45, 2) := by decide +kernel
theorem dX3_readSum_87 : decode cX3_readSum 87 = .ok (.if_icmp .eq 5, 3) := by decide +kernel
theorem dX3_readSum_90 : decode cX3_readSum 90 = .ok (.iconst 0, 1) := by decide +kernel
theorem dX3_readSum_91 : decode cX3_readSum 91 = .ok (.ireturn, 1) := by decide +kernel
theorem dX3_readSum_92 : decode cX3_readSum 92 = .ok (.aload_n 0, 1) := by decide +kernel
theorem dX3_readSum_93 : decode cX3_readSum 93 = .ok (.getfield 15, 3) := by decide +kernel
theorem dX3_readSum_96 : decode cX3_readSum 96 = .ok (.getfield 41, 3) := by decide +kernel
theorem dX3_readSum_99 : decode cX3_readSum 99 = .ok (.bipush 43, 2) := by decide +kernel
theorem dX3_readSum_101 : decode cX3_readSum 101 = .ok (.if_icmp .ne 7, 3) := by decide +kernel
theorem dX3_readSum_104 : decode cX3_readSum 104 = .ok (.iload_n 2, 1) := by decide +kernel
theorem dX3_readSum_105 : decode cX3_readSum 105 = .ok (.goto 5, 3) := by decide +kernel
theorem dX3_readSum_108 : decode cX3_readSum 108 = .ok (.iload_n 2, 1) := by decide +kernel
theorem dX3_readSum_109 : decode cX3_readSum 109 = .ok (.ineg, 1) := by decide +kernel
theorem dX3_readSum_110 : decode cX3_readSum 110 = .ok (.istore_n 3, 1) := by decide +kernel
theorem dX3_readSum_111 : decode cX3_readSum 111 = .ok (.aload_n 0, 1) := by decide +kernel
theorem dX3_readSum_112 : decode cX3_readSum 112 = .ok (.getfield 15, 3) := by decide +kernel
theorem dX3_readSum_115 : decode cX3_readSum 115 = .ok (.invokevirtual 57, 3) := by decide +kernel
theorem dX3_readSum_118 : decode cX3_readSum 118 = .ok (.iinc 4 1, 3) := by decide +kernel
theorem dX3_readSum_121 : decode cX3_readSum 121 = .ok (.goto (-116), 3) := by decide +kernel
theorem dX3_readSum_124 : decode cX3_readSum 124 = .ok (.iconst 0, 1) := by decide +kernel
theorem dX3_readSum_125 : decode cX3_readSum 125 = .ok (.ireturn, 1) := by decide +kernel
theorem dX3_verbHere_0 : decode cX3_verbHere 0 = .ok (.aload_n 0, 1) := by decide +kernel
theorem dX3_verbHere_1 : decode cX3_verbHere 1 = .ok (.getfield 15, 3) := by decide +kernel
theorem dX3_verbHere_4 : decode cX3_verbHere 4 = .ok (.ldc 96, 2) := by decide +kernel
theorem dX3_verbHere_6 : decode cX3_verbHere 6 = .ok (.invokevirtual 68, 3) := by decide +kernel
theorem dX3_verbHere_9 : decode cX3_verbHere 9 = .ok (.ifCond .eq 5, 3) := by decide +kernel
theorem dX3_verbHere_12 : decode cX3_verbHere 12 = .ok (.iconst 0, 1) := by decide +kernel
theorem dX3_verbHere_13 : decode cX3_verbHere 13 = .ok (.ireturn, 1) := by decide +kernel
theorem dX3_verbHere_14 : decode cX3_verbHere 14 = .ok (.aload_n 0, 1) := by decide +kernel
theorem dX3_verbHere_15 : decode cX3_verbHere 15 = .ok (.getfield 15, 3) := by decide +kernel
theorem dX3_verbHere_18 : decode cX3_verbHere 18 = .ok (.ldc 98, 2) := by decide +kernel
theorem dX3_verbHere_20 : decode cX3_verbHere 20 = .ok (.invokevirtual 68, 3) := by decide +kernel
theorem dX3_verbHere_23 : decode cX3_verbHere 23 = .ok (.ifCond .eq 5, 3) := by decide +kernel
theorem dX3_verbHere_26 : decode cX3_verbHere 26 = .ok (.iconst 1, 1) := by decide +kernel
theorem dX3_verbHere_27 : decode cX3_verbHere 27 = .ok (.ireturn, 1) := by decide +kernel
theorem dX3_verbHere_28 : decode cX3_verbHere 28 = .ok (.aload_n 0, 1) := by decide +kernel
theorem dX3_verbHere_29 : decode cX3_verbHere 29 = .ok (.getfield 15, 3) := by decide +kernel
theorem dX3_verbHere_32 : decode cX3_verbHere 32 = .ok (.ldc 100, 2) := by decide +kernel
theorem dX3_verbHere_34 : decode cX3_verbHere 34 = .ok (.invokevirtual 68, 3) := by decide +kernel
theorem dX3_verbHere_37 : decode cX3_verbHere 37 = .ok (.ifCond .eq 5, 3) := by decide +kernel
theorem dX3_verbHere_40 : decode cX3_verbHere 40 = .ok (.iconst 2, 1) := by decide +kernel
theorem dX3_verbHere_41 : decode cX3_verbHere 41 = .ok (.ireturn, 1) := by decide +kernel
theorem dX3_verbHere_42 : decode cX3_verbHere 42 = .ok (.aload_n 0, 1) := by decide +kernel
theorem dX3_verbHere_43 : decode cX3_verbHere 43 = .ok (.getfield 15, 3) := by decide +kernel
theorem dX3_verbHere_46 : decode cX3_verbHere 46 = .ok (.ldc 102, 2) := by decide +kernel
theorem dX3_verbHere_48 : decode cX3_verbHere 48 = .ok (.invokevirtual 68, 3) := by decide +kernel
theorem dX3_verbHere_51 : decode cX3_verbHere 51 = .ok (.ifCond .eq 5, 3) := by decide +kernel
theorem dX3_verbHere_54 : decode cX3_verbHere 54 = .ok (.iconst 3, 1) := by decide +kernel
theorem dX3_verbHere_55 : decode cX3_verbHere 55 = .ok (.ireturn, 1) := by decide +kernel
theorem dX3_verbHere_56 : decode cX3_verbHere 56 = .ok (.aload_n 0, 1) := by decide +kernel
theorem dX3_verbHere_57 : decode cX3_verbHere 57 = .ok (.getfield 15, 3) := by decide +kernel
theorem dX3_verbHere_60 : decode cX3_verbHere 60 = .ok (.ldc 104, 2) := by decide +kernel
theorem dX3_verbHere_62 : decode cX3_verbHere 62 = .ok (.invokevirtual 68, 3) := by decide +kernel
theorem dX3_verbHere_65 : decode cX3_verbHere 65 = .ok (.ifCond .eq 5, 3) := by decide +kernel
theorem dX3_verbHere_68 : decode cX3_verbHere 68 = .ok (.iconst 4, 1) := by decide +kernel
theorem dX3_verbHere_69 : decode cX3_verbHere 69 = .ok (.ireturn, 1) := by decide +kernel
theorem dX3_verbHere_70 : decode cX3_verbHere 70 = .ok (.aload_n 0, 1) := by decide +kernel
theorem dX3_verbHere_71 : decode cX3_verbHere 71 = .ok (.getfield 15, 3) := by decide +kernel
theorem dX3_verbHere_74 : decode cX3_verbHere 74 = .ok (.ldc 106, 2) := by decide +kernel
theorem dX3_verbHere_76 : decode cX3_verbHere 76 = .ok (.invokevirtual 68, 3) := by decide +kernel
theorem dX3_verbHere_79 : decode cX3_verbHere 79 = .ok (.ifCond .eq 5, 3) := by decide +kernel
theorem dX3_verbHere_82 : decode cX3_verbHere 82 = .ok (.iconst 5, 1) := by decide +kernel
theorem dX3_verbHere_83 : decode cX3_verbHere 83 = .ok (.ireturn, 1) := by decide +kernel
theorem dX3_verbHere_84 : decode cX3_verbHere 84 = .ok (.aload_n 0, 1) := by decide +kernel
theorem dX3_verbHere_85 : decode cX3_verbHere 85 = .ok (.getfield 15, 3) := by decide +kernel
theorem dX3_verbHere_88 : decode cX3_verbHere 88 = .ok (.ldc 108, 2) := by decide +kernel
theorem dX3_verbHere_90 : decode cX3_verbHere 90 = .ok (.invokevirtual 68, 3) := by decide +kernel
theorem dX3_verbHere_93 : decode cX3_verbHere 93 = .ok (.ifCond .eq 6, 3) := by decide +kernel
theorem dX3_verbHere_96 : decode cX3_verbHere 96 = .ok (.bipush 6, 2) := by decide +kernel
theorem dX3_verbHere_98 : decode cX3_verbHere 98 = .ok (.ireturn, 1) := by decide +kernel
theorem dX3_verbHere_99 : decode cX3_verbHere 99 = .ok (.aload_n 0, 1) := by decide +kernel
theorem dX3_verbHere_100 : decode cX3_verbHere 100 = .ok (.getfield 15, 3) := by decide +kernel
theorem dX3_verbHere_103 : decode cX3_verbHere 103 = .ok (.ldc 110, 2) := by decide +kernel
theorem dX3_verbHere_105 : decode cX3_verbHere 105 = .ok (.invokevirtual 68, 3) := by decide +kernel
theorem dX3_verbHere_108 : decode cX3_verbHere 108 = .ok (.ifCond .eq 6, 3) := by decide +kernel
theorem dX3_verbHere_111 : decode cX3_verbHere 111 = .ok (.bipush 7, 2) := by decide +kernel
theorem dX3_verbHere_113 : decode cX3_verbHere 113 = .ok (.ireturn, 1) := by decide +kernel
theorem dX3_verbHere_114 : decode cX3_verbHere 114 = .ok (.aload_n 0, 1) := by decide +kernel
theorem dX3_verbHere_115 : decode cX3_verbHere 115 = .ok (.getfield 15, 3) := by decide +kernel
theorem dX3_verbHere_118 : decode cX3_verbHere 118 = .ok (.ldc 112, 2) := by decide +kernel
theorem dX3_verbHere_120 : decode cX3_verbHere 120 = .ok (.invokevirtual 68, 3) := by decide +kernel
theorem dX3_verbHere_123 : decode cX3_verbHere 123 = .ok (.ifCond .eq 8, 3) := by decide +kernel
theorem dX3_verbHere_126 : decode cX3_verbHere 126 = .ok (.bipush 8, 2) := by decide +kernel
theorem dX3_verbHere_128 : decode cX3_verbHere 128 = .ok (.goto 4, 3) := by decide +kernel
theorem dX3_verbHere_131 : decode cX3_verbHere 131 = .ok (.iconst (-1), 1) := by decide +kernel
theorem dX3_verbHere_132 : decode cX3_verbHere 132 = .ok (.ireturn, 1) := by decide +kernel
theorem dX4_become_0 : decode cX4_become 0 = .ok (.aload_n 0, 1) := by decide +kernel
theorem dX4_become_1 : decode cX4_become 1 = .ok (.getfield 11, 3) := by decide +kernel
theorem dX4_become_4 : decode cX4_become 4 = .ok (.iload_n 1, 1) := by decide +kernel
theorem dX4_become_5 : decode cX4_become 5 = .ok (.iload_n 2, 1) := by decide +kernel
theorem dX4_become_6 : decode cX4_become 6 = .ok (.iastore, 1) := by decide +kernel
theorem dX4_become_7 : decode cX4_become 7 = .ok (.aload_n 0, 1) := by decide +kernel
theorem dX4_become_8 : decode cX4_become 8 = .ok (.getfield 15, 3) := by decide +kernel
theorem dX4_become_11 : decode cX4_become 11 = .ok (.iconst 2, 1) := by decide +kernel
theorem dX4_become_12 : decode cX4_become 12 = .ok (.iload_n 1, 1) := by decide +kernel
theorem dX4_become_13 : decode cX4_become 13 = .ok (.imul, 1) := by decide +kernel
theorem dX4_become_14 : decode cX4_become 14 = .ok (.iload_n 3, 1) := by decide +kernel
theorem dX4_become_15 : decode cX4_become 15 = .ok (.iastore, 1) := by decide +kernel
theorem dX4_become_16 : decode cX4_become 16 = .ok (.aload_n 0, 1) := by decide +kernel
theorem dX4_become_17 : decode cX4_become 17 = .ok (.getfield 15, 3) := by decide +kernel
theorem dX4_become_20 : decode cX4_become 20 = .ok (.iconst 2, 1) := by decide +kernel
theorem dX4_become_21 : decode cX4_become 21 = .ok (.iload_n 1, 1) := by decide +kernel
theorem dX4_become_22 : decode cX4_become 22 = .ok (.imul, 1) := by decide +kernel
theorem dX4_become_23 : decode cX4_become 23 = .ok (.iconst 1, 1) := by decide +kernel
theorem dX4_become_24 : decode cX4_become 24 = .ok (.iadd, 1) := by decide +kernel
theorem dX4_become_25 : decode cX4_become 25 = .ok (.iload_n 3, 1) := by decide +kernel
theorem dX4_become_26 : decode cX4_become 26 = .ok (.iastore, 1) := by decide +kernel
theorem dX4_become_27 : decode cX4_become 27 = .ok (.return_, 1) := by decide +kernel
theorem dX4_draw_0 : decode cX4_draw 0 = .ok (.iconst 0, 1) := by decide +kernel
theorem dX4_draw_1 : decode cX4_draw 1 = .ok (.istore_n 3, 1) := by decide +kernel
theorem dX4_draw_2 : decode cX4_draw 2 = .ok (.iconst 0, 1) := by decide +kernel
theorem dX4_draw_3 : decode cX4_draw 3 = .ok (.istore 4, 2) := by decide +kernel
theorem dX4_draw_5 : decode cX4_draw 5 = .ok (.iload 4, 2) := by decide +kernel
theorem dX4_draw_7 : decode cX4_draw 7 = .ok (.bipush 9, 2) := by decide +kernel
theorem dX4_draw_9 : decode cX4_draw 9 = .ok (.if_icmp .ge 31, 3) := by decide +kernel
theorem dX4_draw_12 : decode cX4_draw 12 = .ok (.aload_n 0, 1) := by decide +kernel
theorem dX4_draw_13 : decode cX4_draw 13 = .ok (.getfield 11, 3) := by decide +kernel
theorem dX4_draw_16 : decode cX4_draw 16 = .ok (.iload 4, 2) := by decide +kernel
theorem dX4_draw_18 : decode cX4_draw 18 = .ok (.iaload, 1) := by decide +kernel
theorem dX4_draw_19 : decode cX4_draw 19 = .ok (.iconst 1, 1) := by decide +kernel
theorem dX4_draw_20 : decode cX4_draw 20 = .ok (.if_icmp .ne 14, 3) := by decide +kernel
theorem dX4_draw_23 : decode cX4_draw 23 = .ok (.iload_n 3, 1) := by decide +kernel
theorem dX4_draw_24 : decode cX4_draw 24 = .ok (.aload_n 0, 1) := by decide +kernel
theorem dX4_draw_25 : decode cX4_draw 25 = .ok (.iload 4, 2) := by decide +kernel
theorem dX4_draw_27 : decode cX4_draw 27 = .ok (.iload_n 1, 1) := by decide +kernel
theorem dX4_draw_28 : decode cX4_draw 28 = .ok (.iload_n 2, 1) := by decide +kernel
theorem dX4_draw_29 : decode cX4_draw 29 = .ok (.invokevirtual 54, 3) := by decide +kernel
theorem dX4_draw_32 : decode cX4_draw 32 = .ok (.iadd, 1) := by decide +kernel
theorem dX4_draw_33 : decode cX4_draw 33 = .ok (.istore_n 3, 1) := by decide +kernel
theorem dX4_draw_34 : decode cX4_draw 34 = .ok (.iinc 4 1, 3) := by decide +kernel
theorem dX4_draw_37 : decode cX4_draw 37 = .ok (.goto (-32), 3) := by decide +kernel
theorem dX4_draw_40 : decode cX4_draw 40 = .ok (.iload_n 3, 1) := by decide +kernel
theorem dX4_draw_41 : decode cX4_draw 41 = .ok (.ireturn, 1) := by decide +kernel
theorem dX4_drawOf_0 : decode cX4_drawOf 0 = .ok (.getstatic 58, 3) := by decide +kernel
theorem dX4_drawOf_3 : decode cX4_drawOf 3 = .ok (.iload_n 1, 1) := by decide +kernel
theorem dX4_drawOf_4 : decode cX4_drawOf 4 = .ok (.iconst 3, 1) := by decide +kernel
theorem dX4_drawOf_5 : decode cX4_drawOf 5 = .ok (.irem, 1) := by decide +kernel
theorem dX4_drawOf_6 : decode cX4_drawOf 6 = .ok (.iaload, 1) := by decide +kernel
theorem dX4_drawOf_7 : decode cX4_drawOf 7 = .ok (.iload_n 3, 1) := by decide +kernel
theorem dX4_drawOf_8 : decode cX4_drawOf 8 = .ok (.imul, 1) := by decide +kernel
theorem dX4_drawOf_9 : decode cX4_drawOf 9 = .ok (.istore 4, 2) := by decide +kernel
theorem dX4_drawOf_11 : decode cX4_drawOf 11 = .ok (.iload_n 2, 1) := by decide +kernel
theorem dX4_drawOf_12 : decode cX4_drawOf 12 = .ok (.invokestatic 61, 3) := by decide +kernel
theorem dX4_drawOf_15 : decode cX4_drawOf 15 = .ok (.ifCond .eq 9, 3) := by decide +kernel
theorem dX4_drawOf_18 : decode cX4_drawOf 18 = .ok (.iload 4, 2) := by decide +kernel
theorem dX4_drawOf_20 : decode cX4_drawOf 20 = .ok (.iconst 4, 1) := by decide +kernel
theorem dX4_drawOf_21 : decode cX4_drawOf 21 = .ok (.idiv, 1) := by decide +kernel
theorem dX4_drawOf_22 : decode cX4_drawOf 22 = .ok (.ineg, 1) := by decide +kernel
theorem dX4_drawOf_23 : decode cX4_drawOf 23 = .ok (.ireturn, 1) := by decide +kernel
theorem dX4_drawOf_24 : decode cX4_drawOf 24 = .ok (.aload_n 0, 1) := by decide +kernel
theorem dX4_drawOf_25 : decode cX4_drawOf 25 = .ok (.getfield 21, 3) := by decide +kernel
theorem dX4_drawOf_28 : decode cX4_drawOf 28 = .ok (.iload_n 1, 1) := by decide +kernel
theorem dX4_drawOf_29 : decode cX4_drawOf 29 = .ok (.iconst 3, 1) := by decide +kernel
theorem dX4_drawOf_30 : decode cX4_drawOf 30 = .ok (.idiv, 1) := by decide +kernel
theorem dX4_drawOf_31 : decode cX4_drawOf 31 = .ok (.iaload, 1) := by decide +kernel
theorem dX4_drawOf_32 : decode cX4_drawOf 32 = .ok (.iload_n 2, 1) := by decide +kernel
theorem dX4_drawOf_33 : decode cX4_drawOf 33 = .ok (.invokestatic 66, 3) := by decide +kernel
theorem dX4_drawOf_36 : decode cX4_drawOf 36 = .ok (.isub, 1) := by decide +kernel
theorem dX4_drawOf_37 : decode cX4_drawOf 37 = .ok (.invokestatic 33, 3) := by decide +kernel
theorem dX4_drawOf_40 : decode cX4_drawOf 40 = .ok (.istore 5, 2) := by decide +kernel
theorem dX4_drawOf_42 : decode cX4_drawOf 42 = .ok (.iload 4, 2) := by decide +kernel
theorem dX4_drawOf_44 : decode cX4_drawOf 44 = .ok (.iload_n 2, 1) := by decide +kernel
theorem dX4_drawOf_45 : decode cX4_drawOf 45 = .ok (.invokestatic 69, 3) := by decide +kernel
theorem dX4_drawOf_48 : decode cX4_drawOf 48 = .ok (.imul, 1) := by decide +kernel
theorem dX4_drawOf_49 : decode cX4_drawOf 49 = .ok (.iconst 0, 1) := by decide +kernel
theorem dX4_drawOf_50 : decode cX4_drawOf 50 = .ok (.bipush 8, 2) := by decide +kernel
theorem dX4_drawOf_52 : decode cX4_drawOf 52 = .ok (.iconst 2, 1) := by decide +kernel
theorem dX4_drawOf_53 : decode cX4_drawOf 53 = .ok (.iload 5, 2) := by decide +kernel
theorem dX4_drawOf_55 : decode cX4_drawOf 55 = .ok (.imul, 1) := by decide +kernel
theorem dX4_drawOf_56 : decode cX4_drawOf 56 = .ok (.isub, 1) := by decide +kernel
theorem dX4_drawOf_57 : decode cX4_drawOf 57 = .ok (.invokestatic 72, 3) := by decide +kernel
theorem dX4_drawOf_60 : decode cX4_drawOf 60 = .ok (.imul, 1) := by decide +kernel
theorem dX4_drawOf_61 : decode cX4_drawOf 61 = .ok (.bipush 64, 2) := by decide +kernel
theorem dX4_drawOf_63 : decode cX4_drawOf 63 = .ok (.idiv, 1) := by decide +kernel
theorem dX4_drawOf_64 : decode cX4_drawOf 64 = .ok (.ireturn, 1) := by decide +kernel
theorem dX4_finish_0 : decode cX4_finish 0 = .ok (.aload_n 0, 1) := by decide +kernel
theorem dX4_finish_1 : decode cX4_finish 1 = .ok (.iload_n 1, 1) := by decide +kernel
theorem dX4_finish_2 : decode cX4_finish 2 = .ok (.iload_n 2, 1) := by decide +kernel
theorem dX4_finish_3 : decode cX4_finish 3 = .ok (.iconst (-1), 1) := by decide +kernel
theorem dX4_finish_4 : decode cX4_finish 4 = .ok (.invokevirtual 43, 3) := by decide +kernel
theorem dX4_finish_7 : decode cX4_finish 7 = .ok (.iload_n 1, 1) := by decide +kernel
theorem dX4_finish_8 : decode cX4_finish 8 = .ok (.tableswitch 58 0 2 #[28, 38, 48], 28) := by decide +kernel
theorem dX4_finish_36 : decode cX4_finish 36 = .ok (.aload_n 0, 1) := by decide +kernel
theorem dX4_finish_37 : decode cX4_finish 37 = .ok (.iload_n 2, 1) := by decide +kernel
theorem dX4_finish_38 : decode cX4_finish 38 = .ok (.iconst 1, 1) := by decide +kernel
theorem dX4_finish_39 : decode cX4_finish 39 = .ok (.iconst 1, 1) := by decide +kernel
theorem dX4_finish_40 : decode cX4_finish 40 = .ok (.invokevirtual 47, 3) := by decide +kernel
theorem dX4_finish_43 : decode cX4_finish 43 = .ok (.goto 28, 3) := by decide +kernel
theorem dX4_finish_46 : decode cX4_finish 46 = .ok (.aload_n 0, 1) := by decide +kernel
theorem dX4_finish_47 : decode cX4_finish 47 = .ok (.iload_n 2, 1) := by decide +kernel
theorem dX4_finish_48 : decode cX4_finish 48 = .ok (.iconst 0, 1) := by decide +kernel
theorem dX4_finish_49 : decode cX4_finish 49 = .ok (.iconst 0, 1) := by decide +kernel
theorem dX4_finish_50 : decode cX4_finish 50 = .ok (.invokevirtual 47, 3) := by decide +kernel
theorem dX4_finish_53 : decode cX4_finish 53 = .ok (.goto 18, 3) := by decide +kernel
theorem dX4_finish_56 : decode cX4_finish 56 = .ok (.aload_n 0, 1) := by decide +kernel
theorem dX4_finish_57 : decode cX4_finish 57 = .ok (.getfield 21, 3) := by decide +kernel
theorem dX4_finish_60 : decode cX4_finish 60 = .ok (.iload_n 2, 1) := by decide +kernel
theorem dX4_finish_61 : decode cX4_finish 61 = .ok (.iload_n 3, 1) := by decide +kernel
theorem dX4_finish_62 : decode cX4_finish 62 = .ok (.iastore, 1) := by decide +kernel
theorem dX4_finish_63 : decode cX4_finish 63 = .ok (.goto 8, 3) := by decide +kernel
theorem dX4_finish_66 : decode cX4_finish 66 = .ok (.aload_n 0, 1) := by decide +kernel
theorem dX4_finish_67 : decode cX4_finish 67 = .ok (.iload_n 2, 1) := by decide +kernel
theorem dX4_finish_68 : decode cX4_finish 68 = .ok (.invokevirtual 50, 3) := by decide +kernel
theorem dX4_finish_71 : decode cX4_finish 71 = .ok (.return_, 1) := by decide +kernel
theorem dX4_greatestWear_0 : decode cX4_greatestWear 0 = .ok (.iconst 0, 1) := by decide +kernel
theorem dX4_greatestWear_1 : decode cX4_greatestWear 1 = .ok (.istore_n 1, 1) := by decide +kernel
theorem dX4_greatestWear_2 : decode cX4_greatestWear 2 = .ok (.iconst 0, 1) := by decide +kernel
theorem dX4_greatestWear_3 : decode cX4_greatestWear 3 = .ok (.istore_n 2, 1) := by decide +kernel
theorem dX4_greatestWear_4 : decode cX4_greatestWear 4 = .ok (.iload_n 2, 1) := by decide +kernel
theorem dX4_greatestWear_5 : decode cX4_greatestWear 5 = .ok (.bipush 18, 2) := by decide +kernel
theorem dX4_greatestWear_7 : decode cX4_greatestWear 7 = .ok (.if_icmp .ge 30, 3) := by decide +kernel
theorem dX4_greatestWear_10 : decode cX4_greatestWear 10 = .ok (.aload_n 0, 1) := by decide +kernel
theorem dX4_greatestWear_11 : decode cX4_greatestWear 11 = .ok (.getfield 15, 3) := by decide +kernel
theorem dX4_greatestWear_14 : decode cX4_greatestWear 14 = .ok (.iload_n 2, 1) := by decide +kernel
theorem dX4_greatestWear_15 : decode cX4_greatestWear 15 = .ok (.iaload, 1) := by decide +kernel
theorem dX4_greatestWear_16 : decode cX4_greatestWear 16 = .ok (.iconst 1, 1) := by decide +kernel
theorem dX4_greatestWear_17 : decode cX4_greatestWear 17 = .ok (.if_icmp .ne 14, 3) := by decide +kernel
theorem dX4_greatestWear_20 : decode cX4_greatestWear 20 = .ok (.iload_n 1, 1) := by decide +kernel
theorem dX4_greatestWear_21 : decode cX4_greatestWear 21 = .ok (.aload_n 0, 1) := by decide +kernel
theorem dX4_greatestWear_22 : decode cX4_greatestWear 22 = .ok (.getfield 18, 3) := by decide +kernel
theorem dX4_greatestWear_25 : decode cX4_greatestWear 25 = .ok (.iload_n 2, 1) := by decide +kernel
theorem dX4_greatestWear_26 : decode cX4_greatestWear 26 = .ok (.iaload, 1) := by decide +kernel
theorem dX4_greatestWear_27 : decode cX4_greatestWear 27 = .ok (.invokestatic 72, 3) := by decide +kernel
theorem dX4_greatestWear_30 : decode cX4_greatestWear 30 = .ok (.istore_n 1, 1) := by decide +kernel
theorem dX4_greatestWear_31 : decode cX4_greatestWear 31 = .ok (.iinc 2 1, 3) := by decide +kernel
theorem dX4_greatestWear_34 : decode cX4_greatestWear 34 = .ok (.goto (-30), 3) := by decide +kernel
theorem dX4_greatestWear_37 : decode cX4_greatestWear 37 = .ok (.iload_n 1, 1) := by decide +kernel
theorem dX4_greatestWear_38 : decode cX4_greatestWear 38 = .ok (.ireturn, 1) := by decide +kernel
theorem dX4_handsFor_0 : decode cX4_handsFor 0 = .ok (.iload_n 0, 1) := by decide +kernel
theorem dX4_handsFor_1 : decode cX4_handsFor 1 = .ok (.tableswitch 33 0 2 #[27, 29, 31], 27) := by decide +kernel
theorem dX4_handsFor_28 : decode cX4_handsFor 28 = .ok (.iconst 3, 1) := by decide +kernel
theorem dX4_handsFor_29 : decode cX4_handsFor 29 = .ok (.ireturn, 1) := by decide +kernel
theorem dX4_handsFor_30 : decode cX4_handsFor 30 = .ok (.iconst 4, 1) := by decide +kernel
theorem dX4_handsFor_31 : decode cX4_handsFor 31 = .ok (.ireturn, 1) := by decide +kernel
theorem dX4_handsFor_32 : decode cX4_handsFor 32 = .ok (.iconst 5, 1) := by decide +kernel
theorem dX4_handsFor_33 : decode cX4_handsFor 33 = .ok (.ireturn, 1) := by decide +kernel
theorem dX4_handsFor_34 : decode cX4_handsFor 34 = .ok (.iconst 2, 1) := by decide +kernel
theorem dX4_handsFor_35 : decode cX4_handsFor 35 = .ok (.ireturn, 1) := by decide +kernel
theorem dX4_hasParted_0 : decode cX4_hasParted 0 = .ok (.aload_n 0, 1) := by decide +kernel
theorem dX4_hasParted_1 : decode cX4_hasParted 1 = .ok (.getfield 15, 3) := by decide +kernel
theorem dX4_hasParted_4 : decode cX4_hasParted 4 = .ok (.iconst 2, 1) := by decide +kernel
theorem dX4_hasParted_5 : decode cX4_hasParted 5 = .ok (.iload_n 1, 1) := by decide +kernel
theorem dX4_hasParted_6 : decode cX4_hasParted 6 = .ok (.imul, 1) := by decide +kernel
theorem dX4_hasParted_7 : decode cX4_hasParted 7 = .ok (.iaload, 1) := by decide +kernel
theorem dX4_hasParted_8 : decode cX4_hasParted 8 = .ok (.iconst 2, 1) := by decide +kernel
theorem dX4_hasParted_9 : decode cX4_hasParted 9 = .ok (.if_icmp .eq 17, 3) := by decide +kernel
theorem dX4_hasParted_12 : decode cX4_hasParted 12 = .ok (.aload_n 0, 1) := by decide +kernel
theorem dX4_hasParted_13 : decode cX4_hasParted 13 = .ok (.getfield 15, 3) := by decide +kernel
theorem dX4_hasParted_16 : decode cX4_hasParted 16 = .ok (.iconst 2, 1) := by decide +kernel
theorem dX4_hasParted_17 : decode cX4_hasParted 17 = .ok (.iload_n 1, 1) := by decide +kernel
theorem dX4_hasParted_18 : decode cX4_hasParted 18 = .ok (.imul, 1) := by decide +kernel
theorem dX4_hasParted_19 : decode cX4_hasParted 19 = .ok (.iconst 1, 1) := by decide +kernel
theorem dX4_hasParted_20 : decode cX4_hasParted 20 = .ok (.iadd, 1) := by decide +kernel
theorem dX4_hasParted_21 : decode cX4_hasParted 21 = .ok (.iaload, 1) := by decide +kernel
theorem dX4_hasParted_22 : decode cX4_hasParted 22 = .ok (.iconst 2, 1) := by decide +kernel
theorem dX4_hasParted_23 : decode cX4_hasParted 23 = .ok (.if_icmp .ne 7, 3) := by decide +kernel
theorem dX4_hasParted_26 : decode cX4_hasParted 26 = .ok (.iconst 1, 1) := by decide +kernel
theorem dX4_hasParted_27 : decode cX4_hasParted 27 = .ok (.goto 4, 3) := by decide +kernel
theorem dX4_hasParted_30 : decode cX4_hasParted 30 = .ok (.iconst 0, 1) := by decide +kernel
theorem dX4_hasParted_31 : decode cX4_hasParted 31 = .ok (.ireturn, 1) := by decide +kernel
theorem dX4_init_0 : decode cX4_init 0 = .ok (.aload_n 0, 1) := by decide +kernel
theorem dX4_init_1 : decode cX4_init 1 = .ok (.invokespecial 3, 3) := by decide +kernel
theorem dX4_init_4 : decode cX4_init 4 = .ok (.aload_n 0, 1) := by decide +kernel
theorem dX4_init_5 : decode cX4_init 5 = .ok (.bipush 9, 2) := by decide +kernel
theorem dX4_init_7 : decode cX4_init 7 = .ok (.newarray .int, 2) := by decide +kernel
theorem dX4_init_9 : decode cX4_init 9 = .ok (.putfield 11, 3) := by decide +kernel
theorem dX4_init_12 : decode cX4_init 12 = .ok (.aload_n 0, 1) := by decide +kernel
theorem dX4_init_13 : decode cX4_init 13 = .ok (.bipush 18, 2) := by decide +kernel
