theorem dJ9_max_7cf53_0 : decode cJ9_max_7cf53 0 = .ok (.iload_n 0, 1) := by decide +kernel
theorem dJ9_max_7cf53_1 : decode cJ9_max_7cf53 1 = .ok (.iload_n 1, 1) := by decide +kernel
theorem dJ9_max_7cf53_2 : decode cJ9_max_7cf53 2 = .ok (.if_icmp .lt 7, 3) := by decide +kernel
theorem dJ9_max_7cf53_5 : decode cJ9_max_7cf53 5 = .ok (.iload_n 0, 1) := by decide +kernel
theorem dJ9_max_7cf53_6 : decode cJ9_max_7cf53 6 = .ok (.goto 4, 3) := by decide +kernel
theorem dJ9_max_7cf53_9 : decode cJ9_max_7cf53 9 = .ok (.iload_n 1, 1) := by decide +kernel
theorem dJ9_max_7cf53_10 : decode cJ9_max_7cf53 10 = .ok (.ireturn, 1) := by decide +kernel
theorem dJ9_max_f86c9_0 : decode cJ9_max_f86c9 0 = .ok (.lload_n 0, 1) := by decide +kernel
theorem dJ9_max_f86c9_1 : decode cJ9_max_f86c9 1 = .ok (.lload_n 2, 1) := by decide +kernel
theorem dJ9_max_f86c9_2 : decode cJ9_max_f86c9 2 = .ok (.lcmp, 1) := by decide +kernel
theorem dJ9_max_f86c9_3 : decode cJ9_max_f86c9 3 = .ok (.ifCond .lt 7, 3) := by decide +kernel
theorem dJ9_max_f86c9_6 : decode cJ9_max_f86c9 6 = .ok (.lload_n 0, 1) := by decide +kernel
theorem dJ9_max_f86c9_7 : decode cJ9_max_f86c9 7 = .ok (.goto 4, 3) := by decide +kernel
theorem dJ9_max_f86c9_10 : decode cJ9_max_f86c9 10 = .ok (.lload_n 2, 1) := by decide +kernel
theorem dJ9_max_f86c9_11 : decode cJ9_max_f86c9 11 = .ok (.lreturn, 1) := by decide +kernel
theorem dJ9_min_7cf53_0 : decode cJ9_min_7cf53 0 = .ok (.iload_n 0, 1) := by decide +kernel
theorem dJ9_min_7cf53_1 : decode cJ9_min_7cf53 1 = .ok (.iload_n 1, 1) := by decide +kernel
theorem dJ9_min_7cf53_2 : decode cJ9_min_7cf53 2 = .ok (.if_icmp .gt 7, 3) := by decide +kernel
theorem dJ9_min_7cf53_5 : decode cJ9_min_7cf53 5 = .ok (.iload_n 0, 1) := by decide +kernel
theorem dJ9_min_7cf53_6 : decode cJ9_min_7cf53 6 = .ok (.goto 4, 3) := by decide +kernel
theorem dJ9_min_7cf53_9 : decode cJ9_min_7cf53 9 = .ok (.iload_n 1, 1) := by decide +kernel
theorem dJ9_min_7cf53_10 : decode cJ9_min_7cf53 10 = .ok (.ireturn, 1) := by decide +kernel
theorem dJ9_min_f86c9_0 : decode cJ9_min_f86c9 0 = .ok (.lload_n 0, 1) := by decide +kernel
theorem dJ9_min_f86c9_1 : decode cJ9_min_f86c9 1 = .ok (.lload_n 2, 1) := by decide +kernel
theorem dJ9_min_f86c9_2 : decode cJ9_min_f86c9 2 = .ok (.lcmp, 1) := by decide +kernel
theorem dJ9_min_f86c9_3 : decode cJ9_min_f86c9 3 = .ok (.ifCond .gt 7, 3) := by decide +kernel
theorem dJ9_min_f86c9_6 : decode cJ9_min_f86c9 6 = .ok (.lload_n 0, 1) := by decide +kernel
theorem dJ9_min_f86c9_7 : decode cJ9_min_f86c9 7 = .ok (.goto 4, 3) := by decide +kernel
theorem dJ9_min_f86c9_10 : decode cJ9_min_f86c9 10 = .ok (.lload_n 2, 1) := by decide +kernel
theorem dJ9_min_f86c9_11 : decode cJ9_min_f86c9 11 = .ok (.lreturn, 1) := by decide +kernel
theorem dJ0_length_8abf5_0 : decode cJ0_length_8abf5 0 = .ok (.aload_n 0, 1) := by decide +kernel
theorem dJ0_length_8abf5_1 : decode cJ0_length_8abf5 1 = .ok (.getfield 9, 3) := by decide +kernel
theorem dJ0_length_8abf5_4 : decode cJ0_length_8abf5 4 = .ok (.arraylength, 1) := by decide +kernel
theorem dJ0_length_8abf5_5 : decode cJ0_length_8abf5 5 = .ok (.aload_n 0, 1) := by decide +kernel
theorem dJ0_length_8abf5_6 : decode cJ0_length_8abf5 6 = .ok (.invokevirtual 335, 3) := by decide +kernel
theorem dJ0_length_8abf5_9 : decode cJ0_length_8abf5 9 = .ok (.ishr, 1) := by decide +kernel
theorem dJ0_length_8abf5_10 : decode cJ0_length_8abf5 10 = .ok (.ireturn, 1) := by decide +kernel
theorem dJ0_charAt_5068e_0 : decode cJ0_charAt_5068e 0 = .ok (.aload_n 0, 1) := by decide +kernel
theorem dJ0_charAt_5068e_1 : decode cJ0_charAt_5068e 1 = .ok (.invokevirtual 492, 3) := by decide +kernel
theorem dJ0_charAt_5068e_4 : decode cJ0_charAt_5068e 4 = .ok (.ifCond .eq 12, 3) := by decide +kernel
theorem dJ0_charAt_5068e_7 : decode cJ0_charAt_5068e 7 = .ok (.aload_n 0, 1) := by decide +kernel
theorem dJ0_charAt_5068e_8 : decode cJ0_charAt_5068e 8 = .ok (.getfield 9, 3) := by decide +kernel
theorem dJ0_charAt_5068e_11 : decode cJ0_charAt_5068e 11 = .ok (.iload_n 1, 1) := by decide +kernel
theorem dJ0_charAt_5068e_12 : decode cJ0_charAt_5068e 12 = .ok (.invokestatic 495, 3) := by decide +kernel
theorem dJ0_charAt_5068e_15 : decode cJ0_charAt_5068e 15 = .ok (.ireturn, 1) := by decide +kernel
theorem dJ0_charAt_5068e_16 : decode cJ0_charAt_5068e 16 = .ok (.aload_n 0, 1) := by decide +kernel
theorem dJ0_charAt_5068e_17 : decode cJ0_charAt_5068e 17 = .ok (.getfield 9, 3) := by decide +kernel
theorem dJ0_charAt_5068e_20 : decode cJ0_charAt_5068e 20 = .ok (.iload_n 1, 1) := by decide +kernel
theorem dJ0_charAt_5068e_21 : decode cJ0_charAt_5068e 21 = .ok (.invokestatic 498, 3) := by decide +kernel
theorem dJ0_charAt_5068e_24 : decode cJ0_charAt_5068e 24 = .ok (.ireturn, 1) := by decide +kernel
theorem dJ0_coder_7d493_0 : decode cJ0_coder_7d493 0 = .ok (.getstatic 38, 3) := by decide +kernel
theorem dJ0_coder_7d493_3 : decode cJ0_coder_7d493 3 = .ok (.ifCond .eq 10, 3) := by decide +kernel
theorem dJ0_coder_7d493_6 : decode cJ0_coder_7d493 6 = .ok (.aload_n 0, 1) := by decide +kernel
theorem dJ0_coder_7d493_7 : decode cJ0_coder_7d493 7 = .ok (.getfield 15, 3) := by decide +kernel
theorem dJ0_coder_7d493_10 : decode cJ0_coder_7d493 10 = .ok (.goto 4, 3) := by decide +kernel
theorem dJ0_coder_7d493_13 : decode cJ0_coder_7d493 13 = .ok (.iconst 1, 1) := by decide +kernel
theorem dJ0_coder_7d493_14 : decode cJ0_coder_7d493 14 = .ok (.ireturn, 1) := by decide +kernel
theorem dJ0_isLatin1_aae02_0 : decode cJ0_isLatin1_aae02 0 = .ok (.getstatic 38, 3) := by decide +kernel
theorem dJ0_isLatin1_aae02_3 : decode cJ0_isLatin1_aae02 3 = .ok (.ifCond .eq 14, 3) := by decide +kernel
theorem dJ0_isLatin1_aae02_6 : decode cJ0_isLatin1_aae02 6 = .ok (.aload_n 0, 1) := by decide +kernel
theorem dJ0_isLatin1_aae02_7 : decode cJ0_isLatin1_aae02 7 = .ok (.getfield 15, 3) := by decide +kernel
theorem dJ0_isLatin1_aae02_10 : decode cJ0_isLatin1_aae02 10 = .ok (.ifCond .ne 7, 3) := by decide +kernel
theorem dJ0_isLatin1_aae02_13 : decode cJ0_isLatin1_aae02 13 = .ok (.iconst 1, 1) := by decide +kernel
theorem dJ0_isLatin1_aae02_14 : decode cJ0_isLatin1_aae02 14 = .ok (.goto 4, 3) := by decide +kernel
theorem dJ0_isLatin1_aae02_17 : decode cJ0_isLatin1_aae02 17 = .ok (.iconst 0, 1) := by decide +kernel
theorem dJ0_isLatin1_aae02_18 : decode cJ0_isLatin1_aae02 18 = .ok (.ireturn, 1) := by decide +kernel
theorem dJ0_checkIndex_df160_0 : decode cJ0_checkIndex_df160 0 = .ok (.iload_n 0, 1) := by decide +kernel
theorem dJ0_checkIndex_df160_1 : decode cJ0_checkIndex_df160 1 = .ok (.iload_n 1, 1) := by decide +kernel
theorem dJ0_checkIndex_df160_2 : decode cJ0_checkIndex_df160 2 = .ok (.getstatic 1053, 3) := by decide +kernel
theorem dJ0_checkIndex_df160_5 : decode cJ0_checkIndex_df160 5 = .ok (.invokestatic 1059, 3) := by decide +kernel
theorem dJ0_checkIndex_df160_8 : decode cJ0_checkIndex_df160 8 = .ok (.pop, 1) := by decide +kernel
theorem dJ0_checkIndex_df160_9 : decode cJ0_checkIndex_df160 9 = .ok (.return_, 1) := by decide +kernel
theorem dJ1_charAt_3b067_0 : decode cJ1_charAt_3b067 0 = .ok (.iload_n 1, 1) := by decide +kernel
theorem dJ1_charAt_3b067_1 : decode cJ1_charAt_3b067 1 = .ok (.aload_n 0, 1) := by decide +kernel
theorem dJ1_charAt_3b067_2 : decode cJ1_charAt_3b067 2 = .ok (.arraylength, 1) := by decide +kernel
theorem dJ1_charAt_3b067_3 : decode cJ1_charAt_3b067 3 = .ok (.invokestatic 9, 3) := by decide +kernel
theorem dJ1_charAt_3b067_6 : decode cJ1_charAt_3b067 6 = .ok (.aload_n 0, 1) := by decide +kernel
theorem dJ1_charAt_3b067_7 : decode cJ1_charAt_3b067 7 = .ok (.iload_n 1, 1) := by decide +kernel
theorem dJ1_charAt_3b067_8 : decode cJ1_charAt_3b067 8 = .ok (.baload, 1) := by decide +kernel
theorem dJ1_charAt_3b067_9 : decode cJ1_charAt_3b067 9 = .ok (.sipush 255, 3) := by decide +kernel
theorem dJ1_charAt_3b067_12 : decode cJ1_charAt_3b067 12 = .ok (.iand, 1) := by decide +kernel
theorem dJ1_charAt_3b067_13 : decode cJ1_charAt_3b067 13 = .ok (.i2c, 1) := by decide +kernel
theorem dJ1_charAt_3b067_14 : decode cJ1_charAt_3b067 14 = .ok (.ireturn, 1) := by decide +kernel
theorem dJ2_getChar_3b067_0 : decode cJ2_getChar_3b067 0 = .ok (.getstatic 44, 3) := by decide +kernel
theorem dJ2_getChar_3b067_3 : decode cJ2_getChar_3b067 3 = .ok (.ifCond .ne 25, 3) := by decide +kernel
theorem dJ2_getChar_3b067_6 : decode cJ2_getChar_3b067 6 = .ok (.iload_n 1, 1) := by decide +kernel
theorem dJ2_getChar_3b067_7 : decode cJ2_getChar_3b067 7 = .ok (.ifCond .lt 11, 3) := by decide +kernel
theorem dJ2_getChar_3b067_10 : decode cJ2_getChar_3b067 10 = .ok (.iload_n 1, 1) := by decide +kernel
theorem dJ2_getChar_3b067_11 : decode cJ2_getChar_3b067 11 = .ok (.aload_n 0, 1) := by decide +kernel
theorem dJ2_getChar_3b067_12 : decode cJ2_getChar_3b067 12 = .ok (.invokestatic 48, 3) := by decide +kernel
theorem dJ2_getChar_3b067_15 : decode cJ2_getChar_3b067 15 = .ok (.if_icmp .lt 13, 3) := by decide +kernel
theorem dJ2_getChar_3b067_18 : decode cJ2_getChar_3b067 18 = .ok (.new 52, 3) := by decide +kernel
theorem dJ2_getChar_3b067_21 : decode cJ2_getChar_3b067 21 = .ok (.dup, 1) := by decide +kernel
theorem dJ2_getChar_3b067_22 : decode cJ2_getChar_3b067 22 = .ok (.ldc 54, 2) := by decide +kernel
theorem dJ2_getChar_3b067_24 : decode cJ2_getChar_3b067 24 = .ok (.invokespecial 56, 3) := by decide +kernel
theorem dJ2_getChar_3b067_27 : decode cJ2_getChar_3b067 27 = .ok (.athrow, 1) := by decide +kernel
theorem dJ2_getChar_3b067_28 : decode cJ2_getChar_3b067 28 = .ok (.iload_n 1, 1) := by decide +kernel
theorem dJ2_getChar_3b067_29 : decode cJ2_getChar_3b067 29 = .ok (.iconst 1, 1) := by decide +kernel
theorem dJ2_getChar_3b067_30 : decode cJ2_getChar_3b067 30 = .ok (.ishl, 1) := by decide +kernel
theorem dJ2_getChar_3b067_31 : decode cJ2_getChar_3b067 31 = .ok (.istore_n 1, 1) := by decide +kernel
theorem dJ2_getChar_3b067_32 : decode cJ2_getChar_3b067 32 = .ok (.aload_n 0, 1) := by decide +kernel
theorem dJ2_getChar_3b067_33 : decode cJ2_getChar_3b067 33 = .ok (.iload_n 1, 1) := by decide +kernel
theorem dJ2_getChar_3b067_34 : decode cJ2_getChar_3b067 34 = .ok (.iinc 1 1, 3) := by decide +kernel
theorem dJ2_getChar_3b067_37 : decode cJ2_getChar_3b067 37 = .ok (.baload, 1) := by decide +kernel
theorem dJ2_getChar_3b067_38 : decode cJ2_getChar_3b067 38 = .ok (.sipush 255, 3) := by decide +kernel
theorem dJ2_getChar_3b067_41 : decode cJ2_getChar_3b067 41 = .ok (.iand, 1) := by decide +kernel
theorem dJ2_getChar_3b067_42 : decode cJ2_getChar_3b067 42 = .ok (.getstatic 59, 3) := by decide +kernel
theorem dJ2_getChar_3b067_45 : decode cJ2_getChar_3b067 45 = .ok (.ishl, 1) := by decide +kernel
theorem dJ2_getChar_3b067_46 : decode cJ2_getChar_3b067 46 = .ok (.aload_n 0, 1) := by decide +kernel
theorem dJ2_getChar_3b067_47 : decode cJ2_getChar_3b067 47 = .ok (.iload_n 1, 1) := by decide +kernel
theorem dJ2_getChar_3b067_48 : decode cJ2_getChar_3b067 48 = .ok (.baload, 1) := by decide +kernel
theorem dJ2_getChar_3b067_49 : decode cJ2_getChar_3b067 49 = .ok (.sipush 255, 3) := by decide +kernel
theorem dJ2_getChar_3b067_52 : decode cJ2_getChar_3b067 52 = .ok (.iand, 1) := by decide +kernel
theorem dJ2_getChar_3b067_53 : decode cJ2_getChar_3b067 53 = .ok (.getstatic 63, 3) := by decide +kernel
theorem dJ2_getChar_3b067_56 : decode cJ2_getChar_3b067 56 = .ok (.ishl, 1) := by decide +kernel
theorem dJ2_getChar_3b067_57 : decode cJ2_getChar_3b067 57 = .ok (.ior, 1) := by decide +kernel
theorem dJ2_getChar_3b067_58 : decode cJ2_getChar_3b067 58 = .ok (.i2c, 1) := by decide +kernel
theorem dJ2_getChar_3b067_59 : decode cJ2_getChar_3b067 59 = .ok (.ireturn, 1) := by decide +kernel
theorem dJ2_length_9d52b_0 : decode cJ2_length_9d52b 0 = .ok (.aload_n 0, 1) := by decide +kernel
theorem dJ2_length_9d52b_1 : decode cJ2_length_9d52b 1 = .ok (.arraylength, 1) := by decide +kernel
theorem dJ2_length_9d52b_2 : decode cJ2_length_9d52b 2 = .ok (.iconst 1, 1) := by decide +kernel
theorem dJ2_length_9d52b_3 : decode cJ2_length_9d52b 3 = .ok (.ishr, 1) := by decide +kernel
theorem dJ2_length_9d52b_4 : decode cJ2_length_9d52b 4 = .ok (.ireturn, 1) := by decide +kernel
theorem dJ2_charAt_3b067_0 : decode cJ2_charAt_3b067 0 = .ok (.iload_n 1, 1) := by decide +kernel
theorem dJ2_charAt_3b067_1 : decode cJ2_charAt_3b067 1 = .ok (.aload_n 0, 1) := by decide +kernel
theorem dJ2_charAt_3b067_2 : decode cJ2_charAt_3b067 2 = .ok (.invokestatic 67, 3) := by decide +kernel
theorem dJ2_charAt_3b067_5 : decode cJ2_charAt_3b067 5 = .ok (.aload_n 0, 1) := by decide +kernel
theorem dJ2_charAt_3b067_6 : decode cJ2_charAt_3b067 6 = .ok (.iload_n 1, 1) := by decide +kernel
theorem dJ2_charAt_3b067_7 : decode cJ2_charAt_3b067 7 = .ok (.invokestatic 71, 3) := by decide +kernel
theorem dJ2_charAt_3b067_10 : decode cJ2_charAt_3b067 10 = .ok (.ireturn, 1) := by decide +kernel
theorem dJ2_checkIndex_2214a_0 : decode cJ2_checkIndex_2214a 0 = .ok (.iload_n 0, 1) := by decide +kernel
theorem dJ2_checkIndex_2214a_1 : decode cJ2_checkIndex_2214a 1 = .ok (.aload_n 1, 1) := by decide +kernel
theorem dJ2_checkIndex_2214a_2 : decode cJ2_checkIndex_2214a 2 = .ok (.invokestatic 48, 3) := by decide +kernel
theorem dJ2_checkIndex_2214a_5 : decode cJ2_checkIndex_2214a 5 = .ok (.invokestatic 414, 3) := by decide +kernel
theorem dJ2_checkIndex_2214a_8 : decode cJ2_checkIndex_2214a 8 = .ok (.return_, 1) := by decide +kernel
theorem dJ7_fill_53178_0 : decode cJ7_fill_53178 0 = .ok (.iconst 0, 1) := by decide +kernel
theorem dJ7_fill_53178_1 : decode cJ7_fill_53178 1 = .ok (.istore_n 2, 1) := by decide +kernel
theorem dJ7_fill_53178_2 : decode cJ7_fill_53178 2 = .ok (.aload_n 0, 1) := by decide +kernel
theorem dJ7_fill_53178_3 : decode cJ7_fill_53178 3 = .ok (.arraylength, 1) := by decide +kernel
theorem dJ7_fill_53178_4 : decode cJ7_fill_53178 4 = .ok (.istore_n 3, 1) := by decide +kernel
theorem dJ7_fill_53178_5 : decode cJ7_fill_53178 5 = .ok (.iload_n 2, 1) := by decide +kernel
theorem dJ7_fill_53178_6 : decode cJ7_fill_53178 6 = .ok (.iload_n 3, 1) := by decide +kernel
theorem dJ7_fill_53178_7 : decode cJ7_fill_53178 7 = .ok (.if_icmp .ge 13, 3) := by decide +kernel
theorem dJ7_fill_53178_10 : decode cJ7_fill_53178 10 = .ok (.aload_n 0, 1) := by decide +kernel
theorem dJ7_fill_53178_11 : decode cJ7_fill_53178 11 = .ok (.iload_n 2, 1) := by decide +kernel
theorem dJ7_fill_53178_12 : decode cJ7_fill_53178 12 = .ok (.iload_n 1, 1) := by decide +kernel
theorem dJ7_fill_53178_13 : decode cJ7_fill_53178 13 = .ok (.iastore, 1) := by decide +kernel
theorem dJ7_fill_53178_14 : decode cJ7_fill_53178 14 = .ok (.iinc 2 1, 3) := by decide +kernel
theorem dJ7_fill_53178_17 : decode cJ7_fill_53178 17 = .ok (.goto (-12), 3) := by decide +kernel
theorem dJ7_fill_53178_20 : decode cJ7_fill_53178 20 = .ok (.return_, 1) := by decide +kernel
theorem dJ3_checkIndex_8e157_0 : decode cJ3_checkIndex_8e157 0 = .ok (.iload_n 0, 1) := by decide +kernel
theorem dJ3_checkIndex_8e157_1 : decode cJ3_checkIndex_8e157 1 = .ok (.ifCond .lt 8, 3) := by decide +kernel
theorem dJ3_checkIndex_8e157_4 : decode cJ3_checkIndex_8e157 4 = .ok (.iload_n 0, 1) := by decide +kernel
theorem dJ3_checkIndex_8e157_5 : decode cJ3_checkIndex_8e157 5 = .ok (.iload_n 1, 1) := by decide +kernel
theorem dJ3_checkIndex_8e157_6 : decode cJ3_checkIndex_8e157 6 = .ok (.if_icmp .lt 10, 3) := by decide +kernel
theorem dJ3_checkIndex_8e157_9 : decode cJ3_checkIndex_8e157 9 = .ok (.aload_n 2, 1) := by decide +kernel
theorem dJ3_checkIndex_8e157_10 : decode cJ3_checkIndex_8e157 10 = .ok (.iload_n 0, 1) := by decide +kernel
theorem dJ3_checkIndex_8e157_11 : decode cJ3_checkIndex_8e157 11 = .ok (.iload_n 1, 1) := by decide +kernel
theorem dJ3_checkIndex_8e157_12 : decode cJ3_checkIndex_8e157 12 = .ok (.invokestatic 95, 3) := by decide +kernel
theorem dJ3_checkIndex_8e157_15 : decode cJ3_checkIndex_8e157 15 = .ok (.athrow, 1) := by decide +kernel
theorem dJ3_checkIndex_8e157_16 : decode cJ3_checkIndex_8e157 16 = .ok (.iload_n 0, 1) := by decide +kernel
theorem dJ3_checkIndex_8e157_17 : decode cJ3_checkIndex_8e157 17 = .ok (.ireturn, 1) := by decide +kernel
theorem dX0_init_0 : decode cX0_init 0 = .ok (.aload_n 0, 1) := by decide +kernel
theorem dX0_init_1 : decode cX0_init 1 = .ok (.invokespecial 3, 3) := by decide +kernel
theorem dX0_init_4 : decode cX0_init 4 = .ok (.aload_n 0, 1) := by decide +kernel
theorem dX0_init_5 : decode cX0_init 5 = .ok (.bipush 8, 2) := by decide +kernel
theorem dX0_init_7 : decode cX0_init 7 = .ok (.newarray .boolean, 2) := by decide +kernel
theorem dX0_init_9 : decode cX0_init 9 = .ok (.putfield 9, 3) := by decide +kernel
theorem dX0_init_12 : decode cX0_init 12 = .ok (.aload_n 0, 1) := by decide +kernel
theorem dX0_init_13 : decode cX0_init 13 = .ok (.bipush 28, 2) := by decide +kernel
theorem dX0_init_15 : decode cX0_init 15 = .ok (.newarray .boolean, 2) := by decide +kernel
theorem dX0_init_17 : decode cX0_init 17 = .ok (.putfield 15, 3) := by decide +kernel
theorem dX0_init_20 : decode cX0_init 20 = .ok (.aload_n 0, 1) := by decide +kernel
theorem dX0_init_21 : decode cX0_init 21 = .ok (.iload_n 1, 1) := by decide +kernel
theorem dX0_init_22 : decode cX0_init 22 = .ok (.invokestatic 18, 3) := by decide +kernel
theorem dX0_init_25 : decode cX0_init 25 = .ok (.ifCond .eq 7, 3) := by decide +kernel
theorem dX0_init_28 : decode cX0_init 28 = .ok (.iload_n 1, 1) := by decide +kernel
theorem dX0_init_29 : decode cX0_init 29 = .ok (.goto 5, 3) := by decide +kernel
theorem dX0_init_32 : decode cX0_init 32 = .ok (.bipush 8, 2) := by decide +kernel
theorem dX0_init_34 : decode cX0_init 34 = .ok (.putfield 22, 3) := by decide +kernel
theorem dX0_init_37 : decode cX0_init 37 = .ok (.aload_n 0, 1) := by decide +kernel
theorem dX0_init_38 : decode cX0_init 38 = .ok (.iload_n 2, 1) := by decide +kernel
theorem dX0_init_39 : decode cX0_init 39 = .ok (.putfield 26, 3) := by decide +kernel
theorem dX0_init_42 : decode cX0_init 42 = .ok (.aload_n 0, 1) := by decide +kernel
theorem dX0_init_43 : decode cX0_init 43 = .ok (.iload_n 3, 1) := by decide +kernel
theorem dX0_init_44 : decode cX0_init 44 = .ok (.putfield 29, 3) := by decide +kernel
theorem dX0_init_47 : decode cX0_init 47 = .ok (.aload_n 0, 1) := by decide +kernel
theorem dX0_init_48 : decode cX0_init 48 = .ok (.aload_n 0, 1) := by decide +kernel
theorem dX0_init_49 : decode cX0_init 49 = .ok (.getfield 22, 3) := by decide +kernel
theorem dX0_init_52 : decode cX0_init 52 = .ok (.newarray .int, 2) := by decide +kernel
theorem dX0_init_54 : decode cX0_init 54 = .ok (.putfield 33, 3) := by decide +kernel
theorem dX0_init_57 : decode cX0_init 57 = .ok (.aload_n 0, 1) := by decide +kernel
theorem dX0_init_58 : decode cX0_init 58 = .ok (.aload_n 0, 1) := by decide +kernel
theorem dX0_init_59 : decode cX0_init 59 = .ok (.getfield 22, 3) := by decide +kernel
theorem dX0_init_62 : decode cX0_init 62 = .ok (.newarray .int, 2) := by decide +kernel
theorem dX0_init_64 : decode cX0_init 64 = .ok (.putfield 37, 3) := by decide +kernel
theorem dX0_init_67 : decode cX0_init 67 = .ok (.aload_n 0, 1) := by decide +kernel
theorem dX0_init_68 : decode cX0_init 68 = .ok (.aload_n 0, 1) := by decide +kernel
theorem dX0_init_69 : decode cX0_init 69 = .ok (.getfield 22, 3) := by decide +kernel
theorem dX0_init_72 : decode cX0_init 72 = .ok (.newarray .int, 2) := by decide +kernel
theorem dX0_init_74 : decode cX0_init 74 = .ok (.putfield 40, 3) := by decide +kernel
theorem dX0_init_77 : decode cX0_init 77 = .ok (.aload_n 0, 1) := by decide +kernel
theorem dX0_init_78 : decode cX0_init 78 = .ok (.aload_n 0, 1) := by decide +kernel
theorem dX0_init_79 : decode cX0_init 79 = .ok (.getfield 22, 3) := by decide +kernel
theorem dX0_init_82 : decode cX0_init 82 = .ok (.newarray .int, 2) := by decide +kernel
theorem dX0_init_84 : decode cX0_init 84 = .ok (.putfield 43, 3) := by decide +kernel
theorem dX0_init_87 : decode cX0_init 87 = .ok (.aload_n 0, 1) := by decide +kernel
theorem dX0_init_88 : decode cX0_init 88 = .ok (.aload_n 0, 1) := by decide +kernel
theorem dX0_init_89 : decode cX0_init 89 = .ok (.getfield 22, 3) := by decide +kernel
theorem dX0_init_92 : decode cX0_init 92 = .ok (.newarray .int, 2) := by decide +kernel
theorem dX0_init_94 : decode cX0_init 94 = .ok (.putfield 46, 3) := by decide +kernel
theorem dX0_init_97 : decode cX0_init 97 = .ok (.aload_n 0, 1) := by decide +kernel
theorem dX0_init_98 : decode cX0_init 98 = .ok (.getfield 33, 3) := by decide +kernel
theorem dX0_init_101 : decode cX0_init 101 = .ok (.sipush 255, 3) := by decide +kernel
theorem dX0_init_104 : decode cX0_init 104 = .ok (.invokestatic 49, 3) := by decide +kernel
theorem dX0_init_107 : decode cX0_init 107 = .ok (.aload_n 0, 1) := by decide +kernel
theorem dX0_init_108 : decode cX0_init 108 = .ok (.getfield 37, 3) := by decide +kernel
theorem dX0_init_111 : decode cX0_init 111 = .ok (.sipush 255, 3) := by decide +kernel
theorem dX0_init_114 : decode cX0_init 114 = .ok (.invokestatic 49, 3) := by decide +kernel
theorem dX0_init_117 : decode cX0_init 117 = .ok (.aload_n 0, 1) := by decide +kernel
theorem dX0_init_118 : decode cX0_init 118 = .ok (.getfield 40, 3) := by decide +kernel
theorem dX0_init_121 : decode cX0_init 121 = .ok (.iconst 3, 1) := by decide +kernel
theorem dX0_init_122 : decode cX0_init 122 = .ok (.invokestatic 49, 3) := by decide +kernel
theorem dX0_init_125 : decode cX0_init 125 = .ok (.aload_n 0, 1) := by decide +kernel
theorem dX0_init_126 : decode cX0_init 126 = .ok (.getfield 46, 3) := by decide +kernel
theorem dX0_init_129 : decode cX0_init 129 = .ok (.iconst (-1), 1) := by decide +kernel
theorem dX0_init_130 : decode cX0_init 130 = .ok (.invokestatic 49, 3) := by decide +kernel
theorem dX0_init_133 : decode cX0_init 133 = .ok (.return_, 1) := by decide +kernel
theorem dX0_setLimits_0 : decode cX0_setLimits 0 = .ok (.aload_n 0, 1) := by decide +kernel
theorem dX0_setLimits_1 : decode cX0_setLimits 1 = .ok (.iload_n 1, 1) := by decide +kernel
theorem dX0_setLimits_2 : decode cX0_setLimits 2 = .ok (.putfield 55, 3) := by decide +kernel
theorem dX0_setLimits_5 : decode cX0_setLimits 5 = .ok (.aload_n 0, 1) := by decide +kernel
theorem dX0_setLimits_6 : decode cX0_setLimits 6 = .ok (.iload_n 2, 1) := by decide +kernel
theorem dX0_setLimits_7 : decode cX0_setLimits 7 = .ok (.putfield 58, 3) := by decide +kernel
theorem dX0_setLimits_10 : decode cX0_setLimits 10 = .ok (.aload_n 0, 1) := by decide +kernel
theorem dX0_setLimits_11 : decode cX0_setLimits 11 = .ok (.iload_n 3, 1) := by decide +kernel
theorem dX0_setLimits_12 : decode cX0_setLimits 12 = .ok (.putfield 61, 3) := by decide +kernel
theorem dX0_setLimits_15 : decode cX0_setLimits 15 = .ok (.return_, 1) := by decide +kernel
theorem dX0_setWear_0 : decode cX0_setWear 0 = .ok (.aload_n 0, 1) := by decide +kernel
theorem dX0_setWear_1 : decode cX0_setWear 1 = .ok (.iload_n 1, 1) := by decide +kernel
theorem dX0_setWear_2 : decode cX0_setWear 2 = .ok (.putfield 64, 3) := by decide +kernel
theorem dX0_setWear_5 : decode cX0_setWear 5 = .ok (.aload_n 0, 1) := by decide +kernel
theorem dX0_setWear_6 : decode cX0_setWear 6 = .ok (.iload_n 2, 1) := by decide +kernel
theorem dX0_setWear_7 : decode cX0_setWear 7 = .ok (.putfield 67, 3) := by decide +kernel
theorem dX0_setWear_10 : decode cX0_setWear 10 = .ok (.return_, 1) := by decide +kernel
theorem dX0_setNeed_0 : decode cX0_setNeed 0 = .ok (.aload_n 0, 1) := by decide +kernel
theorem dX0_setNeed_1 : decode cX0_setNeed 1 = .ok (.iload_n 1, 1) := by decide +kernel
theorem dX0_setNeed_2 : decode cX0_setNeed 2 = .ok (.invokevirtual 70, 3) := by decide +kernel
theorem dX0_setNeed_5 : decode cX0_setNeed 5 = .ok (.ifCond .ne 5, 3) := by decide +kernel
theorem dX0_setNeed_8 : decode cX0_setNeed 8 = .ok (.iconst 0, 1) := by decide +kernel
theorem dX0_setNeed_9 : decode cX0_setNeed 9 = .ok (.ireturn, 1) := by decide +kernel
theorem dX0_setNeed_10 : decode cX0_setNeed 10 = .ok (.aload_n 0, 1) := by decide +kernel
theorem dX0_setNeed_11 : decode cX0_setNeed 11 = .ok (.getfield 40, 3) := by decide +kernel
theorem dX0_setNeed_14 : decode cX0_setNeed 14 = .ok (.iload_n 1, 1) := by decide +kernel
theorem dX0_setNeed_15 : decode cX0_setNeed 15 = .ok (.iload_n 2, 1) := by decide +kernel
theorem dX0_setNeed_16 : decode cX0_setNeed 16 = .ok (.iastore, 1) := by decide +kernel
theorem dX0_setNeed_17 : decode cX0_setNeed 17 = .ok (.iconst 1, 1) := by decide +kernel
theorem dX0_setNeed_18 : decode cX0_setNeed 18 = .ok (.ireturn, 1) := by decide +kernel
theorem dX0_setBad_0 : decode cX0_setBad 0 = .ok (.iload_n 1, 1) := by decide +kernel
theorem dX0_setBad_1 : decode cX0_setBad 1 = .ok (.iconst 0, 1) := by decide +kernel
theorem dX0_setBad_2 : decode cX0_setBad 2 = .ok (.aload_n 0, 1) := by decide +kernel
theorem dX0_setBad_3 : decode cX0_setBad 3 = .ok (.invokevirtual 73, 3) := by decide +kernel
theorem dX0_setBad_6 : decode cX0_setBad 6 = .ok (.iconst 1, 1) := by decide +kernel
theorem dX0_setBad_7 : decode cX0_setBad 7 = .ok (.isub, 1) := by decide +kernel
theorem dX0_setBad_8 : decode cX0_setBad 8 = .ok (.invokestatic 77, 3) := by decide +kernel
theorem dX0_setBad_11 : decode cX0_setBad 11 = .ok (.ifCond .ne 5, 3) := by decide +kernel
theorem dX0_setBad_14 : decode cX0_setBad 14 = .ok (.iconst 0, 1) := by decide +kernel
theorem dX0_setBad_15 : decode cX0_setBad 15 = .ok (.ireturn, 1) := by decide +kernel
theorem dX0_setBad_16 : decode cX0_setBad 16 = .ok (.aload_n 0, 1) := by decide +kernel
theorem dX0_setBad_17 : decode cX0_setBad 17 = .ok (.getfield 9, 3) := by decide +kernel
theorem dX0_setBad_20 : decode cX0_setBad 20 = .ok (.iload_n 1, 1) := by decide +kernel
theorem dX0_setBad_21 : decode cX0_setBad 21 = .ok (.iload_n 2, 1) := by decide +kernel
theorem dX0_setBad_22 : decode cX0_setBad 22 = .ok (.bastore, 1) := by decide +kernel
theorem dX0_setBad_23 : decode cX0_setBad 23 = .ok (.iconst 1, 1) := by decide +kernel
theorem dX0_setBad_24 : decode cX0_setBad 24 = .ok (.ireturn, 1) := by decide +kernel
theorem dX0_setContact_0 : decode cX0_setContact 0 = .ok (.iload_n 1, 1) := by decide +kernel
theorem dX0_setContact_1 : decode cX0_setContact 1 = .ok (.iconst 0, 1) := by decide +kernel
theorem dX0_setContact_2 : decode cX0_setContact 2 = .ok (.bipush 27, 2) := by decide +kernel
theorem dX0_setContact_4 : decode cX0_setContact 4 = .ok (.invokestatic 77, 3) := by decide +kernel
theorem dX0_setContact_7 : decode cX0_setContact 7 = .ok (.ifCond .ne 5, 3) := by decide +kernel
theorem dX0_setContact_10 : decode cX0_setContact 10 = .ok (.iconst 0, 1) := by decide +kernel
theorem dX0_setContact_11 : decode cX0_setContact 11 = .ok (.ireturn, 1) := by decide +kernel
theorem dX0_setContact_12 : decode cX0_setContact 12 = .ok (.aload_n 0, 1) := by decide +kernel
theorem dX0_setContact_13 : decode cX0_setContact 13 = .ok (.getfield 15, 3) := by decide +kernel
theorem dX0_setContact_16 : decode cX0_setContact 16 = .ok (.iload_n 1, 1) := by decide +kernel
theorem dX0_setContact_17 : decode cX0_setContact 17 = .ok (.iload_n 2, 1) := by decide +kernel
theorem dX0_setContact_18 : decode cX0_setContact 18 = .ok (.ifCond .ne 7, 3) := by decide +kernel
theorem dX0_setContact_21 : decode cX0_setContact 21 = .ok (.iconst 1, 1) := by decide +kernel
theorem dX0_setContact_22 : decode cX0_setContact 22 = .ok (.goto 4, 3) := by decide +kernel
theorem dX0_setContact_25 : decode cX0_setContact 25 = .ok (.iconst 0, 1) := by decide +kernel
theorem dX0_setContact_26 : decode cX0_setContact 26 = .ok (.bastore, 1) := by decide +kernel
theorem dX0_setContact_27 : decode cX0_setContact 27 = .ok (.iconst 1, 1) := by decide +kernel
theorem dX0_setContact_28 : decode cX0_setContact 28 = .ok (.ireturn, 1) := by decide +kernel
theorem dX0_wipe_0 : decode cX0_wipe 0 = .ok (.aload_n 0, 1) := by decide +kernel
theorem dX0_wipe_1 : decode cX0_wipe 1 = .ok (.dup, 1) := by decide +kernel
theorem dX0_wipe_2 : decode cX0_wipe 2 = .ok (.getfield 81, 3) := by decide +kernel
theorem dX0_wipe_5 : decode cX0_wipe 5 = .ok (.iconst 1, 1) := by decide +kernel
theorem dX0_wipe_6 : decode cX0_wipe 6 = .ok (.iadd, 1) := by decide +kernel
theorem dX0_wipe_7 : decode cX0_wipe 7 = .ok (.putfield 81, 3) := by decide +kernel
theorem dX0_wipe_10 : decode cX0_wipe 10 = .ok (.aload_n 0, 1) := by decide +kernel
theorem dX0_wipe_11 : decode cX0_wipe 11 = .ok (.getfield 33, 3) := by decide +kernel
theorem dX0_wipe_14 : decode cX0_wipe 14 = .ok (.sipush 255, 3) := by decide +kernel
theorem dX0_wipe_17 : decode cX0_wipe 17 = .ok (.invokestatic 49, 3) := by decide +kernel
theorem dX0_wipe_20 : decode cX0_wipe 20 = .ok (.aload_n 0, 1) := by decide +kernel
theorem dX0_wipe_21 : decode cX0_wipe 21 = .ok (.getfield 37, 3) := by decide +kernel
theorem dX0_wipe_24 : decode cX0_wipe 24 = .ok (.sipush 255, 3) := by decide +kernel
theorem dX0_wipe_27 : decode cX0_wipe 27 = .ok (.invokestatic 49, 3) := by decide +kernel
theorem dX0_wipe_30 : decode cX0_wipe 30 = .ok (.aload_n 0, 1) := by decide +kernel
theorem dX0_wipe_31 : decode cX0_wipe 31 = .ok (.getfield 43, 3) := by decide +kernel
theorem dX0_wipe_34 : decode cX0_wipe 34 = .ok (.iconst 0, 1) := by decide +kernel
theorem dX0_wipe_35 : decode cX0_wipe 35 = .ok (.invokestatic 49, 3) := by decide +kernel
theorem dX0_wipe_38 : decode cX0_wipe 38 = .ok (.aload_n 0, 1) := by decide +kernel
theorem dX0_wipe_39 : decode cX0_wipe 39 = .ok (.getfield 46, 3) := by decide +kernel
theorem dX0_wipe_42 : decode cX0_wipe 42 = .ok (.iconst (-1), 1) := by decide +kernel
theorem dX0_wipe_43 : decode cX0_wipe 43 = .ok (.invokestatic 49, 3) := by decide +kernel
theorem dX0_wipe_46 : decode cX0_wipe 46 = .ok (.aload_n 0, 1) := by decide +kernel
theorem dX0_wipe_47 : decode cX0_wipe 47 = .ok (.getfield 81, 3) := by decide +kernel
theorem dX0_wipe_50 : decode cX0_wipe 50 = .ok (.aload_n 0, 1) := by decide +kernel
theorem dX0_wipe_51 : decode cX0_wipe 51 = .ok (.getfield 67, 3) := by decide +kernel
theorem dX0_wipe_54 : decode cX0_wipe 54 = .ok (.if_icmp .le 29, 3) := by decide +kernel
theorem dX0_wipe_57 : decode cX0_wipe 57 = .ok (.iconst 0, 1) := by decide +kernel
theorem dX0_wipe_58 : decode cX0_wipe 58 = .ok (.istore_n 1, 1) := by decide +kernel
theorem dX0_wipe_59 : decode cX0_wipe 59 = .ok (.iload_n 1, 1) := by decide +kernel
theorem dX0_wipe_60 : decode cX0_wipe 60 = .ok (.aload_n 0, 1) := by decide +kernel
theorem dX0_wipe_61 : decode cX0_wipe 61 = .ok (.getfield 22, 3) := by decide +kernel
theorem dX0_wipe_64 : decode cX0_wipe 64 = .ok (.if_icmp .ge 19, 3) := by decide +kernel
theorem dX0_wipe_67 : decode cX0_wipe 67 = .ok (.aload_n 0, 1) := by decide +kernel
theorem dX0_wipe_68 : decode cX0_wipe 68 = .ok (.getfield 40, 3) := by decide +kernel
theorem dX0_wipe_71 : decode cX0_wipe 71 = .ok (.iload_n 1, 1) := by decide +kernel
theorem dX0_wipe_72 : decode cX0_wipe 72 = .ok (.dup2, 1) := by decide +kernel
theorem dX0_wipe_73 : decode cX0_wipe 73 = .ok (.iaload, 1) := by decide +kernel
theorem dX0_wipe_74 : decode cX0_wipe 74 = .ok (.iconst 1, 1) := by decide +kernel
theorem dX0_wipe_75 : decode cX0_wipe 75 = .ok (.iadd, 1) := by decide +kernel
theorem dX0_wipe_76 : decode cX0_wipe 76 = .ok (.iastore, 1) := by decide +kernel
theorem dX0_wipe_77 : decode cX0_wipe 77 = .ok (.iinc 1 1, 3) := by decide +kernel
theorem dX0_wipe_80 : decode cX0_wipe 80 = .ok (.goto (-21), 3) := by decide +kernel
theorem dX0_wipe_83 : decode cX0_wipe 83 = .ok (.return_, 1) := by decide +kernel
theorem dX0_property_0 : decode cX0_property 0 = .ok (.iload_n 1, 1) := by decide +kernel
theorem dX0_property_1 : decode cX0_property 1 = .ok (.tableswitch 60 0 4 #[35, 40, 45, 50, 55], 35) := by decide +kernel
theorem dX0_property_36 : decode cX0_property 36 = .ok (.aload_n 0, 1) := by decide +kernel
theorem dX0_property_37 : decode cX0_property 37 = .ok (.getfield 22, 3) := by decide +kernel
theorem dX0_property_40 : decode cX0_property 40 = .ok (.ireturn, 1) := by decide +kernel
theorem dX0_property_41 : decode cX0_property 41 = .ok (.aload_n 0, 1) := by decide +kernel
theorem dX0_property_42 : decode cX0_property 42 = .ok (.invokevirtual 84, 3) := by decide +kernel
theorem dX0_property_45 : decode cX0_property 45 = .ok (.ireturn, 1) := by decide +kernel
theorem dX0_property_46 : decode cX0_property 46 = .ok (.aload_n 0, 1) := by decide +kernel
theorem dX0_property_47 : decode cX0_property 47 = .ok (.invokevirtual 87, 3) := by decide +kernel
theorem dX0_property_50 : decode cX0_property 50 = .ok (.ireturn, 1) := by decide +kernel
theorem dX0_property_51 : decode cX0_property 51 = .ok (.aload_n 0, 1) := by decide +kernel
theorem dX0_property_52 : decode cX0_property 52 = .ok (.getfield 81, 3) := by decide +kernel
theorem dX0_property_55 : decode cX0_property 55 = .ok (.ireturn, 1) := by decide +kernel
theorem dX0_property_56 : decode cX0_property 56 = .ok (.aload_n 0, 1) := by decide +kernel
theorem dX0_property_57 : decode cX0_property 57 = .ok (.getfield 90, 3) := by decide +kernel
theorem dX0_property_60 : decode cX0_property 60 = .ok (.ireturn, 1) := by decide +kernel
theorem dX0_property_61 : decode cX0_property 61 = .ok (.iconst (-1), 1) := by decide +kernel
theorem dX0_property_62 : decode cX0_property 62 = .ok (.ireturn, 1) := by decide +kernel
theorem dX0_cell_0 : decode cX0_cell 0 = .ok (.iload_n 1, 1) := by decide +kernel
theorem dX0_cell_1 : decode cX0_cell 1 = .ok (.iconst 5, 1) := by decide +kernel
theorem dX0_cell_2 : decode cX0_cell 2 = .ok (.if_icmp .ne 9, 3) := by decide +kernel
theorem dX0_cell_5 : decode cX0_cell 5 = .ok (.aload_n 0, 1) := by decide +kernel
theorem dX0_cell_6 : decode cX0_cell 6 = .ok (.iload_n 2, 1) := by decide +kernel
theorem dX0_cell_7 : decode cX0_cell 7 = .ok (.invokevirtual 93, 3) := by decide +kernel
theorem dX0_cell_10 : decode cX0_cell 10 = .ok (.ireturn, 1) := by decide +kernel
theorem dX0_cell_11 : decode cX0_cell 11 = .ok (.aload_n 0, 1) := by decide +kernel
theorem dX0_cell_12 : decode cX0_cell 12 = .ok (.iload_n 2, 1) := by decide +kernel
theorem dX0_cell_13 : decode cX0_cell 13 = .ok (.invokevirtual 70, 3) := by decide +kernel
theorem dX0_cell_16 : decode cX0_cell 16 = .ok (.ifCond .ne 5, 3) := by decide +kernel
theorem dX0_cell_19 : decode cX0_cell 19 = .ok (.iconst (-1), 1) := by decide +kernel
theorem dX0_cell_20 : decode cX0_cell 20 = .ok (.ireturn, 1) := by decide +kernel
theorem dX0_cell_21 : decode cX0_cell 21 = .ok (.iload_n 1, 1) := by decide +kernel
theorem dX0_cell_22 : decode cX0_cell 22 = .ok (.tableswitch 58 1 4 #[30, 37, 44, 51], 30) := by decide +kernel
theorem dX0_cell_52 : decode cX0_cell 52 = .ok (.aload_n 0, 1) := by decide +kernel
theorem dX0_cell_53 : decode cX0_cell 53 = .ok (.getfield 33, 3) := by decide +kernel
theorem dX0_cell_56 : decode cX0_cell 56 = .ok (.iload_n 2, 1) := by decide +kernel
theorem dX0_cell_57 : decode cX0_cell 57 = .ok (.iaload, 1) := by decide +kernel
theorem dX0_cell_58 : decode cX0_cell 58 = .ok (.ireturn, 1) := by decide +kernel
theorem dX0_cell_59 : decode cX0_cell 59 = .ok (.aload_n 0, 1) := by decide +kernel
theorem dX0_cell_60 : decode cX0_cell 60 = .ok (.getfield 37, 3) := by decide +kernel
theorem dX0_cell_63 : decode cX0_cell 63 = .ok (.iload_n 2, 1) := by decide +kernel
theorem dX0_cell_64 : decode cX0_cell 64 = .ok (.iaload, 1) := by decide +kernel
theorem dX0_cell_65 : decode cX0_cell 65 = .ok (.ireturn, 1) := by decide +kernel
theorem dX0_cell_66 : decode cX0_cell 66 = .ok (.aload_n 0, 1) := by decide +kernel
theorem dX0_cell_67 : decode cX0_cell 67 = .ok (.getfield 40, 3) := by decide +kernel
theorem dX0_cell_70 : decode cX0_cell 70 = .ok (.iload_n 2, 1) := by decide +kernel
theorem dX0_cell_71 : decode cX0_cell 71 = .ok (.iaload, 1) := by decide +kernel
theorem dX0_cell_72 : decode cX0_cell 72 = .ok (.ireturn, 1) := by decide +kernel
theorem dX0_cell_73 : decode cX0_cell 73 = .ok (.aload_n 0, 1) := by decide +kernel
theorem dX0_cell_74 : decode cX0_cell 74 = .ok (.getfield 43, 3) := by decide +kernel
theorem dX0_cell_77 : decode cX0_cell 77 = .ok (.iload_n 2, 1) := by decide +kernel
theorem dX0_cell_78 : decode cX0_cell 78 = .ok (.iaload, 1) := by decide +kernel
theorem dX0_cell_79 : decode cX0_cell 79 = .ok (.ireturn, 1) := by decide +kernel
theorem dX0_cell_80 : decode cX0_cell 80 = .ok (.iconst (-1), 1) := by decide +kernel
theorem dX0_cell_81 : decode cX0_cell 81 = .ok (.ireturn, 1) := by decide +kernel
theorem dX0_firstLackingPin_0 : decode cX0_firstLackingPin 0 = .ok (.iconst 0, 1) := by decide +kernel
theorem dX0_firstLackingPin_1 : decode cX0_firstLackingPin 1 = .ok (.istore_n 1, 1) := by decide +kernel
theorem dX0_firstLackingPin_2 : decode cX0_firstLackingPin 2 = .ok (.iload_n 1, 1) := by decide +kernel
theorem dX0_firstLackingPin_3 : decode cX0_firstLackingPin 3 = .ok (.bipush 28, 2) := by decide +kernel
theorem dX0_firstLackingPin_5 : decode cX0_firstLackingPin 5 = .ok (.if_icmp .ge 20, 3) := by decide +kernel
theorem dX0_firstLackingPin_8 : decode cX0_firstLackingPin 8 = .ok (.aload_n 0, 1) := by decide +kernel
theorem dX0_firstLackingPin_9 : decode cX0_firstLackingPin 9 = .ok (.getfield 15, 3) := by decide +kernel
theorem dX0_firstLackingPin_12 : decode cX0_firstLackingPin 12 = .ok (.iload_n 1, 1) := by decide +kernel
theorem dX0_firstLackingPin_13 : decode cX0_firstLackingPin 13 = .ok (.baload, 1) := by decide +kernel
theorem dX0_firstLackingPin_14 : decode cX0_firstLackingPin 14 = .ok (.ifCond .eq 5, 3) := by decide +kernel
theorem dX0_firstLackingPin_17 : decode cX0_firstLackingPin 17 = .ok (.iload_n 1, 1) := by decide +kernel
theorem dX0_firstLackingPin_18 : decode cX0_firstLackingPin 18 = .ok (.ireturn, 1) := by decide +kernel
theorem dX0_firstLackingPin_19 : decode cX0_firstLackingPin 19 = .ok (.iinc 1 1, 3) := by decide +kernel
theorem dX0_firstLackingPin_22 : decode cX0_firstLackingPin 22 = .ok (.goto (-20), 3) := by decide +kernel
theorem dX0_firstLackingPin_25 : decode cX0_firstLackingPin 25 = .ok (.iconst (-1), 1) := by decide +kernel
theorem dX0_firstLackingPin_26 : decode cX0_firstLackingPin 26 = .ok (.ireturn, 1) := by decide +kernel
theorem dX0_logicalCount_0 : decode cX0_logicalCount 0 = .ok (.iconst 0, 1) := by decide +kernel
theorem dX0_logicalCount_1 : decode cX0_logicalCount 1 = .ok (.istore_n 1, 1) := by decide +kernel
theorem dX0_logicalCount_2 : decode cX0_logicalCount 2 = .ok (.iconst 0, 1) := by decide +kernel
theorem dX0_logicalCount_3 : decode cX0_logicalCount 3 = .ok (.istore_n 2, 1) := by decide +kernel
theorem dX0_logicalCount_4 : decode cX0_logicalCount 4 = .ok (.iload_n 2, 1) := by decide +kernel
theorem dX0_logicalCount_5 : decode cX0_logicalCount 5 = .ok (.aload_n 0, 1) := by decide +kernel
theorem dX0_logicalCount_6 : decode cX0_logicalCount 6 = .ok (.invokevirtual 73, 3) := by decide +kernel
theorem dX0_logicalCount_9 : decode cX0_logicalCount 9 = .ok (.if_icmp .ge 21, 3) := by decide +kernel
theorem dX0_logicalCount_12 : decode cX0_logicalCount 12 = .ok (.aload_n 0, 1) := by decide +kernel
theorem dX0_logicalCount_13 : decode cX0_logicalCount 13 = .ok (.getfield 9, 3) := by decide +kernel
theorem dX0_logicalCount_16 : decode cX0_logicalCount 16 = .ok (.iload_n 2, 1) := by decide +kernel
theorem dX0_logicalCount_17 : decode cX0_logicalCount 17 = .ok (.baload, 1) := by decide +kernel
theorem dX0_logicalCount_18 : decode cX0_logicalCount 18 = .ok (.ifCond .ne 6, 3) := by decide +kernel
theorem dX0_logicalCount_21 : decode cX0_logicalCount 21 = .ok (.iinc 1 1, 3) := by decide +kernel
theorem dX0_logicalCount_24 : decode cX0_logicalCount 24 = .ok (.iinc 2 1, 3) := by decide +kernel
theorem dX0_logicalCount_27 : decode cX0_logicalCount 27 = .ok (.goto (-23), 3) := by decide +kernel
theorem dX0_logicalCount_30 : decode cX0_logicalCount 30 = .ok (.iload_n 1, 1) := by decide +kernel
theorem dX0_logicalCount_31 : decode cX0_logicalCount 31 = .ok (.bipush 8, 2) := by decide +kernel
theorem dX0_logicalCount_33 : decode cX0_logicalCount 33 = .ok (.imul, 1) := by decide +kernel
theorem dX0_logicalCount_34 : decode cX0_logicalCount 34 = .ok (.ireturn, 1) := by decide +kernel
theorem dX0_addressOf_0 : decode cX0_addressOf 0 = .ok (.iload_n 1, 1) := by decide +kernel
theorem dX0_addressOf_1 : decode cX0_addressOf 1 = .ok (.ifCond .ge 5, 3) := by decide +kernel
theorem dX0_addressOf_4 : decode cX0_addressOf 4 = .ok (.iconst (-1), 1) := by decide +kernel
theorem dX0_addressOf_5 : decode cX0_addressOf 5 = .ok (.ireturn, 1) := by decide +kernel
theorem dX0_addressOf_6 : decode cX0_addressOf 6 = .ok (.iload_n 1, 1) := by decide +kernel
theorem dX0_addressOf_7 : decode cX0_addressOf 7 = .ok (.bipush 8, 2) := by decide +kernel
theorem dX0_addressOf_9 : decode cX0_addressOf 9 = .ok (.idiv, 1) := by decide +kernel
theorem dX0_addressOf_10 : decode cX0_addressOf 10 = .ok (.istore_n 2, 1) := by decide +kernel
theorem dX0_addressOf_11 : decode cX0_addressOf 11 = .ok (.iconst 0, 1) := by decide +kernel
theorem dX0_addressOf_12 : decode cX0_addressOf 12 = .ok (.istore_n 3, 1) := by decide +kernel
theorem dX0_addressOf_13 : decode cX0_addressOf 13 = .ok (.iload_n 3, 1) := by decide +kernel
theorem dX0_addressOf_14 : decode cX0_addressOf 14 = .ok (.aload_n 0, 1) := by decide +kernel
theorem dX0_addressOf_15 : decode cX0_addressOf 15 = .ok (.invokevirtual 73, 3) := by decide +kernel
theorem dX0_addressOf_18 : decode cX0_addressOf 18 = .ok (.if_icmp .ge 35, 3) := by decide +kernel
theorem dX0_addressOf_21 : decode cX0_addressOf 21 = .ok (.aload_n 0, 1) := by decide +kernel
theorem dX0_addressOf_22 : decode cX0_addressOf 22 = .ok (.getfield 9, 3) := by decide +kernel
theorem dX0_addressOf_25 : decode cX0_addressOf 25 = .ok (.iload_n 3, 1) := by decide +kernel
theorem dX0_addressOf_26 : decode cX0_addressOf 26 = .ok (.baload, 1) := by decide +kernel
theorem dX0_addressOf_27 : decode cX0_addressOf 27 = .ok (.ifCond .ne 20, 3) := by decide +kernel
theorem dX0_addressOf_30 : decode cX0_addressOf 30 = .ok (.iload_n 2, 1) := by decide +kernel
theorem dX0_addressOf_31 : decode cX0_addressOf 31 = .ok (.ifCond .ne 13, 3) := by decide +kernel
theorem dX0_addressOf_34 : decode cX0_addressOf 34 = .ok (.iload_n 3, 1) := by decide +kernel
theorem dX0_addressOf_35 : decode cX0_addressOf 35 = .ok (.bipush 8, 2) := by decide +kernel
theorem dX0_addressOf_37 : decode cX0_addressOf 37 = .ok (.imul, 1) := by decide +kernel
theorem dX0_addressOf_38 : decode cX0_addressOf 38 = .ok (.iload_n 1, 1) := by decide +kernel
theorem dX0_addressOf_39 : decode cX0_addressOf 39 = .ok (.bipush 8, 2) := by decide +kernel
theorem dX0_addressOf_41 : decode cX0_addressOf 41 = .ok (.irem, 1) := by decide +kernel
theorem dX0_addressOf_42 : decode cX0_addressOf 42 = .ok (.iadd, 1) := by decide +kernel
theorem dX0_addressOf_43 : decode cX0_addressOf 43 = .ok (.ireturn, 1) := by decide +kernel
theorem dX0_addressOf_44 : decode cX0_addressOf 44 = .ok (.iinc 2 (-1), 3) := by decide +kernel
theorem dX0_addressOf_47 : decode cX0_addressOf 47 = .ok (.iinc 3 1, 3) := by decide +kernel
theorem dX0_addressOf_50 : decode cX0_addressOf 50 = .ok (.goto (-37), 3) := by decide +kernel
theorem dX0_addressOf_53 : decode cX0_addressOf 53 = .ok (.iconst (-1), 1) := by decide +kernel
theorem dX0_addressOf_54 : decode cX0_addressOf 54 = .ok (.ireturn, 1) := by decide +kernel
theorem dX0_isRight_0 : decode cX0_isRight 0 = .ok (.aload_n 0, 1) := by decide +kernel
theorem dX0_isRight_1 : decode cX0_isRight 1 = .ok (.iload_n 1, 1) := by decide +kernel
theorem dX0_isRight_2 : decode cX0_isRight 2 = .ok (.invokevirtual 70, 3) := by decide +kernel
theorem dX0_isRight_5 : decode cX0_isRight 5 = .ok (.ifCond .eq 27, 3) := by decide +kernel
theorem dX0_isRight_8 : decode cX0_isRight 8 = .ok (.aload_n 0, 1) := by decide +kernel
theorem dX0_isRight_9 : decode cX0_isRight 9 = .ok (.getfield 33, 3) := by decide +kernel
theorem dX0_isRight_12 : decode cX0_isRight 12 = .ok (.iload_n 1, 1) := by decide +kernel
theorem dX0_isRight_13 : decode cX0_isRight 13 = .ok (.iaload, 1) := by decide +kernel
theorem dX0_isRight_14 : decode cX0_isRight 14 = .ok (.iload_n 2, 1) := by decide +kernel
theorem dX0_isRight_15 : decode cX0_isRight 15 = .ok (.if_icmp .ne 17, 3) := by decide +kernel
theorem dX0_isRight_18 : decode cX0_isRight 18 = .ok (.aload_n 0, 1) := by decide +kernel
theorem dX0_isRight_19 : decode cX0_isRight 19 = .ok (.getfield 37, 3) := by decide +kernel
theorem dX0_isRight_22 : decode cX0_isRight 22 = .ok (.iload_n 1, 1) := by decide +kernel
theorem dX0_isRight_23 : decode cX0_isRight 23 = .ok (.iaload, 1) := by decide +kernel
theorem dX0_isRight_24 : decode cX0_isRight 24 = .ok (.iload_n 2, 1) := by decide +kernel
theorem dX0_isRight_25 : decode cX0_isRight 25 = .ok (.if_icmp .ne 7, 3) := by decide +kernel
theorem dX0_isRight_28 : decode cX0_isRight 28 = .ok (.iconst 1, 1) := by decide +kernel
theorem dX0_isRight_29 : decode cX0_isRight 29 = .ok (.goto 4, 3) := by decide +kernel
theorem dX0_isRight_32 : decode cX0_isRight 32 = .ok (.iconst 0, 1) := by decide +kernel
theorem dX0_isRight_33 : decode cX0_isRight 33 = .ok (.ireturn, 1) := by decide +kernel
theorem dX0_mustGoBack_0 : decode cX0_mustGoBack 0 = .ok (.aload_n 0, 1) := by decide +kernel
theorem dX0_mustGoBack_1 : decode cX0_mustGoBack 1 = .ok (.iload_n 1, 1) := by decide +kernel
theorem dX0_mustGoBack_2 : decode cX0_mustGoBack 2 = .ok (.invokevirtual 70, 3) := by decide +kernel
theorem dX0_mustGoBack_5 : decode cX0_mustGoBack 5 = .ok (.ifCond .eq 26, 3) := by decide +kernel
theorem dX0_mustGoBack_8 : decode cX0_mustGoBack 8 = .ok (.aload_n 0, 1) := by decide +kernel
theorem dX0_mustGoBack_9 : decode cX0_mustGoBack 9 = .ok (.getfield 33, 3) := by decide +kernel
theorem dX0_mustGoBack_12 : decode cX0_mustGoBack 12 = .ok (.iload_n 1, 1) := by decide +kernel
theorem dX0_mustGoBack_13 : decode cX0_mustGoBack 13 = .ok (.iaload, 1) := by decide +kernel
theorem dX0_mustGoBack_14 : decode cX0_mustGoBack 14 = .ok (.aload_n 0, 1) := by decide +kernel
theorem dX0_mustGoBack_15 : decode cX0_mustGoBack 15 = .ok (.getfield 37, 3) := by decide +kernel
theorem dX0_mustGoBack_18 : decode cX0_mustGoBack 18 = .ok (.iload_n 1, 1) := by decide +kernel
theorem dX0_mustGoBack_19 : decode cX0_mustGoBack 19 = .ok (.iaload, 1) := by decide +kernel
theorem dX0_mustGoBack_20 : decode cX0_mustGoBack 20 = .ok (.iand, 1) := by decide +kernel
theorem dX0_mustGoBack_21 : decode cX0_mustGoBack 21 = .ok (.iload_n 2, 1) := by decide +kernel
theorem dX0_mustGoBack_22 : decode cX0_mustGoBack 22 = .ok (.iand, 1) := by decide +kernel
theorem dX0_mustGoBack_23 : decode cX0_mustGoBack 23 = .ok (.iload_n 2, 1) := by decide +kernel
theorem dX0_mustGoBack_24 : decode cX0_mustGoBack 24 = .ok (.if_icmp .eq 7, 3) := by decide +kernel
theorem dX0_mustGoBack_27 : decode cX0_mustGoBack 27 = .ok (.iconst 1, 1) := by decide +kernel
theorem dX0_mustGoBack_28 : decode cX0_mustGoBack 28 = .ok (.goto 4, 3) := by decide +kernel
theorem dX0_mustGoBack_31 : decode cX0_mustGoBack 31 = .ok (.iconst 0, 1) := by decide +kernel
theorem dX0_mustGoBack_32 : decode cX0_mustGoBack 32 = .ok (.ireturn, 1) := by decide +kernel
theorem dX0_takePulse_0 : decode cX0_takePulse 0 = .ok (.aload_n 0, 1) := by decide +kernel
theorem dX0_takePulse_1 : decode cX0_takePulse 1 = .ok (.dup, 1) := by decide +kernel
theorem dX0_takePulse_2 : decode cX0_takePulse 2 = .ok (.getfield 90, 3) := by decide +kernel
theorem dX0_takePulse_5 : decode cX0_takePulse 5 = .ok (.iconst 1, 1) := by decide +kernel
theorem dX0_takePulse_6 : decode cX0_takePulse 6 = .ok (.iadd, 1) := by decide +kernel
theorem dX0_takePulse_7 : decode cX0_takePulse 7 = .ok (.putfield 90, 3) := by decide +kernel
theorem dX0_takePulse_10 : decode cX0_takePulse 10 = .ok (.iload_n 3, 1) := by decide +kernel
theorem dX0_takePulse_11 : decode cX0_takePulse 11 = .ok (.aload_n 0, 1) := by decide +kernel
theorem dX0_takePulse_12 : decode cX0_takePulse 12 = .ok (.getfield 55, 3) := by decide +kernel
theorem dX0_takePulse_15 : decode cX0_takePulse 15 = .ok (.if_icmp .lt 11, 3) := by decide +kernel
theorem dX0_takePulse_18 : decode cX0_takePulse 18 = .ok (.aload_n 0, 1) := by decide +kernel
theorem dX0_takePulse_19 : decode cX0_takePulse 19 = .ok (.iload_n 1, 1) := by decide +kernel
theorem dX0_takePulse_20 : decode cX0_takePulse 20 = .ok (.invokevirtual 70, 3) := by decide +kernel
theorem dX0_takePulse_23 : decode cX0_takePulse 23 = .ok (.ifCond .ne 4, 3) := by decide +kernel
theorem dX0_takePulse_26 : decode cX0_takePulse 26 = .ok (.return_, 1) := by decide +kernel
theorem dX0_takePulse_27 : decode cX0_takePulse 27 = .ok (.aload_n 0, 1) := by decide +kernel
theorem dX0_takePulse_28 : decode cX0_takePulse 28 = .ok (.getfield 43, 3) := by decide +kernel
theorem dX0_takePulse_31 : decode cX0_takePulse 31 = .ok (.iload_n 1, 1) := by decide +kernel
theorem dX0_takePulse_32 : decode cX0_takePulse 32 = .ok (.aload_n 0, 1) := by decide +kernel
theorem dX0_takePulse_33 : decode cX0_takePulse 33 = .ok (.getfield 46, 3) := by decide +kernel
theorem dX0_takePulse_36 : decode cX0_takePulse 36 = .ok (.iload_n 1, 1) := by decide +kernel
theorem dX0_takePulse_37 : decode cX0_takePulse 37 = .ok (.iaload, 1) := by decide +kernel
theorem dX0_takePulse_38 : decode cX0_takePulse 38 = .ok (.iload_n 2, 1) := by decide +kernel
theorem dX0_takePulse_39 : decode cX0_takePulse 39 = .ok (.if_icmp .ne 14, 3) := by decide +kernel
theorem dX0_takePulse_42 : decode cX0_takePulse 42 = .ok (.aload_n 0, 1) := by decide +kernel
theorem dX0_takePulse_43 : decode cX0_takePulse 43 = .ok (.getfield 43, 3) := by decide +kernel
theorem dX0_takePulse_46 : decode cX0_takePulse 46 = .ok (.iload_n 1, 1) := by decide +kernel
theorem dX0_takePulse_47 : decode cX0_takePulse 47 = .ok (.iaload, 1) := by decide +kernel
theorem dX0_takePulse_48 : decode cX0_takePulse 48 = .ok (.iconst 1, 1) := by decide +kernel
theorem dX0_takePulse_49 : decode cX0_takePulse 49 = .ok (.iadd, 1) := by decide +kernel
theorem dX0_takePulse_50 : decode cX0_takePulse 50 = .ok (.goto 4, 3) := by decide +kernel
theorem dX0_takePulse_53 : decode cX0_takePulse 53 = .ok (.iconst 1, 1) := by decide +kernel
theorem dX0_takePulse_54 : decode cX0_takePulse 54 = .ok (.iastore, 1) := by decide +kernel
theorem dX0_takePulse_55 : decode cX0_takePulse 55 = .ok (.aload_n 0, 1) := by decide +kernel
theorem dX0_takePulse_56 : decode cX0_takePulse 56 = .ok (.getfield 46, 3) := by decide +kernel
theorem dX0_takePulse_59 : decode cX0_takePulse 59 = .ok (.iload_n 1, 1) := by decide +kernel
theorem dX0_takePulse_60 : decode cX0_takePulse 60 = .ok (.iload_n 2, 1) := by decide +kernel
theorem dX0_takePulse_61 : decode cX0_takePulse 61 = .ok (.iastore, 1) := by decide +kernel
theorem dX0_takePulse_62 : decode cX0_takePulse 62 = .ok (.aload_n 0, 1) := by decide +kernel
theorem dX0_takePulse_63 : decode cX0_takePulse 63 = .ok (.getfield 43, 3) := by decide +kernel
theorem dX0_takePulse_66 : decode cX0_takePulse 66 = .ok (.iload_n 1, 1) := by decide +kernel
theorem dX0_takePulse_67 : decode cX0_takePulse 67 = .ok (.iaload, 1) := by decide +kernel
theorem dX0_takePulse_68 : decode cX0_takePulse 68 = .ok (.aload_n 0, 1) := by decide +kernel
theorem dX0_takePulse_69 : decode cX0_takePulse 69 = .ok (.getfield 40, 3) := by decide +kernel
theorem dX0_takePulse_72 : decode cX0_takePulse 72 = .ok (.iload_n 1, 1) := by decide +kernel
theorem dX0_takePulse_73 : decode cX0_takePulse 73 = .ok (.iaload, 1) := by decide +kernel
theorem dX0_takePulse_74 : decode cX0_takePulse 74 = .ok (.if_icmp .lt 13, 3) := by decide +kernel
theorem dX0_takePulse_77 : decode cX0_takePulse 77 = .ok (.aload_n 0, 1) := by decide +kernel
theorem dX0_takePulse_78 : decode cX0_takePulse 78 = .ok (.getfield 33, 3) := by decide +kernel
theorem dX0_takePulse_81 : decode cX0_takePulse 81 = .ok (.iload_n 1, 1) := by decide +kernel
theorem dX0_takePulse_82 : decode cX0_takePulse 82 = .ok (.dup2, 1) := by decide +kernel
theorem dX0_takePulse_83 : decode cX0_takePulse 83 = .ok (.iaload, 1) := by decide +kernel
theorem dX0_takePulse_84 : decode cX0_takePulse 84 = .ok (.iload_n 2, 1) := by decide +kernel
theorem dX0_takePulse_85 : decode cX0_takePulse 85 = .ok (.iand, 1) := by decide +kernel
theorem dX0_takePulse_86 : decode cX0_takePulse 86 = .ok (.iastore, 1) := by decide +kernel
theorem dX0_takePulse_87 : decode cX0_takePulse 87 = .ok (.aload_n 0, 1) := by decide +kernel
theorem dX0_takePulse_88 : decode cX0_takePulse 88 = .ok (.getfield 43, 3) := by decide +kernel
theorem dX0_takePulse_91 : decode cX0_takePulse 91 = .ok (.iload_n 1, 1) := by decide +kernel
theorem dX0_takePulse_92 : decode cX0_takePulse 92 = .ok (.iaload, 1) := by decide +kernel
theorem dX0_takePulse_93 : decode cX0_takePulse 93 = .ok (.aload_n 0, 1) := by decide +kernel
theorem dX0_takePulse_94 : decode cX0_takePulse 94 = .ok (.getfield 40, 3) := by decide +kernel
theorem dX0_takePulse_97 : decode cX0_takePulse 97 = .ok (.iload_n 1, 1) := by decide +kernel
theorem dX0_takePulse_98 : decode cX0_takePulse 98 = .ok (.iaload, 1) := by decide +kernel
theorem dX0_takePulse_99 : decode cX0_takePulse 99 = .ok (.aload_n 0, 1) := by decide +kernel
theorem dX0_takePulse_100 : decode cX0_takePulse 100 = .ok (.getfield 64, 3) := by decide +kernel
theorem dX0_takePulse_103 : decode cX0_takePulse 103 = .ok (.iadd, 1) := by decide +kernel
theorem dX0_takePulse_104 : decode cX0_takePulse 104 = .ok (.if_icmp .lt 13, 3) := by decide +kernel
theorem dX0_takePulse_107 : decode cX0_takePulse 107 = .ok (.aload_n 0, 1) := by decide +kernel
theorem dX0_takePulse_108 : decode cX0_takePulse 108 = .ok (.getfield 37, 3) := by decide +kernel
theorem dX0_takePulse_111 : decode cX0_takePulse 111 = .ok (.iload_n 1, 1) := by decide +kernel
theorem dX0_takePulse_112 : decode cX0_takePulse 112 = .ok (.dup2, 1) := by decide +kernel
theorem dX0_takePulse_113 : decode cX0_takePulse 113 = .ok (.iaload, 1) := by decide +kernel
theorem dX0_takePulse_114 : decode cX0_takePulse 114 = .ok (.iload_n 2, 1) := by decide +kernel
theorem dX0_takePulse_115 : decode cX0_takePulse 115 = .ok (.iand, 1) := by decide +kernel
theorem dX0_takePulse_116 : decode cX0_takePulse 116 = .ok (.iastore, 1) := by decide +kernel
theorem dX0_takePulse_117 : decode cX0_takePulse 117 = .ok (.return_, 1) := by decide +kernel
theorem dX0_blockCount_0 : decode cX0_blockCount 0 = .ok (.aload_n 0, 1) := by decide +kernel
theorem dX0_blockCount_1 : decode cX0_blockCount 1 = .ok (.getfield 22, 3) := by decide +kernel
theorem dX0_blockCount_4 : decode cX0_blockCount 4 = .ok (.bipush 8, 2) := by decide +kernel
theorem dX0_blockCount_6 : decode cX0_blockCount 6 = .ok (.idiv, 1) := by decide +kernel
theorem dX0_blockCount_7 : decode cX0_blockCount 7 = .ok (.ireturn, 1) := by decide +kernel
theorem dX0_isAddress_0 : decode cX0_isAddress 0 = .ok (.iload_n 1, 1) := by decide +kernel
theorem dX0_isAddress_1 : decode cX0_isAddress 1 = .ok (.ifCond .lt 15, 3) := by decide +kernel
theorem dX0_isAddress_4 : decode cX0_isAddress 4 = .ok (.iload_n 1, 1) := by decide +kernel
theorem dX0_isAddress_5 : decode cX0_isAddress 5 = .ok (.aload_n 0, 1) := by decide +kernel
theorem dX0_isAddress_6 : decode cX0_isAddress 6 = .ok (.getfield 22, 3) := by decide +kernel
theorem dX0_isAddress_9 : decode cX0_isAddress 9 = .ok (.if_icmp .ge 7, 3) := by decide +kernel
theorem dX0_isAddress_12 : decode cX0_isAddress 12 = .ok (.iconst 1, 1) := by decide +kernel
theorem dX0_isAddress_13 : decode cX0_isAddress 13 = .ok (.goto 4, 3) := by decide +kernel
theorem dX0_isAddress_16 : decode cX0_isAddress 16 = .ok (.iconst 0, 1) := by decide +kernel
theorem dX0_isAddress_17 : decode cX0_isAddress 17 = .ok (.ireturn, 1) := by decide +kernel
theorem dX1_init_0 : decode cX1_init 0 = .ok (.aload_n 0, 1) := by decide +kernel
theorem dX1_init_1 : decode cX1_init 1 = .ok (.invokespecial 3, 3) := by decide +kernel
theorem dX1_init_4 : decode cX1_init 4 = .ok (.aload_n 0, 1) := by decide +kernel
theorem dX1_init_5 : decode cX1_init 5 = .ok (.iconst (-1), 1) := by decide +kernel
theorem dX1_init_6 : decode cX1_init 6 = .ok (.putfield 9, 3) := by decide +kernel
theorem dX1_init_9 : decode cX1_init 9 = .ok (.aload_n 0, 1) := by decide +kernel
theorem dX1_init_10 : decode cX1_init 10 = .ok (.iconst (-1), 1) := by decide +kernel
theorem dX1_init_11 : decode cX1_init 11 = .ok (.putfield 15, 3) := by decide +kernel
theorem dX1_init_14 : decode cX1_init 14 = .ok (.return_, 1) := by decide +kernel
theorem dX1_start_0 : decode cX1_start 0 = .ok (.aload_n 0, 1) := by decide +kernel
theorem dX1_start_1 : decode cX1_start 1 = .ok (.iconst 0, 1) := by decide +kernel
theorem dX1_start_2 : decode cX1_start 2 = .ok (.putfield 9, 3) := by decide +kernel
theorem dX1_start_5 : decode cX1_start 5 = .ok (.aload_n 0, 1) := by decide +kernel
theorem dX1_start_6 : decode cX1_start 6 = .ok (.iconst (-1), 1) := by decide +kernel
theorem dX1_start_7 : decode cX1_start 7 = .ok (.putfield 15, 3) := by decide +kernel
theorem dX1_start_10 : decode cX1_start 10 = .ok (.return_, 1) := by decide +kernel
theorem dX1_mark_0 : decode cX1_mark 0 = .ok (.aload_n 0, 1) := by decide +kernel
theorem dX1_mark_1 : decode cX1_mark 1 = .ok (.iload_n 1, 1) := by decide +kernel
theorem dX1_mark_2 : decode cX1_mark 2 = .ok (.putfield 9, 3) := by decide +kernel
theorem dX1_mark_5 : decode cX1_mark 5 = .ok (.aload_n 0, 1) := by decide +kernel
theorem dX1_mark_6 : decode cX1_mark 6 = .ok (.iload_n 2, 1) := by decide +kernel
theorem dX1_mark_7 : decode cX1_mark 7 = .ok (.putfield 15, 3) := by decide +kernel
theorem dX1_mark_10 : decode cX1_mark 10 = .ok (.return_, 1) := by decide +kernel
theorem dX1_isFault_0 : decode cX1_isFault 0 = .ok (.aload_n 0, 1) := by decide +kernel
theorem dX1_isFault_1 : decode cX1_isFault 1 = .ok (.getfield 9, 3) := by decide +kernel
theorem dX1_isFault_4 : decode cX1_isFault 4 = .ok (.ifCond .le 7, 3) := by decide +kernel
theorem dX1_isFault_7 : decode cX1_isFault 7 = .ok (.iconst 1, 1) := by decide +kernel
theorem dX1_isFault_8 : decode cX1_isFault 8 = .ok (.goto 4, 3) := by decide +kernel
theorem dX1_isFault_11 : decode cX1_isFault 11 = .ok (.iconst 0, 1) := by decide +kernel
theorem dX1_isFault_12 : decode cX1_isFault 12 = .ok (.ireturn, 1) := by decide +kernel
theorem dX2_init_0 : decode cX2_init 0 = .ok (.aload_n 0, 1) := by decide +kernel
theorem dX2_init_1 : decode cX2_init 1 = .ok (.invokespecial 3, 3) := by decide +kernel
theorem dX2_init_4 : decode cX2_init 4 = .ok (.aload_n 0, 1) := by decide +kernel
theorem dX2_init_5 : decode cX2_init 5 = .ok (.sipush 256, 3) := by decide +kernel
theorem dX2_init_8 : decode cX2_init 8 = .ok (.newarray .int, 2) := by decide +kernel
theorem dX2_init_10 : decode cX2_init 10 = .ok (.putfield 9, 3) := by decide +kernel
theorem dX2_init_13 : decode cX2_init 13 = .ok (.aload_n 0, 1) := by decide +kernel
theorem dX2_init_14 : decode cX2_init 14 = .ok (.aload_n 1, 1) := by decide +kernel
theorem dX2_init_15 : decode cX2_init 15 = .ok (.putfield 15, 3) := by decide +kernel
theorem dX2_init_18 : decode cX2_init 18 = .ok (.aload_n 0, 1) := by decide +kernel
theorem dX2_init_19 : decode cX2_init 19 = .ok (.aload_n 2, 1) := by decide +kernel
theorem dX2_init_20 : decode cX2_init 20 = .ok (.putfield 19, 3) := by decide +kernel
theorem dX2_init_23 : decode cX2_init 23 = .ok (.return_, 1) := by decide +kernel
theorem dX2_readInto_0 : decode cX2_readInto 0 = .ok (.aload_n 1, 1) := by decide +kernel
theorem dX2_readInto_1 : decode cX2_readInto 1 = .ok (.arraylength, 1) := by decide +kernel
theorem dX2_readInto_2 : decode cX2_readInto 2 = .ok (.sipush 256, 3) := by decide +kernel
theorem dX2_readInto_5 : decode cX2_readInto 5 = .ok (.invokestatic 23, 3) := by decide +kernel
theorem dX2_readInto_8 : decode cX2_readInto 8 = .ok (.istore_n 3, 1) := by decide +kernel
theorem dX2_readInto_9 : decode cX2_readInto 9 = .ok (.aload_n 1, 1) := by decide +kernel
theorem dX2_readInto_10 : decode cX2_readInto 10 = .ok (.iconst 0, 1) := by decide +kernel
theorem dX2_readInto_11 : decode cX2_readInto 11 = .ok (.aload_n 0, 1) := by decide +kernel
theorem dX2_readInto_12 : decode cX2_readInto 12 = .ok (.getfield 9, 3) := by decide +kernel
theorem dX2_readInto_15 : decode cX2_readInto 15 = .ok (.iconst 0, 1) := by decide +kernel
theorem dX2_readInto_16 : decode cX2_readInto 16 = .ok (.iload_n 3, 1) := by decide +kernel
theorem dX2_readInto_17 : decode cX2_readInto 17 = .ok (.invokestatic 29, 3) := by decide +kernel
theorem dX2_readInto_20 : decode cX2_readInto 20 = .ok (.aload_n 0, 1) := by decide +kernel
theorem dX2_readInto_21 : decode cX2_readInto 21 = .ok (.getfield 19, 3) := by decide +kernel
theorem dX2_readInto_24 : decode cX2_readInto 24 = .ok (.invokevirtual 35, 3) := by decide +kernel
theorem dX2_readInto_27 : decode cX2_readInto 27 = .ok (.aload_n 0, 1) := by decide +kernel
theorem dX2_readInto_28 : decode cX2_readInto 28 = .ok (.iconst 0, 1) := by decide +kernel
theorem dX2_readInto_29 : decode cX2_readInto 29 = .ok (.putfield 40, 3) := by decide +kernel
theorem dX2_readInto_32 : decode cX2_readInto 32 = .ok (.iload_n 2, 1) := by decide +kernel
theorem dX2_readInto_33 : decode cX2_readInto 33 = .ok (.ifCond .ne 10, 3) := by decide +kernel
theorem dX2_readInto_36 : decode cX2_readInto 36 = .ok (.aload_n 0, 1) := by decide +kernel
theorem dX2_readInto_37 : decode cX2_readInto 37 = .ok (.invokevirtual 44, 3) := by decide +kernel
theorem dX2_readInto_40 : decode cX2_readInto 40 = .ok (.goto 8, 3) := by decide +kernel
theorem dX2_readInto_43 : decode cX2_readInto 43 = .ok (.aload_n 0, 1) := by decide +kernel
theorem dX2_readInto_44 : decode cX2_readInto 44 = .ok (.iload_n 2, 1) := by decide +kernel
theorem dX2_readInto_45 : decode cX2_readInto 45 = .ok (.invokevirtual 47, 3) := by decide +kernel
theorem dX2_readInto_48 : decode cX2_readInto 48 = .ok (.aload_n 0, 1) := by decide +kernel
theorem dX2_readInto_49 : decode cX2_readInto 49 = .ok (.getfield 19, 3) := by decide +kernel
theorem dX2_readInto_52 : decode cX2_readInto 52 = .ok (.invokevirtual 51, 3) := by decide +kernel
theorem dX2_readInto_55 : decode cX2_readInto 55 = .ok (.ifCond .eq 5, 3) := by decide +kernel
theorem dX2_readInto_58 : decode cX2_readInto 58 = .ok (.iconst (-1), 1) := by decide +kernel
theorem dX2_readInto_59 : decode cX2_readInto 59 = .ok (.ireturn, 1) := by decide +kernel
theorem dX2_readInto_60 : decode cX2_readInto 60 = .ok (.aload_n 0, 1) := by decide +kernel
theorem dX2_readInto_61 : decode cX2_readInto 61 = .ok (.getfield 9, 3) := by decide +kernel
theorem dX2_readInto_64 : decode cX2_readInto 64 = .ok (.iconst 0, 1) := by decide +kernel
theorem dX2_readInto_65 : decode cX2_readInto 65 = .ok (.aload_n 1, 1) := by decide +kernel
theorem dX2_readInto_66 : decode cX2_readInto 66 = .ok (.iconst 0, 1) := by decide +kernel
theorem dX2_readInto_67 : decode cX2_readInto 67 = .ok (.iload_n 3, 1) := by decide +kernel
theorem dX2_readInto_68 : decode cX2_readInto 68 = .ok (.invokestatic 29, 3) := by decide +kernel
theorem dX2_readInto_71 : decode cX2_readInto 71 = .ok (.aload_n 0, 1) := by decide +kernel
theorem dX2_readInto_72 : decode cX2_readInto 72 = .ok (.getfield 40, 3) := by decide +kernel
theorem dX2_readInto_75 : decode cX2_readInto 75 = .ok (.ireturn, 1) := by decide +kernel
theorem dX2_takePlain_0 : decode cX2_takePlain 0 = .ok (.aload_n 0, 1) := by decide +kernel
theorem dX2_takePlain_1 : decode cX2_takePlain 1 = .ok (.getfield 15, 3) := by decide +kernel
theorem dX2_takePlain_4 : decode cX2_takePlain 4 = .ok (.invokevirtual 55, 3) := by decide +kernel
theorem dX2_takePlain_7 : decode cX2_takePlain 7 = .ok (.sipush 256, 3) := by decide +kernel
theorem dX2_takePlain_10 : decode cX2_takePlain 10 = .ok (.if_icmp .le 15, 3) := by decide +kernel
theorem dX2_takePlain_13 : decode cX2_takePlain 13 = .ok (.aload_n 0, 1) := by decide +kernel
theorem dX2_takePlain_14 : decode cX2_takePlain 14 = .ok (.getfield 19, 3) := by decide +kernel
theorem dX2_takePlain_17 : decode cX2_takePlain 17 = .ok (.iconst 5, 1) := by decide +kernel
theorem dX2_takePlain_18 : decode cX2_takePlain 18 = .ok (.sipush 256, 3) := by decide +kernel
theorem dX2_takePlain_21 : decode cX2_takePlain 21 = .ok (.invokevirtual 61, 3) := by decide +kernel
theorem dX2_takePlain_24 : decode cX2_takePlain 24 = .ok (.return_, 1) := by decide +kernel
theorem dX2_takePlain_25 : decode cX2_takePlain 25 = .ok (.iconst 0, 1) := by decide +kernel
theorem dX2_takePlain_26 : decode cX2_takePlain 26 = .ok (.istore_n 1, 1) := by decide +kernel
theorem dX2_takePlain_27 : decode cX2_takePlain 27 = .ok (.iload_n 1, 1) := by decide +kernel
theorem dX2_takePlain_28 : decode cX2_takePlain 28 = .ok (.aload_n 0, 1) := by decide +kernel
theorem dX2_takePlain_29 : decode cX2_takePlain 29 = .ok (.getfield 15, 3) := by decide +kernel
theorem dX2_takePlain_32 : decode cX2_takePlain 32 = .ok (.invokevirtual 55, 3) := by decide +kernel
theorem dX2_takePlain_35 : decode cX2_takePlain 35 = .ok (.if_icmp .ge 22, 3) := by decide +kernel
theorem dX2_takePlain_38 : decode cX2_takePlain 38 = .ok (.aload_n 0, 1) := by decide +kernel
theorem dX2_takePlain_39 : decode cX2_takePlain 39 = .ok (.iload_n 1, 1) := by decide +kernel
theorem dX2_takePlain_40 : decode cX2_takePlain 40 = .ok (.aload_n 0, 1) := by decide +kernel
theorem dX2_takePlain_41 : decode cX2_takePlain 41 = .ok (.getfield 15, 3) := by decide +kernel
theorem dX2_takePlain_44 : decode cX2_takePlain 44 = .ok (.iload_n 1, 1) := by decide +kernel
theorem dX2_takePlain_45 : decode cX2_takePlain 45 = .ok (.invokevirtual 65, 3) := by decide +kernel
theorem dX2_takePlain_48 : decode cX2_takePlain 48 = .ok (.invokevirtual 69, 3) := by decide +kernel
theorem dX2_takePlain_51 : decode cX2_takePlain 51 = .ok (.iinc 1 1, 3) := by decide +kernel
theorem dX2_takePlain_54 : decode cX2_takePlain 54 = .ok (.goto (-27), 3) := by decide +kernel
theorem dX2_takePlain_57 : decode cX2_takePlain 57 = .ok (.return_, 1) := by decide +kernel
theorem dX2_takeLines_0 : decode cX2_takeLines 0 = .ok (.aload_n 0, 1) := by decide +kernel
theorem dX2_takeLines_1 : decode cX2_takeLines 1 = .ok (.iconst 0, 1) := by decide +kernel
theorem dX2_takeLines_2 : decode cX2_takeLines 2 = .ok (.putfield 72, 3) := by decide +kernel
theorem dX2_takeLines_5 : decode cX2_takeLines 5 = .ok (.iconst 0, 1) := by decide +kernel
theorem dX2_takeLines_6 : decode cX2_takeLines 6 = .ok (.istore_n 2, 1) := by decide +kernel
theorem dX2_takeLines_7 : decode cX2_takeLines 7 = .ok (.iconst 0, 1) := by decide +kernel
theorem dX2_takeLines_8 : decode cX2_takeLines 8 = .ok (.istore_n 3, 1) := by decide +kernel
theorem dX2_takeLines_9 : decode cX2_takeLines 9 = .ok (.iload_n 3, 1) := by decide +kernel
theorem dX2_takeLines_10 : decode cX2_takeLines 10 = .ok (.aload_n 0, 1) := by decide +kernel
theorem dX2_takeLines_11 : decode cX2_takeLines 11 = .ok (.getfield 15, 3) := by decide +kernel
theorem dX2_takeLines_14 : decode cX2_takeLines 14 = .ok (.invokevirtual 55, 3) := by decide +kernel
theorem dX2_takeLines_17 : decode cX2_takeLines 17 = .ok (.if_icmp .gt 65, 3) := by decide +kernel
theorem dX2_takeLines_20 : decode cX2_takeLines 20 = .ok (.aload_n 0, 1) := by decide +kernel
theorem dX2_takeLines_21 : decode cX2_takeLines 21 = .ok (.getfield 72, 3) := by decide +kernel
theorem dX2_takeLines_24 : decode cX2_takeLines 24 = .ok (.ifCond .ne 58, 3) := by decide +kernel
theorem dX2_takeLines_27 : decode cX2_takeLines 27 = .ok (.aload_n 0, 1) := by decide +kernel
theorem dX2_takeLines_28 : decode cX2_takeLines 28 = .ok (.getfield 19, 3) := by decide +kernel
theorem dX2_takeLines_31 : decode cX2_takeLines 31 = .ok (.invokevirtual 51, 3) := by decide +kernel
theorem dX2_takeLines_34 : decode cX2_takeLines 34 = .ok (.ifCond .ne 48, 3) := by decide +kernel
theorem dX2_takeLines_37 : decode cX2_takeLines 37 = .ok (.aload_n 0, 1) := by decide +kernel
theorem dX2_takeLines_38 : decode cX2_takeLines 38 = .ok (.getfield 15, 3) := by decide +kernel
theorem dX2_takeLines_41 : decode cX2_takeLines 41 = .ok (.iload_n 3, 1) := by decide +kernel
theorem dX2_takeLines_42 : decode cX2_takeLines 42 = .ok (.invokevirtual 65, 3) := by decide +kernel
theorem dX2_takeLines_45 : decode cX2_takeLines 45 = .ok (.istore 4, 2) := by decide +kernel
theorem dX2_takeLines_47 : decode cX2_takeLines 47 = .ok (.iload 4, 2) := by decide +kernel
theorem dX2_takeLines_49 : decode cX2_takeLines 49 = .ok (.bipush 10, 2) := by decide +kernel
theorem dX2_takeLines_51 : decode cX2_takeLines 51 = .ok (.if_icmp .eq 9, 3) := by decide +kernel
theorem dX2_takeLines_54 : decode cX2_takeLines 54 = .ok (.iload 4, 2) := by decide +kernel
theorem dX2_takeLines_56 : decode cX2_takeLines 56 = .ok (.iconst (-1), 1) := by decide +kernel
theorem dX2_takeLines_57 : decode cX2_takeLines 57 = .ok (.if_icmp .ne 19, 3) := by decide +kernel
theorem dX2_takeLines_60 : decode cX2_takeLines 60 = .ok (.aload_n 0, 1) := by decide +kernel
theorem dX2_takeLines_61 : decode cX2_takeLines 61 = .ok (.iload_n 1, 1) := by decide +kernel
theorem dX2_takeLines_62 : decode cX2_takeLines 62 = .ok (.iload_n 2, 1) := by decide +kernel
theorem dX2_takeLines_63 : decode cX2_takeLines 63 = .ok (.aload_n 0, 1) := by decide +kernel
theorem dX2_takeLines_64 : decode cX2_takeLines 64 = .ok (.iload_n 2, 1) := by decide +kernel
theorem dX2_takeLines_65 : decode cX2_takeLines 65 = .ok (.iload_n 3, 1) := by decide +kernel
theorem dX2_takeLines_66 : decode cX2_takeLines 66 = .ok (.invokevirtual 76, 3) := by decide +kernel
theorem dX2_takeLines_69 : decode cX2_takeLines 69 = .ok (.invokevirtual 79, 3) := by decide +kernel
theorem dX2_takeLines_72 : decode cX2_takeLines 72 = .ok (.iload_n 3, 1) := by decide +kernel
theorem dX2_takeLines_73 : decode cX2_takeLines 73 = .ok (.iconst 1, 1) := by decide +kernel
theorem dX2_takeLines_74 : decode cX2_takeLines 74 = .ok (.iadd, 1) := by decide +kernel
theorem dX2_takeLines_75 : decode cX2_takeLines 75 = .ok (.istore_n 2, 1) := by decide +kernel
theorem dX2_takeLines_76 : decode cX2_takeLines 76 = .ok (.iinc 3 1, 3) := by decide +kernel
theorem dX2_takeLines_79 : decode cX2_takeLines 79 = .ok (.goto (-70), 3) := by decide +kernel
theorem dX2_takeLines_82 : decode cX2_takeLines 82 = .ok (.aload_n 0, 1) := by decide +kernel
theorem dX2_takeLines_83 : decode cX2_takeLines 83 = .ok (.getfield 72, 3) := by decide +kernel
theorem dX2_takeLines_86 : decode cX2_takeLines 86 = .ok (.ifCond .ne 28, 3) := by decide +kernel
theorem dX2_takeLines_89 : decode cX2_takeLines 89 = .ok (.aload_n 0, 1) := by decide +kernel
theorem dX2_takeLines_90 : decode cX2_takeLines 90 = .ok (.getfield 19, 3) := by decide +kernel
theorem dX2_takeLines_93 : decode cX2_takeLines 93 = .ok (.invokevirtual 51, 3) := by decide +kernel
theorem dX2_takeLines_96 : decode cX2_takeLines 96 = .ok (.ifCond .ne 18, 3) := by decide +kernel
theorem dX2_takeLines_99 : decode cX2_takeLines 99 = .ok (.aload_n 0, 1) := by decide +kernel
theorem dX2_takeLines_100 : decode cX2_takeLines 100 = .ok (.getfield 19, 3) := by decide +kernel
theorem dX2_takeLines_103 : decode cX2_takeLines 103 = .ok (.iconst 4, 1) := by decide +kernel
theorem dX2_takeLines_104 : decode cX2_takeLines 104 = .ok (.aload_n 0, 1) := by decide +kernel
theorem dX2_takeLines_105 : decode cX2_takeLines 105 = .ok (.getfield 15, 3) := by decide +kernel
theorem dX2_takeLines_108 : decode cX2_takeLines 108 = .ok (.invokevirtual 55, 3) := by decide +kernel
theorem dX2_takeLines_111 : decode cX2_takeLines 111 = .ok (.invokevirtual 61, 3) := by decide +kernel
theorem dX2_takeLines_114 : decode cX2_takeLines 114 = .ok (.return_, 1) := by decide +kernel
theorem dX2_stopOf_0 : decode cX2_stopOf 0 = .ok (.aload_n 0, 1) := by decide +kernel
theorem dX2_stopOf_1 : decode cX2_stopOf 1 = .ok (.getfield 15, 3) := by decide +kernel
theorem dX2_stopOf_4 : decode cX2_stopOf 4 = .ok (.iload_n 2, 1) := by decide +kernel
theorem dX2_stopOf_5 : decode cX2_stopOf 5 = .ok (.invokevirtual 65, 3) := by decide +kernel
theorem dX2_stopOf_8 : decode cX2_stopOf 8 = .ok (.bipush 10, 2) := by decide +kernel
theorem dX2_stopOf_10 : decode cX2_stopOf 10 = .ok (.if_icmp .ne 27, 3) := by decide +kernel
theorem dX2_stopOf_13 : decode cX2_stopOf 13 = .ok (.iload_n 2, 1) := by decide +kernel
theorem dX2_stopOf_14 : decode cX2_stopOf 14 = .ok (.iload_n 1, 1) := by decide +kernel
theorem dX2_stopOf_15 : decode cX2_stopOf 15 = .ok (.if_icmp .le 22, 3) := by decide +kernel
theorem dX2_stopOf_18 : decode cX2_stopOf 18 = .ok (.aload_n 0, 1) := by decide +kernel
theorem dX2_stopOf_19 : decode cX2_stopOf 19 = .ok (.getfield 15, 3) := by decide +kernel
theorem dX2_stopOf_22 : decode cX2_stopOf 22 = .ok (.iload_n 2, 1) := by decide +kernel
theorem dX2_stopOf_23 : decode cX2_stopOf 23 = .ok (.iconst 1, 1) := by decide +kernel
theorem dX2_stopOf_24 : decode cX2_stopOf 24 = .ok (.isub, 1) := by decide +kernel
theorem dX2_stopOf_25 : decode cX2_stopOf 25 = .ok (.invokevirtual 65, 3) := by decide +kernel
theorem dX2_stopOf_28 : decode cX2_stopOf 28 = .ok (.bipush 13, 2) := by decide +kernel
theorem dX2_stopOf_30 : decode cX2_stopOf 30 = .ok (.if_icmp .ne 7, 3) := by decide +kernel
theorem dX2_stopOf_33 : decode cX2_stopOf 33 = .ok (.iconst 1, 1) := by decide +kernel
theorem dX2_stopOf_34 : decode cX2_stopOf 34 = .ok (.goto 4, 3) := by decide +kernel
theorem dX2_stopOf_37 : decode cX2_stopOf 37 = .ok (.iconst 0, 1) := by decide +kernel
theorem dX2_stopOf_38 : decode cX2_stopOf 38 = .ok (.istore_n 3, 1) := by decide +kernel
theorem dX2_stopOf_39 : decode cX2_stopOf 39 = .ok (.iload_n 3, 1) := by decide +kernel
theorem dX2_stopOf_40 : decode cX2_stopOf 40 = .ok (.ifCond .eq 9, 3) := by decide +kernel
theorem dX2_stopOf_43 : decode cX2_stopOf 43 = .ok (.iload_n 2, 1) := by decide +kernel
theorem dX2_stopOf_44 : decode cX2_stopOf 44 = .ok (.iconst 1, 1) := by decide +kernel
theorem dX2_stopOf_45 : decode cX2_stopOf 45 = .ok (.isub, 1) := by decide +kernel
theorem dX2_stopOf_46 : decode cX2_stopOf 46 = .ok (.goto 4, 3) := by decide +kernel
theorem dX2_stopOf_49 : decode cX2_stopOf 49 = .ok (.iload_n 2, 1) := by decide +kernel
theorem dX2_stopOf_50 : decode cX2_stopOf 50 = .ok (.ireturn, 1) := by decide +kernel
theorem dX2_takeLine_0 : decode cX2_takeLine 0 = .ok (.iload_n 3, 1) := by decide +kernel
theorem dX2_takeLine_1 : decode cX2_takeLine 1 = .ok (.iload_n 2, 1) := by decide +kernel
theorem dX2_takeLine_2 : decode cX2_takeLine 2 = .ok (.if_icmp .gt 4, 3) := by decide +kernel
theorem dX2_takeLine_5 : decode cX2_takeLine 5 = .ok (.return_, 1) := by decide +kernel
theorem dX2_takeLine_6 : decode cX2_takeLine 6 = .ok (.iload_n 1, 1) := by decide +kernel
theorem dX2_takeLine_7 : decode cX2_takeLine 7 = .ok (.iconst 1, 1) := by decide +kernel
theorem dX2_takeLine_8 : decode cX2_takeLine 8 = .ok (.if_icmp .ne 7, 3) := by decide +kernel
theorem dX2_takeLine_11 : decode cX2_takeLine 11 = .ok (.iconst 1, 1) := by decide +kernel
theorem dX2_takeLine_12 : decode cX2_takeLine 12 = .ok (.goto 4, 3) := by decide +kernel
theorem dX2_takeLine_15 : decode cX2_takeLine 15 = .ok (.iconst 0, 1) := by decide +kernel
theorem dX2_takeLine_16 : decode cX2_takeLine 16 = .ok (.istore 4, 2) := by decide +kernel
theorem dX2_takeLine_18 : decode cX2_takeLine 18 = .ok (.iload 4, 2) := by decide +kernel
theorem dX2_takeLine_20 : decode cX2_takeLine 20 = .ok (.ifCond .eq 15, 3) := by decide +kernel
theorem dX2_takeLine_23 : decode cX2_takeLine 23 = .ok (.aload_n 0, 1) := by decide +kernel
theorem dX2_takeLine_24 : decode cX2_takeLine 24 = .ok (.iload_n 2, 1) := by decide +kernel
theorem dX2_takeLine_25 : decode cX2_takeLine 25 = .ok (.iload_n 3, 1) := by decide +kernel
theorem dX2_takeLine_26 : decode cX2_takeLine 26 = .ok (.invokevirtual 83, 3) := by decide +kernel
theorem dX2_takeLine_29 : decode cX2_takeLine 29 = .ok (.ifCond .eq 15, 3) := by decide +kernel
theorem dX2_takeLine_32 : decode cX2_takeLine 32 = .ok (.goto 24, 3) := by decide +kernel
theorem dX2_takeLine_35 : decode cX2_takeLine 35 = .ok (.aload_n 0, 1) := by decide +kernel
theorem dX2_takeLine_36 : decode cX2_takeLine 36 = .ok (.iload_n 2, 1) := by decide +kernel
theorem dX2_takeLine_37 : decode cX2_takeLine 37 = .ok (.iload_n 3, 1) := by decide +kernel
theorem dX2_takeLine_38 : decode cX2_takeLine 38 = .ok (.invokevirtual 87, 3) := by decide +kernel
theorem dX2_takeLine_41 : decode cX2_takeLine 41 = .ok (.ifCond .ne 15, 3) := by decide +kernel
theorem dX2_takeLine_44 : decode cX2_takeLine 44 = .ok (.aload_n 0, 1) := by decide +kernel
theorem dX2_takeLine_45 : decode cX2_takeLine 45 = .ok (.getfield 19, 3) := by decide +kernel
theorem dX2_takeLine_48 : decode cX2_takeLine 48 = .ok (.iconst 1, 1) := by decide +kernel
theorem dX2_takeLine_49 : decode cX2_takeLine 49 = .ok (.iload_n 2, 1) := by decide +kernel
theorem dX2_takeLine_50 : decode cX2_takeLine 50 = .ok (.invokevirtual 61, 3) := by decide +kernel
theorem dX2_takeLine_53 : decode cX2_takeLine 53 = .ok (.goto 79, 3) := by decide +kernel
theorem dX2_takeLine_56 : decode cX2_takeLine 56 = .ok (.aload_n 0, 1) := by decide +kernel
theorem dX2_takeLine_57 : decode cX2_takeLine 57 = .ok (.iload_n 2, 1) := by decide +kernel
theorem dX2_takeLine_58 : decode cX2_takeLine 58 = .ok (.iload 4, 2) := by decide +kernel
theorem dX2_takeLine_60 : decode cX2_takeLine 60 = .ok (.ifCond .eq 7, 3) := by decide +kernel
theorem dX2_takeLine_63 : decode cX2_takeLine 63 = .ok (.iconst 1, 1) := by decide +kernel
theorem dX2_takeLine_64 : decode cX2_takeLine 64 = .ok (.goto 4, 3) := by decide +kernel
theorem dX2_takeLine_67 : decode cX2_takeLine 67 = .ok (.iconst 2, 1) := by decide +kernel
theorem dX2_takeLine_68 : decode cX2_takeLine 68 = .ok (.iadd, 1) := by decide +kernel
theorem dX2_takeLine_69 : decode cX2_takeLine 69 = .ok (.iload_n 3, 1) := by decide +kernel
theorem dX2_takeLine_70 : decode cX2_takeLine 70 = .ok (.invokevirtual 90, 3) := by decide +kernel
theorem dX2_takeLine_73 : decode cX2_takeLine 73 = .ok (.sipush 256, 3) := by decide +kernel
theorem dX2_takeLine_76 : decode cX2_takeLine 76 = .ok (.irem, 1) := by decide +kernel
theorem dX2_takeLine_77 : decode cX2_takeLine 77 = .ok (.iload 4, 2) := by decide +kernel
theorem dX2_takeLine_79 : decode cX2_takeLine 79 = .ok (.ifCond .eq 7, 3) := by decide +kernel
theorem dX2_takeLine_82 : decode cX2_takeLine 82 = .ok (.iconst 0, 1) := by decide +kernel
theorem dX2_takeLine_83 : decode cX2_takeLine 83 = .ok (.goto 6, 3) := by decide +kernel
theorem dX2_takeLine_86 : decode cX2_takeLine 86 = .ok (.sipush 255, 3) := by decide +kernel
theorem dX2_takeLine_89 : decode cX2_takeLine 89 = .ok (.if_icmp .eq 15, 3) := by decide +kernel
theorem dX2_takeLine_92 : decode cX2_takeLine 92 = .ok (.aload_n 0, 1) := by decide +kernel
theorem dX2_takeLine_93 : decode cX2_takeLine 93 = .ok (.getfield 19, 3) := by decide +kernel
theorem dX2_takeLine_96 : decode cX2_takeLine 96 = .ok (.iconst 2, 1) := by decide +kernel
theorem dX2_takeLine_97 : decode cX2_takeLine 97 = .ok (.iload_n 2, 1) := by decide +kernel
theorem dX2_takeLine_98 : decode cX2_takeLine 98 = .ok (.invokevirtual 61, 3) := by decide +kernel
theorem dX2_takeLine_101 : decode cX2_takeLine 101 = .ok (.goto 31, 3) := by decide +kernel
theorem dX2_takeLine_104 : decode cX2_takeLine 104 = .ok (.aload_n 0, 1) := by decide +kernel
theorem dX2_takeLine_105 : decode cX2_takeLine 105 = .ok (.getfield 93, 3) := by decide +kernel
theorem dX2_takeLine_108 : decode cX2_takeLine 108 = .ok (.iconst 2, 1) := by decide +kernel
theorem dX2_takeLine_109 : decode cX2_takeLine 109 = .ok (.if_icmp .ne 11, 3) := by decide +kernel
theorem dX2_takeLine_112 : decode cX2_takeLine 112 = .ok (.aload_n 0, 1) := by decide +kernel
theorem dX2_takeLine_113 : decode cX2_takeLine 113 = .ok (.iconst 1, 1) := by decide +kernel
theorem dX2_takeLine_114 : decode cX2_takeLine 114 = .ok (.putfield 72, 3) := by decide +kernel
theorem dX2_takeLine_117 : decode cX2_takeLine 117 = .ok (.goto 15, 3) := by decide +kernel
theorem dX2_takeLine_120 : decode cX2_takeLine 120 = .ok (.aload_n 0, 1) := by decide +kernel
theorem dX2_takeLine_121 : decode cX2_takeLine 121 = .ok (.getfield 93, 3) := by decide +kernel
theorem dX2_takeLine_124 : decode cX2_takeLine 124 = .ok (.ifCond .ne 8, 3) := by decide +kernel
theorem dX2_takeLine_127 : decode cX2_takeLine 127 = .ok (.aload_n 0, 1) := by decide +kernel
theorem dX2_takeLine_128 : decode cX2_takeLine 128 = .ok (.iload_n 2, 1) := by decide +kernel
theorem dX2_takeLine_129 : decode cX2_takeLine 129 = .ok (.invokevirtual 96, 3) := by decide +kernel
theorem dX2_takeLine_132 : decode cX2_takeLine 132 = .ok (.return_, 1) := by decide +kernel
theorem dX2_takeData_0 : decode cX2_takeData 0 = .ok (.aload_n 0, 1) := by decide +kernel
theorem dX2_takeData_1 : decode cX2_takeData 1 = .ok (.getfield 99, 3) := by decide +kernel
theorem dX2_takeData_4 : decode cX2_takeData 4 = .ok (.ifCond .le 28, 3) := by decide +kernel
theorem dX2_takeData_7 : decode cX2_takeData 7 = .ok (.aload_n 0, 1) := by decide +kernel
theorem dX2_takeData_8 : decode cX2_takeData 8 = .ok (.getfield 102, 3) := by decide +kernel
theorem dX2_takeData_11 : decode cX2_takeData 11 = .ok (.aload_n 0, 1) := by decide +kernel
theorem dX2_takeData_12 : decode cX2_takeData 12 = .ok (.getfield 99, 3) := by decide +kernel
theorem dX2_takeData_15 : decode cX2_takeData 15 = .ok (.iadd, 1) := by decide +kernel
theorem dX2_takeData_16 : decode cX2_takeData 16 = .ok (.sipush 256, 3) := by decide +kernel
theorem dX2_takeData_19 : decode cX2_takeData 19 = .ok (.if_icmp .le 13, 3) := by decide +kernel
theorem dX2_takeData_22 : decode cX2_takeData 22 = .ok (.aload_n 0, 1) := by decide +kernel
theorem dX2_takeData_23 : decode cX2_takeData 23 = .ok (.getfield 19, 3) := by decide +kernel
theorem dX2_takeData_26 : decode cX2_takeData 26 = .ok (.iconst 3, 1) := by decide +kernel
theorem dX2_takeData_27 : decode cX2_takeData 27 = .ok (.iload_n 1, 1) := by decide +kernel
theorem dX2_takeData_28 : decode cX2_takeData 28 = .ok (.invokevirtual 61, 3) := by decide +kernel
theorem dX2_takeData_31 : decode cX2_takeData 31 = .ok (.return_, 1) := by decide +kernel
theorem dX2_takeData_32 : decode cX2_takeData 32 = .ok (.iconst 0, 1) := by decide +kernel
theorem dX2_takeData_33 : decode cX2_takeData 33 = .ok (.istore_n 2, 1) := by decide +kernel
theorem dX2_takeData_34 : decode cX2_takeData 34 = .ok (.iload_n 2, 1) := by decide +kernel
theorem dX2_takeData_35 : decode cX2_takeData 35 = .ok (.aload_n 0, 1) := by decide +kernel
theorem dX2_takeData_36 : decode cX2_takeData 36 = .ok (.getfield 99, 3) := by decide +kernel
theorem dX2_takeData_39 : decode cX2_takeData 39 = .ok (.if_icmp .ge 34, 3) := by decide +kernel
theorem dX2_takeData_42 : decode cX2_takeData 42 = .ok (.aload_n 0, 1) := by decide +kernel
theorem dX2_takeData_43 : decode cX2_takeData 43 = .ok (.aload_n 0, 1) := by decide +kernel
theorem dX2_takeData_44 : decode cX2_takeData 44 = .ok (.getfield 102, 3) := by decide +kernel
theorem dX2_takeData_47 : decode cX2_takeData 47 = .ok (.iload_n 2, 1) := by decide +kernel
theorem dX2_takeData_48 : decode cX2_takeData 48 = .ok (.iadd, 1) := by decide +kernel
theorem dX2_takeData_49 : decode cX2_takeData 49 = .ok (.aload_n 0, 1) := by decide +kernel
theorem dX2_takeData_50 : decode cX2_takeData 50 = .ok (.getfield 15, 3) := by decide +kernel
theorem dX2_takeData_53 : decode cX2_takeData 53 = .ok (.aload_n 0, 1) := by decide +kernel
theorem dX2_takeData_54 : decode cX2_takeData 54 = .ok (.getfield 105, 3) := by decide +kernel
theorem dX2_takeData_57 : decode cX2_takeData 57 = .ok (.iconst 2, 1) := by decide +kernel
theorem dX2_takeData_58 : decode cX2_takeData 58 = .ok (.iload_n 2, 1) := by decide +kernel
theorem dX2_takeData_59 : decode cX2_takeData 59 = .ok (.imul, 1) := by decide +kernel
theorem dX2_takeData_60 : decode cX2_takeData 60 = .ok (.iadd, 1) := by decide +kernel
theorem dX2_takeData_61 : decode cX2_takeData 61 = .ok (.invokevirtual 108, 3) := by decide +kernel
theorem dX2_takeData_64 : decode cX2_takeData 64 = .ok (.invokevirtual 69, 3) := by decide +kernel
theorem dX2_takeData_67 : decode cX2_takeData 67 = .ok (.iinc 2 1, 3) := by decide +kernel
theorem dX2_takeData_70 : decode cX2_takeData 70 = .ok (.goto (-36), 3) := by decide +kernel
theorem dX2_takeData_73 : decode cX2_takeData 73 = .ok (.return_, 1) := by decide +kernel
theorem dX2_isColonLine_0 : decode cX2_isColonLine 0 = .ok (.aload_n 0, 1) := by decide +kernel
theorem dX2_isColonLine_1 : decode cX2_isColonLine 1 = .ok (.getfield 15, 3) := by decide +kernel
theorem dX2_isColonLine_4 : decode cX2_isColonLine 4 = .ok (.iload_n 1, 1) := by decide +kernel
theorem dX2_isColonLine_5 : decode cX2_isColonLine 5 = .ok (.invokevirtual 65, 3) := by decide +kernel
theorem dX2_isColonLine_8 : decode cX2_isColonLine 8 = .ok (.bipush 58, 2) := by decide +kernel
theorem dX2_isColonLine_10 : decode cX2_isColonLine 10 = .ok (.if_icmp .ne 22, 3) := by decide +kernel
theorem dX2_isColonLine_13 : decode cX2_isColonLine 13 = .ok (.iload_n 2, 1) := by decide +kernel
theorem dX2_isColonLine_14 : decode cX2_isColonLine 14 = .ok (.iload_n 1, 1) := by decide +kernel
theorem dX2_isColonLine_15 : decode cX2_isColonLine 15 = .ok (.isub, 1) := by decide +kernel
theorem dX2_isColonLine_16 : decode cX2_isColonLine 16 = .ok (.bipush 11, 2) := by decide +kernel
theorem dX2_isColonLine_18 : decode cX2_isColonLine 18 = .ok (.if_icmp .lt 14, 3) := by decide +kernel
theorem dX2_isColonLine_21 : decode cX2_isColonLine 21 = .ok (.aload_n 0, 1) := by decide +kernel
theorem dX2_isColonLine_22 : decode cX2_isColonLine 22 = .ok (.iload_n 1, 1) := by decide +kernel
theorem dX2_isColonLine_23 : decode cX2_isColonLine 23 = .ok (.iconst 1, 1) := by decide +kernel
theorem dX2_isColonLine_24 : decode cX2_isColonLine 24 = .ok (.iadd, 1) := by decide +kernel
theorem dX2_isColonLine_25 : decode cX2_isColonLine 25 = .ok (.iload_n 2, 1) := by decide +kernel
theorem dX2_isColonLine_26 : decode cX2_isColonLine 26 = .ok (.invokevirtual 111, 3) := by decide +kernel
theorem dX2_isColonLine_29 : decode cX2_isColonLine 29 = .ok (.ifCond .ne 5, 3) := by decide +kernel
theorem dX2_isColonLine_32 : decode cX2_isColonLine 32 = .ok (.iconst 0, 1) := by decide +kernel
theorem dX2_isColonLine_33 : decode cX2_isColonLine 33 = .ok (.ireturn, 1) := by decide +kernel
theorem dX2_isColonLine_34 : decode cX2_isColonLine 34 = .ok (.aload_n 0, 1) := by decide +kernel
theorem dX2_isColonLine_35 : decode cX2_isColonLine 35 = .ok (.getfield 15, 3) := by decide +kernel
theorem dX2_isColonLine_38 : decode cX2_isColonLine 38 = .ok (.iload_n 1, 1) := by decide +kernel
theorem dX2_isColonLine_39 : decode cX2_isColonLine 39 = .ok (.iconst 1, 1) := by decide +kernel
theorem dX2_isColonLine_40 : decode cX2_isColonLine 40 = .ok (.iadd, 1) := by decide +kernel
theorem dX2_isColonLine_41 : decode cX2_isColonLine 41 = .ok (.invokevirtual 108, 3) := by decide +kernel
theorem dX2_isColonLine_44 : decode cX2_isColonLine 44 = .ok (.istore_n 3, 1) := by decide +kernel
theorem dX2_isColonLine_45 : decode cX2_isColonLine 45 = .ok (.aload_n 0, 1) := by decide +kernel
theorem dX2_isColonLine_46 : decode cX2_isColonLine 46 = .ok (.getfield 15, 3) := by decide +kernel
theorem dX2_isColonLine_49 : decode cX2_isColonLine 49 = .ok (.iload_n 1, 1) := by decide +kernel
theorem dX2_isColonLine_50 : decode cX2_isColonLine 50 = .ok (.bipush 7, 2) := by decide +kernel
theorem dX2_isColonLine_52 : decode cX2_isColonLine 52 = .ok (.iadd, 1) := by decide +kernel
theorem dX2_isColonLine_53 : decode cX2_isColonLine 53 = .ok (.invokevirtual 108, 3) := by decide +kernel
theorem dX2_isColonLine_56 : decode cX2_isColonLine 56 = .ok (.istore 4, 2) := by decide +kernel
theorem dX2_isColonLine_58 : decode cX2_isColonLine 58 = .ok (.aload_n 0, 1) := by decide +kernel
theorem dX2_isColonLine_59 : decode cX2_isColonLine 59 = .ok (.aload_n 0, 1) := by decide +kernel
theorem dX2_isColonLine_60 : decode cX2_isColonLine 60 = .ok (.getfield 15, 3) := by decide +kernel
theorem dX2_isColonLine_63 : decode cX2_isColonLine 63 = .ok (.iload_n 1, 1) := by decide +kernel
theorem dX2_isColonLine_64 : decode cX2_isColonLine 64 = .ok (.iconst 3, 1) := by decide +kernel
theorem dX2_isColonLine_65 : decode cX2_isColonLine 65 = .ok (.iadd, 1) := by decide +kernel
theorem dX2_isColonLine_66 : decode cX2_isColonLine 66 = .ok (.invokevirtual 108, 3) := by decide +kernel
theorem dX2_isColonLine_69 : decode cX2_isColonLine 69 = .ok (.sipush 256, 3) := by decide +kernel
theorem dX2_isColonLine_72 : decode cX2_isColonLine 72 = .ok (.imul, 1) := by decide +kernel
theorem dX2_isColonLine_73 : decode cX2_isColonLine 73 = .ok (.aload_n 0, 1) := by decide +kernel
theorem dX2_isColonLine_74 : decode cX2_isColonLine 74 = .ok (.getfield 15, 3) := by decide +kernel
theorem dX2_isColonLine_77 : decode cX2_isColonLine 77 = .ok (.iload_n 1, 1) := by decide +kernel
theorem dX2_isColonLine_78 : decode cX2_isColonLine 78 = .ok (.iconst 5, 1) := by decide +kernel
theorem dX2_isColonLine_79 : decode cX2_isColonLine 79 = .ok (.iadd, 1) := by decide +kernel
theorem dX2_isColonLine_80 : decode cX2_isColonLine 80 = .ok (.invokevirtual 108, 3) := by decide +kernel
theorem dX2_isColonLine_83 : decode cX2_isColonLine 83 = .ok (.iadd, 1) := by decide +kernel
theorem dX2_isColonLine_84 : decode cX2_isColonLine 84 = .ok (.putfield 102, 3) := by decide +kernel
theorem dX2_isColonLine_87 : decode cX2_isColonLine 87 = .ok (.aload_n 0, 1) := by decide +kernel
theorem dX2_isColonLine_88 : decode cX2_isColonLine 88 = .ok (.iload_n 1, 1) := by decide +kernel
theorem dX2_isColonLine_89 : decode cX2_isColonLine 89 = .ok (.bipush 9, 2) := by decide +kernel
theorem dX2_isColonLine_91 : decode cX2_isColonLine 91 = .ok (.iadd, 1) := by decide +kernel
theorem dX2_isColonLine_92 : decode cX2_isColonLine 92 = .ok (.putfield 105, 3) := by decide +kernel
theorem dX2_isColonLine_95 : decode cX2_isColonLine 95 = .ok (.aload_n 0, 1) := by decide +kernel
theorem dX2_isColonLine_96 : decode cX2_isColonLine 96 = .ok (.iload_n 3, 1) := by decide +kernel
theorem dX2_isColonLine_97 : decode cX2_isColonLine 97 = .ok (.putfield 99, 3) := by decide +kernel
theorem dX2_isColonLine_100 : decode cX2_isColonLine 100 = .ok (.aload_n 0, 1) := by decide +kernel
theorem dX2_isColonLine_101 : decode cX2_isColonLine 101 = .ok (.iload 4, 2) := by decide +kernel
theorem dX2_isColonLine_103 : decode cX2_isColonLine 103 = .ok (.ifCond .ne 7, 3) := by decide +kernel
theorem dX2_isColonLine_106 : decode cX2_isColonLine 106 = .ok (.iconst 0, 1) := by decide +kernel
theorem dX2_isColonLine_107 : decode cX2_isColonLine 107 = .ok (.goto 4, 3) := by decide +kernel
theorem dX2_isColonLine_110 : decode cX2_isColonLine 110 = .ok (.iconst 2, 1) := by decide +kernel
theorem dX2_isColonLine_111 : decode cX2_isColonLine 111 = .ok (.putfield 93, 3) := by decide +kernel
theorem dX2_isColonLine_114 : decode cX2_isColonLine 114 = .ok (.iload_n 2, 1) := by decide +kernel
theorem dX2_isColonLine_115 : decode cX2_isColonLine 115 = .ok (.iload_n 1, 1) := by decide +kernel
theorem dX2_isColonLine_116 : decode cX2_isColonLine 116 = .ok (.isub, 1) := by decide +kernel
theorem dX2_isColonLine_117 : decode cX2_isColonLine 117 = .ok (.bipush 11, 2) := by decide +kernel
theorem dX2_isColonLine_119 : decode cX2_isColonLine 119 = .ok (.iconst 2, 1) := by decide +kernel
theorem dX2_isColonLine_120 : decode cX2_isColonLine 120 = .ok (.iload_n 3, 1) := by decide +kernel
theorem dX2_isColonLine_121 : decode cX2_isColonLine 121 = .ok (.imul, 1) := by decide +kernel
theorem dX2_isColonLine_122 : decode cX2_isColonLine 122 = .ok (.iadd, 1) := by decide +kernel
theorem dX2_isColonLine_123 : decode cX2_isColonLine 123 = .ok (.if_icmp .ne 22, 3) := by decide +kernel
theorem dX2_isColonLine_126 : decode cX2_isColonLine 126 = .ok (.iload 4, 2) := by decide +kernel
theorem dX2_isColonLine_128 : decode cX2_isColonLine 128 = .ok (.ifCond .eq 13, 3) := by decide +kernel
theorem dX2_isColonLine_131 : decode cX2_isColonLine 131 = .ok (.iload 4, 2) := by decide +kernel
theorem dX2_isColonLine_133 : decode cX2_isColonLine 133 = .ok (.iconst 1, 1) := by decide +kernel
theorem dX2_isColonLine_134 : decode cX2_isColonLine 134 = .ok (.if_icmp .ne 11, 3) := by decide +kernel
theorem dX2_isColonLine_137 : decode cX2_isColonLine 137 = .ok (.iload_n 3, 1) := by decide +kernel
theorem dX2_isColonLine_138 : decode cX2_isColonLine 138 = .ok (.ifCond .ne 7, 3) := by decide +kernel
theorem dX2_isColonLine_141 : decode cX2_isColonLine 141 = .ok (.iconst 1, 1) := by decide +kernel
theorem dX2_isColonLine_142 : decode cX2_isColonLine 142 = .ok (.goto 4, 3) := by decide +kernel
theorem dX2_isColonLine_145 : decode cX2_isColonLine 145 = .ok (.iconst 0, 1) := by decide +kernel
theorem dX2_isColonLine_146 : decode cX2_isColonLine 146 = .ok (.ireturn, 1) := by decide +kernel
theorem dX2_isSLine_0 : decode cX2_isSLine 0 = .ok (.aload_n 0, 1) := by decide +kernel
theorem dX2_isSLine_1 : decode cX2_isSLine 1 = .ok (.getfield 15, 3) := by decide +kernel
theorem dX2_isSLine_4 : decode cX2_isSLine 4 = .ok (.iload_n 1, 1) := by decide +kernel
theorem dX2_isSLine_5 : decode cX2_isSLine 5 = .ok (.invokevirtual 65, 3) := by decide +kernel
theorem dX2_isSLine_8 : decode cX2_isSLine 8 = .ok (.bipush 83, 2) := by decide +kernel
theorem dX2_isSLine_10 : decode cX2_isSLine 10 = .ok (.if_icmp .ne 22, 3) := by decide +kernel
theorem dX2_isSLine_13 : decode cX2_isSLine 13 = .ok (.iload_n 2, 1) := by decide +kernel
theorem dX2_isSLine_14 : decode cX2_isSLine 14 = .ok (.iload_n 1, 1) := by decide +kernel
theorem dX2_isSLine_15 : decode cX2_isSLine 15 = .ok (.isub, 1) := by decide +kernel
theorem dX2_isSLine_16 : decode cX2_isSLine 16 = .ok (.bipush 10, 2) := by decide +kernel
theorem dX2_isSLine_18 : decode cX2_isSLine 18 = .ok (.if_icmp .lt 14, 3) := by decide +kernel
theorem dX2_isSLine_21 : decode cX2_isSLine 21 = .ok (.aload_n 0, 1) := by decide +kernel
theorem dX2_isSLine_22 : decode cX2_isSLine 22 = .ok (.iload_n 1, 1) := by decide +kernel
theorem dX2_isSLine_23 : decode cX2_isSLine 23 = .ok (.iconst 2, 1) := by decide +kernel
theorem dX2_isSLine_24 : decode cX2_isSLine 24 = .ok (.iadd, 1) := by decide +kernel
theorem dX2_isSLine_25 : decode cX2_isSLine 25 = .ok (.iload_n 2, 1) := by decide +kernel
theorem dX2_isSLine_26 : decode cX2_isSLine 26 = .ok (.invokevirtual 111, 3) := by decide +kernel
theorem dX2_isSLine_29 : decode cX2_isSLine 29 = .ok (.ifCond .ne 5, 3) := by decide +kernel
theorem dX2_isSLine_32 : decode cX2_isSLine 32 = .ok (.iconst 0, 1) := by decide +kernel
theorem dX2_isSLine_33 : decode cX2_isSLine 33 = .ok (.ireturn, 1) := by decide +kernel
theorem dX2_isSLine_34 : decode cX2_isSLine 34 = .ok (.aload_n 0, 1) := by decide +kernel
theorem dX2_isSLine_35 : decode cX2_isSLine 35 = .ok (.getfield 15, 3) := by decide +kernel
theorem dX2_isSLine_38 : decode cX2_isSLine 38 = .ok (.iload_n 1, 1) := by decide +kernel
theorem dX2_isSLine_39 : decode cX2_isSLine 39 = .ok (.iconst 1, 1) := by decide +kernel
theorem dX2_isSLine_40 : decode cX2_isSLine 40 = .ok (.iadd, 1) := by decide +kernel
theorem dX2_isSLine_41 : decode cX2_isSLine 41 = .ok (.invokevirtual 65, 3) := by decide +kernel
theorem dX2_isSLine_44 : decode cX2_isSLine 44 = .ok (.istore_n 3, 1) := by decide +kernel
theorem dX2_isSLine_45 : decode cX2_isSLine 45 = .ok (.aload_n 0, 1) := by decide +kernel
theorem dX2_isSLine_46 : decode cX2_isSLine 46 = .ok (.getfield 15, 3) := by decide +kernel
theorem dX2_isSLine_49 : decode cX2_isSLine 49 = .ok (.iload_n 1, 1) := by decide +kernel
theorem dX2_isSLine_50 : decode cX2_isSLine 50 = .ok (.iconst 2, 1) := by decide +kernel
theorem dX2_isSLine_51 : decode cX2_isSLine 51 = .ok (.iadd, 1) := by decide +kernel
theorem dX2_isSLine_52 : decode cX2_isSLine 52 = .ok (.invokevirtual 108, 3) := by decide +kernel
theorem dX2_isSLine_55 : decode cX2_isSLine 55 = .ok (.istore 4, 2) := by decide +kernel
theorem dX2_isSLine_57 : decode cX2_isSLine 57 = .ok (.aload_n 0, 1) := by decide +kernel
theorem dX2_isSLine_58 : decode cX2_isSLine 58 = .ok (.aload_n 0, 1) := by decide +kernel
theorem dX2_isSLine_59 : decode cX2_isSLine 59 = .ok (.getfield 15, 3) := by decide +kernel
theorem dX2_isSLine_62 : decode cX2_isSLine 62 = .ok (.iload_n 1, 1) := by decide +kernel
theorem dX2_isSLine_63 : decode cX2_isSLine 63 = .ok (.iconst 4, 1) := by decide +kernel
theorem dX2_isSLine_64 : decode cX2_isSLine 64 = .ok (.iadd, 1) := by decide +kernel
theorem dX2_isSLine_65 : decode cX2_isSLine 65 = .ok (.invokevirtual 108, 3) := by decide +kernel
theorem dX2_isSLine_68 : decode cX2_isSLine 68 = .ok (.sipush 256, 3) := by decide +kernel
theorem dX2_isSLine_71 : decode cX2_isSLine 71 = .ok (.imul, 1) := by decide +kernel
theorem dX2_isSLine_72 : decode cX2_isSLine 72 = .ok (.aload_n 0, 1) := by decide +kernel
theorem dX2_isSLine_73 : decode cX2_isSLine 73 = .ok (.getfield 15, 3) := by decide +kernel
theorem dX2_isSLine_76 : decode cX2_isSLine 76 = .ok (.iload_n 1, 1) := by decide +kernel
theorem dX2_isSLine_77 : decode cX2_isSLine 77 = .ok (.bipush 6, 2) := by decide +kernel
theorem dX2_isSLine_79 : decode cX2_isSLine 79 = .ok (.iadd, 1) := by decide +kernel
theorem dX2_isSLine_80 : decode cX2_isSLine 80 = .ok (.invokevirtual 108, 3) := by decide +kernel
theorem dX2_isSLine_83 : decode cX2_isSLine 83 = .ok (.iadd, 1) := by decide +kernel
theorem dX2_isSLine_84 : decode cX2_isSLine 84 = .ok (.putfield 102, 3) := by decide +kernel
theorem dX2_isSLine_87 : decode cX2_isSLine 87 = .ok (.aload_n 0, 1) := by decide +kernel
theorem dX2_isSLine_88 : decode cX2_isSLine 88 = .ok (.iload_n 1, 1) := by decide +kernel
theorem dX2_isSLine_89 : decode cX2_isSLine 89 = .ok (.bipush 8, 2) := by decide +kernel
theorem dX2_isSLine_91 : decode cX2_isSLine 91 = .ok (.iadd, 1) := by decide +kernel
theorem dX2_isSLine_92 : decode cX2_isSLine 92 = .ok (.putfield 105, 3) := by decide +kernel
theorem dX2_isSLine_95 : decode cX2_isSLine 95 = .ok (.aload_n 0, 1) := by decide +kernel
theorem dX2_isSLine_96 : decode cX2_isSLine 96 = .ok (.iload 4, 2) := by decide +kernel
theorem dX2_isSLine_98 : decode cX2_isSLine 98 = .ok (.iconst 3, 1) := by decide +kernel
theorem dX2_isSLine_99 : decode cX2_isSLine 99 = .ok (.isub, 1) := by decide +kernel
theorem dX2_isSLine_100 : decode cX2_isSLine 100 = .ok (.putfield 99, 3) := by decide +kernel
theorem dX2_isSLine_103 : decode cX2_isSLine 103 = .ok (.aload_n 0, 1) := by decide +kernel
theorem dX2_isSLine_104 : decode cX2_isSLine 104 = .ok (.iload_n 3, 1) := by decide +kernel
theorem dX2_isSLine_105 : decode cX2_isSLine 105 = .ok (.bipush 49, 2) := by decide +kernel
theorem dX2_isSLine_107 : decode cX2_isSLine 107 = .ok (.if_icmp .ne 7, 3) := by decide +kernel
theorem dX2_isSLine_110 : decode cX2_isSLine 110 = .ok (.iconst 0, 1) := by decide +kernel
theorem dX2_isSLine_111 : decode cX2_isSLine 111 = .ok (.goto 14, 3) := by decide +kernel
theorem dX2_isSLine_114 : decode cX2_isSLine 114 = .ok (.iload_n 3, 1) := by decide +kernel
theorem dX2_isSLine_115 : decode cX2_isSLine 115 = .ok (.bipush 48, 2) := by decide +kernel
theorem dX2_isSLine_117 : decode cX2_isSLine 117 = .ok (.if_icmp .ne 7, 3) := by decide +kernel
theorem dX2_isSLine_120 : decode cX2_isSLine 120 = .ok (.iconst 1, 1) := by decide +kernel
theorem dX2_isSLine_121 : decode cX2_isSLine 121 = .ok (.goto 4, 3) := by decide +kernel
theorem dX2_isSLine_124 : decode cX2_isSLine 124 = .ok (.iconst 2, 1) := by decide +kernel
theorem dX2_isSLine_125 : decode cX2_isSLine 125 = .ok (.putfield 93, 3) := by decide +kernel
theorem dX2_isSLine_128 : decode cX2_isSLine 128 = .ok (.iload_n 2, 1) := by decide +kernel
theorem dX2_isSLine_129 : decode cX2_isSLine 129 = .ok (.iload_n 1, 1) := by decide +kernel
theorem dX2_isSLine_130 : decode cX2_isSLine 130 = .ok (.isub, 1) := by decide +kernel
theorem dX2_isSLine_131 : decode cX2_isSLine 131 = .ok (.iconst 4, 1) := by decide +kernel
theorem dX2_isSLine_132 : decode cX2_isSLine 132 = .ok (.iconst 2, 1) := by decide +kernel
theorem dX2_isSLine_133 : decode cX2_isSLine 133 = .ok (.iload 4, 2) := by decide +kernel
theorem dX2_isSLine_135 : decode cX2_isSLine 135 = .ok (.imul, 1) := by decide +kernel
theorem dX2_isSLine_136 : decode cX2_isSLine 136 = .ok (.iadd, 1) := by decide +kernel
theorem dX2_isSLine_137 : decode cX2_isSLine 137 = .ok (.if_icmp .ne 31, 3) := by decide +kernel
theorem dX2_isSLine_140 : decode cX2_isSLine 140 = .ok (.iload_n 3, 1) := by decide +kernel
theorem dX2_isSLine_141 : decode cX2_isSLine 141 = .ok (.bipush 48, 2) := by decide +kernel
theorem dX2_isSLine_143 : decode cX2_isSLine 143 = .ok (.if_icmp .eq 21, 3) := by decide +kernel
theorem dX2_isSLine_146 : decode cX2_isSLine 146 = .ok (.iload_n 3, 1) := by decide +kernel
theorem dX2_isSLine_147 : decode cX2_isSLine 147 = .ok (.bipush 49, 2) := by decide +kernel
theorem dX2_isSLine_149 : decode cX2_isSLine 149 = .ok (.if_icmp .eq 15, 3) := by decide +kernel
theorem dX2_isSLine_152 : decode cX2_isSLine 152 = .ok (.iload_n 3, 1) := by decide +kernel
theorem dX2_isSLine_153 : decode cX2_isSLine 153 = .ok (.bipush 57, 2) := by decide +kernel
theorem dX2_isSLine_155 : decode cX2_isSLine 155 = .ok (.if_icmp .ne 13, 3) := by decide +kernel
theorem dX2_isSLine_158 : decode cX2_isSLine 158 = .ok (.iload 4, 2) := by decide +kernel
theorem dX2_isSLine_160 : decode cX2_isSLine 160 = .ok (.iconst 3, 1) := by decide +kernel
theorem dX2_isSLine_161 : decode cX2_isSLine 161 = .ok (.if_icmp .ne 7, 3) := by decide +kernel
theorem dX2_isSLine_164 : decode cX2_isSLine 164 = .ok (.iconst 1, 1) := by decide +kernel
theorem dX2_isSLine_165 : decode cX2_isSLine 165 = .ok (.goto 4, 3) := by decide +kernel
theorem dX2_isSLine_168 : decode cX2_isSLine 168 = .ok (.iconst 0, 1) := by decide +kernel
theorem dX2_isSLine_169 : decode cX2_isSLine 169 = .ok (.ireturn, 1) := by decide +kernel
theorem dX2_areDigits_0 : decode cX2_areDigits 0 = .ok (.iload_n 1, 1) := by decide +kernel
theorem dX2_areDigits_1 : decode cX2_areDigits 1 = .ok (.istore_n 3, 1) := by decide +kernel
theorem dX2_areDigits_2 : decode cX2_areDigits 2 = .ok (.iload_n 3, 1) := by decide +kernel
theorem dX2_areDigits_3 : decode cX2_areDigits 3 = .ok (.iload_n 2, 1) := by decide +kernel
theorem dX2_areDigits_4 : decode cX2_areDigits 4 = .ok (.if_icmp .ge 23, 3) := by decide +kernel
theorem dX2_areDigits_7 : decode cX2_areDigits 7 = .ok (.aload_n 0, 1) := by decide +kernel
theorem dX2_areDigits_8 : decode cX2_areDigits 8 = .ok (.getfield 15, 3) := by decide +kernel
theorem dX2_areDigits_11 : decode cX2_areDigits 11 = .ok (.iload_n 3, 1) := by decide +kernel
theorem dX2_areDigits_12 : decode cX2_areDigits 12 = .ok (.invokevirtual 114, 3) := by decide +kernel
theorem dX2_areDigits_15 : decode cX2_areDigits 15 = .ok (.iconst (-1), 1) := by decide +kernel
theorem dX2_areDigits_16 : decode cX2_areDigits 16 = .ok (.if_icmp .ne 5, 3) := by decide +kernel
theorem dX2_areDigits_19 : decode cX2_areDigits 19 = .ok (.iconst 0, 1) := by decide +kernel
theorem dX2_areDigits_20 : decode cX2_areDigits 20 = .ok (.ireturn, 1) := by decide +kernel
theorem dX2_areDigits_21 : decode cX2_areDigits 21 = .ok (.iinc 3 1, 3) := by decide +kernel
theorem dX2_areDigits_24 : decode cX2_areDigits 24 = .ok (.goto (-22), 3) := by decide +kernel
theorem dX2_areDigits_27 : decode cX2_areDigits 27 = .ok (.iconst 1, 1) := by decide +kernel
theorem dX2_areDigits_28 : decode cX2_areDigits 28 = .ok (.ireturn, 1) := by decide +kernel
theorem dX2_sumOf_0 : decode cX2_sumOf 0 = .ok (.iconst 0, 1) := by decide +kernel
theorem dX2_sumOf_1 : decode cX2_sumOf 1 = .ok (.istore_n 3, 1) := by decide +kernel
theorem dX2_sumOf_2 : decode cX2_sumOf 2 = .ok (.iload_n 1, 1) := by decide +kernel
theorem dX2_sumOf_3 : decode cX2_sumOf 3 = .ok (.istore 4, 2) := by decide +kernel
theorem dX2_sumOf_5 : decode cX2_sumOf 5 = .ok (.iload 4, 2) := by decide +kernel
theorem dX2_sumOf_7 : decode cX2_sumOf 7 = .ok (.iload_n 2, 1) := by decide +kernel
theorem dX2_sumOf_8 : decode cX2_sumOf 8 = .ok (.if_icmp .ge 21, 3) := by decide +kernel
theorem dX2_sumOf_11 : decode cX2_sumOf 11 = .ok (.iload_n 3, 1) := by decide +kernel
theorem dX2_sumOf_12 : decode cX2_sumOf 12 = .ok (.aload_n 0, 1) := by decide +kernel
theorem dX2_sumOf_13 : decode cX2_sumOf 13 = .ok (.getfield 15, 3) := by decide +kernel
theorem dX2_sumOf_16 : decode cX2_sumOf 16 = .ok (.iload 4, 2) := by decide +kernel
theorem dX2_sumOf_18 : decode cX2_sumOf 18 = .ok (.invokevirtual 108, 3) := by decide +kernel
theorem dX2_sumOf_21 : decode cX2_sumOf 21 = .ok (.iadd, 1) := by decide +kernel
theorem dX2_sumOf_22 : decode cX2_sumOf 22 = .ok (.istore_n 3, 1) := by decide +kernel
theorem dX2_sumOf_23 : decode cX2_sumOf 23 = .ok (.iinc 4 2, 3) := by decide +kernel
theorem dX2_sumOf_26 : decode cX2_sumOf 26 = .ok (.goto (-21), 3) := by decide +kernel
theorem dX2_sumOf_29 : decode cX2_sumOf 29 = .ok (.iload_n 3, 1) := by decide +kernel
theorem dX2_sumOf_30 : decode cX2_sumOf 30 = .ok (.ireturn, 1) := by decide +kernel
theorem dX2_stage_0 : decode cX2_stage 0 = .ok (.iload_n 1, 1) := by decide +kernel
theorem dX2_stage_1 : decode cX2_stage 1 = .ok (.ifCond .lt 27, 3) := by decide +kernel
theorem dX2_stage_4 : decode cX2_stage 4 = .ok (.iload_n 1, 1) := by decide +kernel
theorem dX2_stage_5 : decode cX2_stage 5 = .ok (.sipush 256, 3) := by decide +kernel
theorem dX2_stage_8 : decode cX2_stage 8 = .ok (.if_icmp .ge 20, 3) := by decide +kernel
theorem dX2_stage_11 : decode cX2_stage 11 = .ok (.aload_n 0, 1) := by decide +kernel
theorem dX2_stage_12 : decode cX2_stage 12 = .ok (.getfield 9, 3) := by decide +kernel
theorem dX2_stage_15 : decode cX2_stage 15 = .ok (.iload_n 1, 1) := by decide +kernel
theorem dX2_stage_16 : decode cX2_stage 16 = .ok (.iload_n 2, 1) := by decide +kernel
theorem dX2_stage_17 : decode cX2_stage 17 = .ok (.iastore, 1) := by decide +kernel
theorem dX2_stage_18 : decode cX2_stage 18 = .ok (.aload_n 0, 1) := by decide +kernel
theorem dX2_stage_19 : decode cX2_stage 19 = .ok (.dup, 1) := by decide +kernel
theorem dX2_stage_20 : decode cX2_stage 20 = .ok (.getfield 40, 3) := by decide +kernel
theorem dX2_stage_23 : decode cX2_stage 23 = .ok (.iconst 1, 1) := by decide +kernel
theorem dX2_stage_24 : decode cX2_stage 24 = .ok (.iadd, 1) := by decide +kernel
theorem dX2_stage_25 : decode cX2_stage 25 = .ok (.putfield 40, 3) := by decide +kernel
theorem dX2_stage_28 : decode cX2_stage 28 = .ok (.return_, 1) := by decide +kernel
theorem dX3_init_0 : decode cX3_init 0 = .ok (.aload_n 0, 1) := by decide +kernel
theorem dX3_init_1 : decode cX3_init 1 = .ok (.invokespecial 3, 3) := by decide +kernel
theorem dX3_init_4 : decode cX3_init 4 = .ok (.aload_n 0, 1) := by decide +kernel
theorem dX3_init_5 : decode cX3_init 5 = .ok (.aload_n 1, 1) := by decide +kernel
theorem dX3_init_6 : decode cX3_init 6 = .ok (.putfield 9, 3) := by decide +kernel
theorem dX3_init_9 : decode cX3_init 9 = .ok (.return_, 1) := by decide +kernel
theorem dX3_lengthOf_0 : decode cX3_lengthOf 0 = .ok (.iload_n 1, 1) := by decide +kernel
theorem dX3_lengthOf_1 : decode cX3_lengthOf 1 = .ok (.iconst 1, 1) := by decide +kernel
theorem dX3_lengthOf_2 : decode cX3_lengthOf 2 = .ok (.if_icmp .ne 8, 3) := by decide +kernel
theorem dX3_lengthOf_5 : decode cX3_lengthOf 5 = .ok (.bipush 12, 2) := by decide +kernel
theorem dX3_lengthOf_7 : decode cX3_lengthOf 7 = .ok (.goto 5, 3) := by decide +kernel
theorem dX3_lengthOf_10 : decode cX3_lengthOf 10 = .ok (.bipush 11, 2) := by decide +kernel
theorem dX3_lengthOf_12 : decode cX3_lengthOf 12 = .ok (.istore_n 3, 1) := by decide +kernel
theorem dX3_lengthOf_13 : decode cX3_lengthOf 13 = .ok (.iload_n 2, 1) := by decide +kernel
theorem dX3_lengthOf_14 : decode cX3_lengthOf 14 = .ok (.bipush 16, 2) := by decide +kernel
theorem dX3_lengthOf_16 : decode cX3_lengthOf 16 = .ok (.iadd, 1) := by decide +kernel
theorem dX3_lengthOf_17 : decode cX3_lengthOf 17 = .ok (.iconst 1, 1) := by decide +kernel
theorem dX3_lengthOf_18 : decode cX3_lengthOf 18 = .ok (.isub, 1) := by decide +kernel
theorem dX3_lengthOf_19 : decode cX3_lengthOf 19 = .ok (.bipush 16, 2) := by decide +kernel
theorem dX3_lengthOf_21 : decode cX3_lengthOf 21 = .ok (.idiv, 1) := by decide +kernel
theorem dX3_lengthOf_22 : decode cX3_lengthOf 22 = .ok (.istore 4, 2) := by decide +kernel
theorem dX3_lengthOf_24 : decode cX3_lengthOf 24 = .ok (.iload 4, 2) := by decide +kernel
theorem dX3_lengthOf_26 : decode cX3_lengthOf 26 = .ok (.iconst 1, 1) := by decide +kernel
theorem dX3_lengthOf_27 : decode cX3_lengthOf 27 = .ok (.iadd, 1) := by decide +kernel
theorem dX3_lengthOf_28 : decode cX3_lengthOf 28 = .ok (.iload_n 3, 1) := by decide +kernel
theorem dX3_lengthOf_29 : decode cX3_lengthOf 29 = .ok (.imul, 1) := by decide +kernel
theorem dX3_lengthOf_30 : decode cX3_lengthOf 30 = .ok (.iconst 2, 1) := by decide +kernel
theorem dX3_lengthOf_31 : decode cX3_lengthOf 31 = .ok (.iload_n 2, 1) := by decide +kernel
theorem dX3_lengthOf_32 : decode cX3_lengthOf 32 = .ok (.imul, 1) := by decide +kernel
theorem dX3_lengthOf_33 : decode cX3_lengthOf 33 = .ok (.iadd, 1) := by decide +kernel
theorem dX3_lengthOf_34 : decode cX3_lengthOf 34 = .ok (.ireturn, 1) := by decide +kernel
theorem dX3_writeOut_0 : decode cX3_writeOut 0 = .ok (.aload_n 0, 1) := by decide +kernel
theorem dX3_writeOut_1 : decode cX3_writeOut 1 = .ok (.getfield 9, 3) := by decide +kernel
theorem dX3_writeOut_4 : decode cX3_writeOut 4 = .ok (.iconst 0, 1) := by decide +kernel
theorem dX3_writeOut_5 : decode cX3_writeOut 5 = .ok (.invokevirtual 15, 3) := by decide +kernel
theorem dX3_writeOut_8 : decode cX3_writeOut 8 = .ok (.pop, 1) := by decide +kernel
theorem dX3_writeOut_9 : decode cX3_writeOut 9 = .ok (.iload_n 3, 1) := by decide +kernel
theorem dX3_writeOut_10 : decode cX3_writeOut 10 = .ok (.istore 5, 2) := by decide +kernel
theorem dX3_writeOut_12 : decode cX3_writeOut 12 = .ok (.iload 5, 2) := by decide +kernel
theorem dX3_writeOut_14 : decode cX3_writeOut 14 = .ok (.iload 4, 2) := by decide +kernel
theorem dX3_writeOut_16 : decode cX3_writeOut 16 = .ok (.if_icmp .gt 91, 3) := by decide +kernel
theorem dX3_writeOut_19 : decode cX3_writeOut 19 = .ok (.bipush 16, 2) := by decide +kernel
theorem dX3_writeOut_21 : decode cX3_writeOut 21 = .ok (.iload 4, 2) := by decide +kernel
theorem dX3_writeOut_23 : decode cX3_writeOut 23 = .ok (.iload 5, 2) := by decide +kernel
theorem dX3_writeOut_25 : decode cX3_writeOut 25 = .ok (.isub, 1) := by decide +kernel
theorem dX3_writeOut_26 : decode cX3_writeOut 26 = .ok (.iconst 1, 1) := by decide +kernel
theorem dX3_writeOut_27 : decode cX3_writeOut 27 = .ok (.iadd, 1) := by decide +kernel
theorem dX3_writeOut_28 : decode cX3_writeOut 28 = .ok (.invokestatic 21, 3) := by decide +kernel
theorem dX3_writeOut_31 : decode cX3_writeOut 31 = .ok (.istore 6, 2) := by decide +kernel
theorem dX3_writeOut_33 : decode cX3_writeOut 33 = .ok (.aload_n 0, 1) := by decide +kernel
theorem dX3_writeOut_34 : decode cX3_writeOut 34 = .ok (.iload_n 2, 1) := by decide +kernel
theorem dX3_writeOut_35 : decode cX3_writeOut 35 = .ok (.iload_n 2, 1) := by decide +kernel
theorem dX3_writeOut_36 : decode cX3_writeOut 36 = .ok (.iconst 1, 1) := by decide +kernel
theorem dX3_writeOut_37 : decode cX3_writeOut 37 = .ok (.if_icmp .ne 7, 3) := by decide +kernel
theorem dX3_writeOut_40 : decode cX3_writeOut 40 = .ok (.iconst 0, 1) := by decide +kernel
theorem dX3_writeOut_41 : decode cX3_writeOut 41 = .ok (.goto 4, 3) := by decide +kernel
theorem dX3_writeOut_44 : decode cX3_writeOut 44 = .ok (.iconst 1, 1) := by decide +kernel
theorem dX3_writeOut_45 : decode cX3_writeOut 45 = .ok (.iload 5, 2) := by decide +kernel
theorem dX3_writeOut_47 : decode cX3_writeOut 47 = .ok (.iload 6, 2) := by decide +kernel
theorem dX3_writeOut_49 : decode cX3_writeOut 49 = .ok (.invokevirtual 27, 3) := by decide +kernel
theorem dX3_writeOut_52 : decode cX3_writeOut 52 = .ok (.iload 5, 2) := by decide +kernel
theorem dX3_writeOut_54 : decode cX3_writeOut 54 = .ok (.istore 7, 2) := by decide +kernel
theorem dX3_writeOut_56 : decode cX3_writeOut 56 = .ok (.iload 7, 2) := by decide +kernel
theorem dX3_writeOut_58 : decode cX3_writeOut 58 = .ok (.iload 5, 2) := by decide +kernel
theorem dX3_writeOut_60 : decode cX3_writeOut 60 = .ok (.iload 6, 2) := by decide +kernel
theorem dX3_writeOut_62 : decode cX3_writeOut 62 = .ok (.iadd, 1) := by decide +kernel
theorem dX3_writeOut_63 : decode cX3_writeOut 63 = .ok (.if_icmp .ge 33, 3) := by decide +kernel
theorem dX3_writeOut_66 : decode cX3_writeOut 66 = .ok (.iload 7, 2) := by decide +kernel
theorem dX3_writeOut_68 : decode cX3_writeOut 68 = .ok (.aload_n 1, 1) := by decide +kernel
theorem dX3_writeOut_69 : decode cX3_writeOut 69 = .ok (.arraylength, 1) := by decide +kernel
theorem dX3_writeOut_70 : decode cX3_writeOut 70 = .ok (.if_icmp .ge 26, 3) := by decide +kernel
theorem dX3_writeOut_73 : decode cX3_writeOut 73 = .ok (.aload_n 0, 1) := by decide +kernel
theorem dX3_writeOut_74 : decode cX3_writeOut 74 = .ok (.iload 7, 2) := by decide +kernel
theorem dX3_writeOut_76 : decode cX3_writeOut 76 = .ok (.ifCond .lt 10, 3) := by decide +kernel
theorem dX3_writeOut_79 : decode cX3_writeOut 79 = .ok (.aload_n 1, 1) := by decide +kernel
theorem dX3_writeOut_80 : decode cX3_writeOut 80 = .ok (.iload 7, 2) := by decide +kernel
theorem dX3_writeOut_82 : decode cX3_writeOut 82 = .ok (.iaload, 1) := by decide +kernel
theorem dX3_writeOut_83 : decode cX3_writeOut 83 = .ok (.goto 4, 3) := by decide +kernel
theorem dX3_writeOut_86 : decode cX3_writeOut 86 = .ok (.iconst 0, 1) := by decide +kernel
theorem dX3_writeOut_87 : decode cX3_writeOut 87 = .ok (.invokevirtual 31, 3) := by decide +kernel
theorem dX3_writeOut_90 : decode cX3_writeOut 90 = .ok (.iinc 7 1, 3) := by decide +kernel
theorem dX3_writeOut_93 : decode cX3_writeOut 93 = .ok (.goto (-37), 3) := by decide +kernel
theorem dX3_writeOut_96 : decode cX3_writeOut 96 = .ok (.aload_n 0, 1) := by decide +kernel
theorem dX3_writeOut_97 : decode cX3_writeOut 97 = .ok (.iload_n 2, 1) := by decide +kernel
theorem dX3_writeOut_98 : decode cX3_writeOut 98 = .ok (.invokevirtual 35, 3) := by decide +kernel
theorem dX3_writeOut_101 : decode cX3_writeOut 101 = .ok (.iinc 5 16, 3) := by decide +kernel
theorem dX3_writeOut_104 : decode cX3_writeOut 104 = .ok (.goto (-92), 3) := by decide +kernel
theorem dX3_writeOut_107 : decode cX3_writeOut 107 = .ok (.aload_n 0, 1) := by decide +kernel
theorem dX3_writeOut_108 : decode cX3_writeOut 108 = .ok (.iload_n 2, 1) := by decide +kernel
theorem dX3_writeOut_109 : decode cX3_writeOut 109 = .ok (.iload_n 2, 1) := by decide +kernel
theorem dX3_writeOut_110 : decode cX3_writeOut 110 = .ok (.iconst 1, 1) := by decide +kernel
theorem dX3_writeOut_111 : decode cX3_writeOut 111 = .ok (.if_icmp .ne 7, 3) := by decide +kernel
theorem dX3_writeOut_114 : decode cX3_writeOut 114 = .ok (.iconst 1, 1) := by decide +kernel
theorem dX3_writeOut_115 : decode cX3_writeOut 115 = .ok (.goto 5, 3) := by decide +kernel
theorem dX3_writeOut_118 : decode cX3_writeOut 118 = .ok (.bipush 9, 2) := by decide +kernel
theorem dX3_writeOut_120 : decode cX3_writeOut 120 = .ok (.iconst 0, 1) := by decide +kernel
theorem dX3_writeOut_121 : decode cX3_writeOut 121 = .ok (.iconst 0, 1) := by decide +kernel
theorem dX3_writeOut_122 : decode cX3_writeOut 122 = .ok (.invokevirtual 27, 3) := by decide +kernel
theorem dX3_writeOut_125 : decode cX3_writeOut 125 = .ok (.aload_n 0, 1) := by decide +kernel
theorem dX3_writeOut_126 : decode cX3_writeOut 126 = .ok (.iload_n 2, 1) := by decide +kernel
theorem dX3_writeOut_127 : decode cX3_writeOut 127 = .ok (.invokevirtual 35, 3) := by decide +kernel
theorem dX3_writeOut_130 : decode cX3_writeOut 130 = .ok (.return_, 1) := by decide +kernel
theorem dX3_startLine_0 : decode cX3_startLine 0 = .ok (.aload_n 0, 1) := by decide +kernel
theorem dX3_startLine_1 : decode cX3_startLine 1 = .ok (.iconst 0, 1) := by decide +kernel
theorem dX3_startLine_2 : decode cX3_startLine 2 = .ok (.putfield 38, 3) := by decide +kernel
theorem dX3_startLine_5 : decode cX3_startLine 5 = .ok (.iload_n 1, 1) := by decide +kernel
theorem dX3_startLine_6 : decode cX3_startLine 6 = .ok (.iconst 1, 1) := by decide +kernel
theorem dX3_startLine_7 : decode cX3_startLine 7 = .ok (.if_icmp .ne 31, 3) := by decide +kernel
theorem dX3_startLine_10 : decode cX3_startLine 10 = .ok (.aload_n 0, 1) := by decide +kernel
theorem dX3_startLine_11 : decode cX3_startLine 11 = .ok (.getfield 9, 3) := by decide +kernel
theorem dX3_startLine_14 : decode cX3_startLine 14 = .ok (.bipush 58, 2) := by decide +kernel
theorem dX3_startLine_16 : decode cX3_startLine 16 = .ok (.invokevirtual 42, 3) := by decide +kernel
theorem dX3_startLine_19 : decode cX3_startLine 19 = .ok (.aload_n 0, 1) := by decide +kernel
theorem dX3_startLine_20 : decode cX3_startLine 20 = .ok (.iload 4, 2) := by decide +kernel
theorem dX3_startLine_22 : decode cX3_startLine 22 = .ok (.invokevirtual 31, 3) := by decide +kernel
theorem dX3_startLine_25 : decode cX3_startLine 25 = .ok (.aload_n 0, 1) := by decide +kernel
theorem dX3_startLine_26 : decode cX3_startLine 26 = .ok (.iload_n 3, 1) := by decide +kernel
theorem dX3_startLine_27 : decode cX3_startLine 27 = .ok (.invokevirtual 45, 3) := by decide +kernel
theorem dX3_startLine_30 : decode cX3_startLine 30 = .ok (.aload_n 0, 1) := by decide +kernel
theorem dX3_startLine_31 : decode cX3_startLine 31 = .ok (.iload_n 2, 1) := by decide +kernel
theorem dX3_startLine_32 : decode cX3_startLine 32 = .ok (.invokevirtual 31, 3) := by decide +kernel
theorem dX3_startLine_35 : decode cX3_startLine 35 = .ok (.goto 33, 3) := by decide +kernel
theorem dX3_startLine_38 : decode cX3_startLine 38 = .ok (.aload_n 0, 1) := by decide +kernel
theorem dX3_startLine_39 : decode cX3_startLine 39 = .ok (.getfield 9, 3) := by decide +kernel
theorem dX3_startLine_42 : decode cX3_startLine 42 = .ok (.bipush 83, 2) := by decide +kernel
theorem dX3_startLine_44 : decode cX3_startLine 44 = .ok (.invokevirtual 42, 3) := by decide +kernel
theorem dX3_startLine_47 : decode cX3_startLine 47 = .ok (.aload_n 0, 1) := by decide +kernel
theorem dX3_startLine_48 : decode cX3_startLine 48 = .ok (.getfield 9, 3) := by decide +kernel
theorem dX3_startLine_51 : decode cX3_startLine 51 = .ok (.iload_n 2, 1) := by decide +kernel
theorem dX3_startLine_52 : decode cX3_startLine 52 = .ok (.invokevirtual 48, 3) := by decide +kernel
theorem dX3_startLine_55 : decode cX3_startLine 55 = .ok (.aload_n 0, 1) := by decide +kernel
theorem dX3_startLine_56 : decode cX3_startLine 56 = .ok (.iload 4, 2) := by decide +kernel
theorem dX3_startLine_58 : decode cX3_startLine 58 = .ok (.iconst 3, 1) := by decide +kernel
theorem dX3_startLine_59 : decode cX3_startLine 59 = .ok (.iadd, 1) := by decide +kernel
theorem dX3_startLine_60 : decode cX3_startLine 60 = .ok (.invokevirtual 31, 3) := by decide +kernel
theorem dX3_startLine_63 : decode cX3_startLine 63 = .ok (.aload_n 0, 1) := by decide +kernel
theorem dX3_startLine_64 : decode cX3_startLine 64 = .ok (.iload_n 3, 1) := by decide +kernel
theorem dX3_startLine_65 : decode cX3_startLine 65 = .ok (.invokevirtual 45, 3) := by decide +kernel
theorem dX3_startLine_68 : decode cX3_startLine 68 = .ok (.return_, 1) := by decide +kernel
theorem dX3_stopLine_0 : decode cX3_stopLine 0 = .ok (.aload_n 0, 1) := by decide +kernel
theorem dX3_stopLine_1 : decode cX3_stopLine 1 = .ok (.iload_n 1, 1) := by decide +kernel
theorem dX3_stopLine_2 : decode cX3_stopLine 2 = .ok (.iconst 1, 1) := by decide +kernel
theorem dX3_stopLine_3 : decode cX3_stopLine 3 = .ok (.if_icmp .ne 7, 3) := by decide +kernel
theorem dX3_stopLine_6 : decode cX3_stopLine 6 = .ok (.iconst 0, 1) := by decide +kernel
theorem dX3_stopLine_7 : decode cX3_stopLine 7 = .ok (.goto 6, 3) := by decide +kernel
theorem dX3_stopLine_10 : decode cX3_stopLine 10 = .ok (.sipush 255, 3) := by decide +kernel
theorem dX3_stopLine_13 : decode cX3_stopLine 13 = .ok (.aload_n 0, 1) := by decide +kernel
theorem dX3_stopLine_14 : decode cX3_stopLine 14 = .ok (.getfield 38, 3) := by decide +kernel
theorem dX3_stopLine_17 : decode cX3_stopLine 17 = .ok (.isub, 1) := by decide +kernel
theorem dX3_stopLine_18 : decode cX3_stopLine 18 = .ok (.sipush 255, 3) := by decide +kernel
theorem dX3_stopLine_21 : decode cX3_stopLine 21 = .ok (.iand, 1) := by decide +kernel
theorem dX3_stopLine_22 : decode cX3_stopLine 22 = .ok (.invokevirtual 31, 3) := by decide +kernel
theorem dX3_stopLine_25 : decode cX3_stopLine 25 = .ok (.aload_n 0, 1) := by decide +kernel
theorem dX3_stopLine_26 : decode cX3_stopLine 26 = .ok (.getfield 9, 3) := by decide +kernel
theorem dX3_stopLine_29 : decode cX3_stopLine 29 = .ok (.bipush 10, 2) := by decide +kernel
theorem dX3_stopLine_31 : decode cX3_stopLine 31 = .ok (.invokevirtual 42, 3) := by decide +kernel
theorem dX3_stopLine_34 : decode cX3_stopLine 34 = .ok (.return_, 1) := by decide +kernel
theorem dX3_addAddress_0 : decode cX3_addAddress 0 = .ok (.aload_n 0, 1) := by decide +kernel
theorem dX3_addAddress_1 : decode cX3_addAddress 1 = .ok (.iload_n 1, 1) := by decide +kernel
theorem dX3_addAddress_2 : decode cX3_addAddress 2 = .ok (.bipush 8, 2) := by decide +kernel
theorem dX3_addAddress_4 : decode cX3_addAddress 4 = .ok (.ishr, 1) := by decide +kernel
theorem dX3_addAddress_5 : decode cX3_addAddress 5 = .ok (.invokevirtual 31, 3) := by decide +kernel
theorem dX3_addAddress_8 : decode cX3_addAddress 8 = .ok (.aload_n 0, 1) := by decide +kernel
theorem dX3_addAddress_9 : decode cX3_addAddress 9 = .ok (.iload_n 1, 1) := by decide +kernel
theorem dX3_addAddress_10 : decode cX3_addAddress 10 = .ok (.sipush 255, 3) := by decide +kernel
theorem dX3_addAddress_13 : decode cX3_addAddress 13 = .ok (.iand, 1) := by decide +kernel
theorem dX3_addAddress_14 : decode cX3_addAddress 14 = .ok (.invokevirtual 31, 3) := by decide +kernel
theorem dX3_addAddress_17 : decode cX3_addAddress 17 = .ok (.return_, 1) := by decide +kernel
theorem dX3_addByte_0 : decode cX3_addByte 0 = .ok (.aload_n 0, 1) := by decide +kernel
theorem dX3_addByte_1 : decode cX3_addByte 1 = .ok (.getfield 9, 3) := by decide +kernel
theorem dX3_addByte_4 : decode cX3_addByte 4 = .ok (.iload_n 1, 1) := by decide +kernel
theorem dX3_addByte_5 : decode cX3_addByte 5 = .ok (.iconst 4, 1) := by decide +kernel
theorem dX3_addByte_6 : decode cX3_addByte 6 = .ok (.ishr, 1) := by decide +kernel
theorem dX3_addByte_7 : decode cX3_addByte 7 = .ok (.bipush 15, 2) := by decide +kernel
theorem dX3_addByte_9 : decode cX3_addByte 9 = .ok (.iand, 1) := by decide +kernel
theorem dX3_addByte_10 : decode cX3_addByte 10 = .ok (.invokevirtual 48, 3) := by decide +kernel
theorem dX3_addByte_13 : decode cX3_addByte 13 = .ok (.aload_n 0, 1) := by decide +kernel
theorem dX3_addByte_14 : decode cX3_addByte 14 = .ok (.getfield 9, 3) := by decide +kernel
theorem dX3_addByte_17 : decode cX3_addByte 17 = .ok (.iload_n 1, 1) := by decide +kernel
theorem dX3_addByte_18 : decode cX3_addByte 18 = .ok (.bipush 15, 2) := by decide +kernel
theorem dX3_addByte_20 : decode cX3_addByte 20 = .ok (.iand, 1) := by decide +kernel
theorem dX3_addByte_21 : decode cX3_addByte 21 = .ok (.invokevirtual 48, 3) := by decide +kernel
theorem dX3_addByte_24 : decode cX3_addByte 24 = .ok (.aload_n 0, 1) := by decide +kernel
theorem dX3_addByte_25 : decode cX3_addByte 25 = .ok (.dup, 1) := by decide +kernel
theorem dX3_addByte_26 : decode cX3_addByte 26 = .ok (.getfield 38, 3) := by decide +kernel
theorem dX3_addByte_29 : decode cX3_addByte 29 = .ok (.iload_n 1, 1) := by decide +kernel
theorem dX3_addByte_30 : decode cX3_addByte 30 = .ok (.iadd, 1) := by decide +kernel
theorem dX3_addByte_31 : decode cX3_addByte 31 = .ok (.putfield 38, 3) := by decide +kernel
theorem dX3_addByte_34 : decode cX3_addByte 34 = .ok (.return_, 1) := by decide +kernel
theorem dX4_init_0 : decode cX4_init 0 = .ok (.aload_n 0, 1) := by decide +kernel
theorem dX4_init_1 : decode cX4_init 1 = .ok (.invokespecial 3, 3) := by decide +kernel
theorem dX4_init_4 : decode cX4_init 4 = .ok (.aload_n 0, 1) := by decide +kernel
theorem dX4_init_5 : decode cX4_init 5 = .ok (.bipush 40, 2) := by decide +kernel
theorem dX4_init_7 : decode cX4_init 7 = .ok (.newarray .int, 2) := by decide +kernel
theorem dX4_init_9 : decode cX4_init 9 = .ok (.putfield 9, 3) := by decide +kernel
theorem dX4_init_12 : decode cX4_init 12 = .ok (.aload_n 0, 1) := by decide +kernel
theorem dX4_init_13 : decode cX4_init 13 = .ok (.bipush 40, 2) := by decide +kernel
theorem dX4_init_15 : decode cX4_init 15 = .ok (.newarray .int, 2) := by decide +kernel
theorem dX4_init_17 : decode cX4_init 17 = .ok (.putfield 15, 3) := by decide +kernel
theorem dX4_init_20 : decode cX4_init 20 = .ok (.aload_n 0, 1) := by decide +kernel
theorem dX4_init_21 : decode cX4_init 21 = .ok (.bipush 40, 2) := by decide +kernel
theorem dX4_init_23 : decode cX4_init 23 = .ok (.newarray .int, 2) := by decide +kernel
theorem dX4_init_25 : decode cX4_init 25 = .ok (.putfield 18, 3) := by decide +kernel
theorem dX4_init_28 : decode cX4_init 28 = .ok (.aload_n 0, 1) := by decide +kernel
theorem dX4_init_29 : decode cX4_init 29 = .ok (.bipush 40, 2) := by decide +kernel
theorem dX4_init_31 : decode cX4_init 31 = .ok (.newarray .int, 2) := by decide +kernel
theorem dX4_init_33 : decode cX4_init 33 = .ok (.putfield 21, 3) := by decide +kernel
theorem dX4_init_36 : decode cX4_init 36 = .ok (.aload_n 0, 1) := by decide +kernel
theorem dX4_init_37 : decode cX4_init 37 = .ok (.iconst (-1), 1) := by decide +kernel
theorem dX4_init_38 : decode cX4_init 38 = .ok (.putfield 24, 3) := by decide +kernel
theorem dX4_init_41 : decode cX4_init 41 = .ok (.return_, 1) := by decide +kernel
theorem dX4_clear_0 : decode cX4_clear 0 = .ok (.aload_n 0, 1) := by decide +kernel
theorem dX4_clear_1 : decode cX4_clear 1 = .ok (.iconst 0, 1) := by decide +kernel
theorem dX4_clear_2 : decode cX4_clear 2 = .ok (.putfield 28, 3) := by decide +kernel
theorem dX4_clear_5 : decode cX4_clear 5 = .ok (.return_, 1) := by decide +kernel
theorem dX4_isFull_0 : decode cX4_isFull 0 = .ok (.aload_n 0, 1) := by decide +kernel
theorem dX4_isFull_1 : decode cX4_isFull 1 = .ok (.getfield 28, 3) := by decide +kernel
theorem dX4_isFull_4 : decode cX4_isFull 4 = .ok (.bipush 40, 2) := by decide +kernel
theorem dX4_isFull_6 : decode cX4_isFull 6 = .ok (.if_icmp .lt 7, 3) := by decide +kernel
theorem dX4_isFull_9 : decode cX4_isFull 9 = .ok (.iconst 1, 1) := by decide +kernel
theorem dX4_isFull_10 : decode cX4_isFull 10 = .ok (.goto 4, 3) := by decide +kernel
theorem dX4_isFull_13 : decode cX4_isFull 13 = .ok (.iconst 0, 1) := by decide +kernel
theorem dX4_isFull_14 : decode cX4_isFull 14 = .ok (.ireturn, 1) := by decide +kernel
theorem dX4_addStep_0 : decode cX4_addStep 0 = .ok (.aload_n 0, 1) := by decide +kernel
theorem dX4_addStep_1 : decode cX4_addStep 1 = .ok (.invokevirtual 31, 3) := by decide +kernel
theorem dX4_addStep_4 : decode cX4_addStep 4 = .ok (.ifCond .ne 10, 3) := by decide +kernel
theorem dX4_addStep_7 : decode cX4_addStep 7 = .ok (.aload_n 0, 1) := by decide +kernel
theorem dX4_addStep_8 : decode cX4_addStep 8 = .ok (.getfield 28, 3) := by decide +kernel
theorem dX4_addStep_11 : decode cX4_addStep 11 = .ok (.ifCond .ge 5, 3) := by decide +kernel
theorem dX4_addStep_14 : decode cX4_addStep 14 = .ok (.iconst (-1), 1) := by decide +kernel
theorem dX4_addStep_15 : decode cX4_addStep 15 = .ok (.ireturn, 1) := by decide +kernel
theorem dX4_addStep_16 : decode cX4_addStep 16 = .ok (.aload_n 0, 1) := by decide +kernel
theorem dX4_addStep_17 : decode cX4_addStep 17 = .ok (.getfield 9, 3) := by decide +kernel
theorem dX4_addStep_20 : decode cX4_addStep 20 = .ok (.aload_n 0, 1) := by decide +kernel
theorem dX4_addStep_21 : decode cX4_addStep 21 = .ok (.getfield 28, 3) := by decide +kernel
theorem dX4_addStep_24 : decode cX4_addStep 24 = .ok (.iload_n 1, 1) := by decide +kernel
theorem dX4_addStep_25 : decode cX4_addStep 25 = .ok (.iastore, 1) := by decide +kernel
theorem dX4_addStep_26 : decode cX4_addStep 26 = .ok (.aload_n 0, 1) := by decide +kernel
theorem dX4_addStep_27 : decode cX4_addStep 27 = .ok (.getfield 15, 3) := by decide +kernel
theorem dX4_addStep_30 : decode cX4_addStep 30 = .ok (.aload_n 0, 1) := by decide +kernel
theorem dX4_addStep_31 : decode cX4_addStep 31 = .ok (.getfield 28, 3) := by decide +kernel
theorem dX4_addStep_34 : decode cX4_addStep 34 = .ok (.iconst 0, 1) := by decide +kernel
theorem dX4_addStep_35 : decode cX4_addStep 35 = .ok (.iastore, 1) := by decide +kernel
theorem dX4_addStep_36 : decode cX4_addStep 36 = .ok (.aload_n 0, 1) := by decide +kernel
theorem dX4_addStep_37 : decode cX4_addStep 37 = .ok (.getfield 18, 3) := by decide +kernel
theorem dX4_addStep_40 : decode cX4_addStep 40 = .ok (.aload_n 0, 1) := by decide +kernel
theorem dX4_addStep_41 : decode cX4_addStep 41 = .ok (.getfield 28, 3) := by decide +kernel
theorem dX4_addStep_44 : decode cX4_addStep 44 = .ok (.aload_n 0, 1) := by decide +kernel
theorem dX4_addStep_45 : decode cX4_addStep 45 = .ok (.getfield 28, 3) := by decide +kernel
theorem dX4_addStep_48 : decode cX4_addStep 48 = .ok (.iconst 1, 1) := by decide +kernel
theorem dX4_addStep_49 : decode cX4_addStep 49 = .ok (.iadd, 1) := by decide +kernel
theorem dX4_addStep_50 : decode cX4_addStep 50 = .ok (.iastore, 1) := by decide +kernel
theorem dX4_addStep_51 : decode cX4_addStep 51 = .ok (.aload_n 0, 1) := by decide +kernel
theorem dX4_addStep_52 : decode cX4_addStep 52 = .ok (.getfield 21, 3) := by decide +kernel
theorem dX4_addStep_55 : decode cX4_addStep 55 = .ok (.aload_n 0, 1) := by decide +kernel
theorem dX4_addStep_56 : decode cX4_addStep 56 = .ok (.getfield 28, 3) := by decide +kernel
theorem dX4_addStep_59 : decode cX4_addStep 59 = .ok (.aload_n 0, 1) := by decide +kernel
theorem dX4_addStep_60 : decode cX4_addStep 60 = .ok (.getfield 28, 3) := by decide +kernel
theorem dX4_addStep_63 : decode cX4_addStep 63 = .ok (.iconst 1, 1) := by decide +kernel
theorem dX4_addStep_64 : decode cX4_addStep 64 = .ok (.iadd, 1) := by decide +kernel
theorem dX4_addStep_65 : decode cX4_addStep 65 = .ok (.iastore, 1) := by decide +kernel
theorem dX4_addStep_66 : decode cX4_addStep 66 = .ok (.aload_n 0, 1) := by decide +kernel
theorem dX4_addStep_67 : decode cX4_addStep 67 = .ok (.dup, 1) := by decide +kernel
theorem dX4_addStep_68 : decode cX4_addStep 68 = .ok (.getfield 28, 3) := by decide +kernel
theorem dX4_addStep_71 : decode cX4_addStep 71 = .ok (.iconst 1, 1) := by decide +kernel
theorem dX4_addStep_72 : decode cX4_addStep 72 = .ok (.iadd, 1) := by decide +kernel
theorem dX4_addStep_73 : decode cX4_addStep 73 = .ok (.putfield 28, 3) := by decide +kernel
theorem dX4_addStep_76 : decode cX4_addStep 76 = .ok (.aload_n 0, 1) := by decide +kernel
theorem dX4_addStep_77 : decode cX4_addStep 77 = .ok (.getfield 28, 3) := by decide +kernel
theorem dX4_addStep_80 : decode cX4_addStep 80 = .ok (.iconst 1, 1) := by decide +kernel
theorem dX4_addStep_81 : decode cX4_addStep 81 = .ok (.isub, 1) := by decide +kernel
theorem dX4_addStep_82 : decode cX4_addStep 82 = .ok (.ireturn, 1) := by decide +kernel
theorem dX4_setNumber_0 : decode cX4_setNumber 0 = .ok (.aload_n 0, 1) := by decide +kernel
theorem dX4_setNumber_1 : decode cX4_setNumber 1 = .ok (.iload_n 1, 1) := by decide +kernel
theorem dX4_setNumber_2 : decode cX4_setNumber 2 = .ok (.invokevirtual 35, 3) := by decide +kernel
theorem dX4_setNumber_5 : decode cX4_setNumber 5 = .ok (.ifCond .eq 10, 3) := by decide +kernel
theorem dX4_setNumber_8 : decode cX4_setNumber 8 = .ok (.aload_n 0, 1) := by decide +kernel
theorem dX4_setNumber_9 : decode cX4_setNumber 9 = .ok (.getfield 15, 3) := by decide +kernel
theorem dX4_setNumber_12 : decode cX4_setNumber 12 = .ok (.iload_n 1, 1) := by decide +kernel
theorem dX4_setNumber_13 : decode cX4_setNumber 13 = .ok (.iload_n 2, 1) := by decide +kernel
theorem dX4_setNumber_14 : decode cX4_setNumber 14 = .ok (.iastore, 1) := by decide +kernel
theorem dX4_setNumber_15 : decode cX4_setNumber 15 = .ok (.return_, 1) := by decide +kernel
theorem dX4_startOtherwise_0 : decode cX4_startOtherwise 0 = .ok (.aload_n 0, 1) := by decide +kernel
theorem dX4_startOtherwise_1 : decode cX4_startOtherwise 1 = .ok (.iload_n 1, 1) := by decide +kernel
theorem dX4_startOtherwise_2 : decode cX4_startOtherwise 2 = .ok (.invokevirtual 35, 3) := by decide +kernel
theorem dX4_startOtherwise_5 : decode cX4_startOtherwise 5 = .ok (.ifCond .eq 13, 3) := by decide +kernel
theorem dX4_startOtherwise_8 : decode cX4_startOtherwise 8 = .ok (.aload_n 0, 1) := by decide +kernel
theorem dX4_startOtherwise_9 : decode cX4_startOtherwise 9 = .ok (.getfield 18, 3) := by decide +kernel
theorem dX4_startOtherwise_12 : decode cX4_startOtherwise 12 = .ok (.iload_n 1, 1) := by decide +kernel
theorem dX4_startOtherwise_13 : decode cX4_startOtherwise 13 = .ok (.aload_n 0, 1) := by decide +kernel
theorem dX4_startOtherwise_14 : decode cX4_startOtherwise 14 = .ok (.getfield 28, 3) := by decide +kernel
theorem dX4_startOtherwise_17 : decode cX4_startOtherwise 17 = .ok (.iastore, 1) := by decide +kernel
theorem dX4_startOtherwise_18 : decode cX4_startOtherwise 18 = .ok (.return_, 1) := by decide +kernel
theorem dX4_close_0 : decode cX4_close 0 = .ok (.aload_n 0, 1) := by decide +kernel
theorem dX4_close_1 : decode cX4_close 1 = .ok (.iload_n 1, 1) := by decide +kernel
theorem dX4_close_2 : decode cX4_close 2 = .ok (.invokevirtual 35, 3) := by decide +kernel
theorem dX4_close_5 : decode cX4_close 5 = .ok (.ifCond .eq 13, 3) := by decide +kernel
theorem dX4_close_8 : decode cX4_close 8 = .ok (.aload_n 0, 1) := by decide +kernel
theorem dX4_close_9 : decode cX4_close 9 = .ok (.getfield 21, 3) := by decide +kernel
theorem dX4_close_12 : decode cX4_close 12 = .ok (.iload_n 1, 1) := by decide +kernel
theorem dX4_close_13 : decode cX4_close 13 = .ok (.aload_n 0, 1) := by decide +kernel
theorem dX4_close_14 : decode cX4_close 14 = .ok (.getfield 28, 3) := by decide +kernel
theorem dX4_close_17 : decode cX4_close 17 = .ok (.iastore, 1) := by decide +kernel
theorem dX4_close_18 : decode cX4_close 18 = .ok (.return_, 1) := by decide +kernel
theorem dX4_kindOf_0 : decode cX4_kindOf 0 = .ok (.aload_n 0, 1) := by decide +kernel
theorem dX4_kindOf_1 : decode cX4_kindOf 1 = .ok (.iload_n 1, 1) := by decide +kernel
theorem dX4_kindOf_2 : decode cX4_kindOf 2 = .ok (.invokevirtual 35, 3) := by decide +kernel
theorem dX4_kindOf_5 : decode cX4_kindOf 5 = .ok (.ifCond .eq 12, 3) := by decide +kernel
theorem dX4_kindOf_8 : decode cX4_kindOf 8 = .ok (.aload_n 0, 1) := by decide +kernel
theorem dX4_kindOf_9 : decode cX4_kindOf 9 = .ok (.getfield 9, 3) := by decide +kernel
theorem dX4_kindOf_12 : decode cX4_kindOf 12 = .ok (.iload_n 1, 1) := by decide +kernel
theorem dX4_kindOf_13 : decode cX4_kindOf 13 = .ok (.iaload, 1) := by decide +kernel
theorem dX4_kindOf_14 : decode cX4_kindOf 14 = .ok (.goto 4, 3) := by decide +kernel
theorem dX4_kindOf_17 : decode cX4_kindOf 17 = .ok (.iconst (-1), 1) := by decide +kernel
theorem dX4_kindOf_18 : decode cX4_kindOf 18 = .ok (.ireturn, 1) := by decide +kernel
theorem dX4_numberOf_0 : decode cX4_numberOf 0 = .ok (.aload_n 0, 1) := by decide +kernel
theorem dX4_numberOf_1 : decode cX4_numberOf 1 = .ok (.iload_n 1, 1) := by decide +kernel
theorem dX4_numberOf_2 : decode cX4_numberOf 2 = .ok (.invokevirtual 35, 3) := by decide +kernel
theorem dX4_numberOf_5 : decode cX4_numberOf 5 = .ok (.ifCond .eq 12, 3) := by decide +kernel
theorem dX4_numberOf_8 : decode cX4_numberOf 8 = .ok (.aload_n 0, 1) := by decide +kernel
theorem dX4_numberOf_9 : decode cX4_numberOf 9 = .ok (.getfield 15, 3) := by decide +kernel
theorem dX4_numberOf_12 : decode cX4_numberOf 12 = .ok (.iload_n 1, 1) := by decide +kernel
theorem dX4_numberOf_13 : decode cX4_numberOf 13 = .ok (.iaload, 1) := by decide +kernel
theorem dX4_numberOf_14 : decode cX4_numberOf 14 = .ok (.goto 4, 3) := by decide +kernel
theorem dX4_numberOf_17 : decode cX4_numberOf 17 = .ok (.iconst 0, 1) := by decide +kernel
theorem dX4_numberOf_18 : decode cX4_numberOf 18 = .ok (.ireturn, 1) := by decide +kernel
theorem dX4_otherwiseOf_0 : decode cX4_otherwiseOf 0 = .ok (.aload_n 0, 1) := by decide +kernel
theorem dX4_otherwiseOf_1 : decode cX4_otherwiseOf 1 = .ok (.iload_n 1, 1) := by decide +kernel
theorem dX4_otherwiseOf_2 : decode cX4_otherwiseOf 2 = .ok (.invokevirtual 35, 3) := by decide +kernel
theorem dX4_otherwiseOf_5 : decode cX4_otherwiseOf 5 = .ok (.ifCond .eq 12, 3) := by decide +kernel
theorem dX4_otherwiseOf_8 : decode cX4_otherwiseOf 8 = .ok (.aload_n 0, 1) := by decide +kernel
theorem dX4_otherwiseOf_9 : decode cX4_otherwiseOf 9 = .ok (.getfield 18, 3) := by decide +kernel
theorem dX4_otherwiseOf_12 : decode cX4_otherwiseOf 12 = .ok (.iload_n 1, 1) := by decide +kernel
theorem dX4_otherwiseOf_13 : decode cX4_otherwiseOf 13 = .ok (.iaload, 1) := by decide +kernel
theorem dX4_otherwiseOf_14 : decode cX4_otherwiseOf 14 = .ok (.goto 7, 3) := by decide +kernel
theorem dX4_otherwiseOf_17 : decode cX4_otherwiseOf 17 = .ok (.aload_n 0, 1) := by decide +kernel
theorem dX4_otherwiseOf_18 : decode cX4_otherwiseOf 18 = .ok (.getfield 28, 3) := by decide +kernel
theorem dX4_otherwiseOf_21 : decode cX4_otherwiseOf 21 = .ok (.ireturn, 1) := by decide +kernel
theorem dX4_behindOf_0 : decode cX4_behindOf 0 = .ok (.aload_n 0, 1) := by decide +kernel
theorem dX4_behindOf_1 : decode cX4_behindOf 1 = .ok (.iload_n 1, 1) := by decide +kernel
theorem dX4_behindOf_2 : decode cX4_behindOf 2 = .ok (.invokevirtual 35, 3) := by decide +kernel
theorem dX4_behindOf_5 : decode cX4_behindOf 5 = .ok (.ifCond .eq 12, 3) := by decide +kernel
theorem dX4_behindOf_8 : decode cX4_behindOf 8 = .ok (.aload_n 0, 1) := by decide +kernel
theorem dX4_behindOf_9 : decode cX4_behindOf 9 = .ok (.getfield 21, 3) := by decide +kernel
theorem dX4_behindOf_12 : decode cX4_behindOf 12 = .ok (.iload_n 1, 1) := by decide +kernel
theorem dX4_behindOf_13 : decode cX4_behindOf 13 = .ok (.iaload, 1) := by decide +kernel
theorem dX4_behindOf_14 : decode cX4_behindOf 14 = .ok (.goto 7, 3) := by decide +kernel
theorem dX4_behindOf_17 : decode cX4_behindOf 17 = .ok (.aload_n 0, 1) := by decide +kernel
theorem dX4_behindOf_18 : decode cX4_behindOf 18 = .ok (.getfield 28, 3) := by decide +kernel
theorem dX4_behindOf_21 : decode cX4_behindOf 21 = .ok (.ireturn, 1) := by decide +kernel
theorem dX4_measure_0 : decode cX4_measure 0 = .ok (.aload_n 0, 1) := by decide +kernel
theorem dX4_measure_1 : decode cX4_measure 1 = .ok (.iconst (-1), 1) := by decide +kernel
theorem dX4_measure_2 : decode cX4_measure 2 = .ok (.putfield 24, 3) := by decide +kernel
theorem dX4_measure_5 : decode cX4_measure 5 = .ok (.aload_n 0, 1) := by decide +kernel
theorem dX4_measure_6 : decode cX4_measure 6 = .ok (.iconst 0, 1) := by decide +kernel
theorem dX4_measure_7 : decode cX4_measure 7 = .ok (.aload_n 0, 1) := by decide +kernel
theorem dX4_measure_8 : decode cX4_measure 8 = .ok (.getfield 28, 3) := by decide +kernel
theorem dX4_measure_11 : decode cX4_measure 11 = .ok (.iconst 0, 1) := by decide +kernel
theorem dX4_measure_12 : decode cX4_measure 12 = .ok (.iconst 0, 1) := by decide +kernel
theorem dX4_measure_13 : decode cX4_measure 13 = .ok (.invokevirtual 39, 3) := by decide +kernel
theorem dX4_measure_16 : decode cX4_measure 16 = .ok (.pop, 1) := by decide +kernel
theorem dX4_measure_17 : decode cX4_measure 17 = .ok (.aload_n 0, 1) := by decide +kernel
theorem dX4_measure_18 : decode cX4_measure 18 = .ok (.ldc2_w 43, 3) := by decide +kernel
theorem dX4_measure_21 : decode cX4_measure 21 = .ok (.aload_n 0, 1) := by decide +kernel
theorem dX4_measure_22 : decode cX4_measure 22 = .ok (.iconst 1, 1) := by decide +kernel
theorem dX4_measure_23 : decode cX4_measure 23 = .ok (.iconst 0, 1) := by decide +kernel
theorem dX4_measure_24 : decode cX4_measure 24 = .ok (.aload_n 0, 1) := by decide +kernel
theorem dX4_measure_25 : decode cX4_measure 25 = .ok (.getfield 28, 3) := by decide +kernel
theorem dX4_measure_28 : decode cX4_measure 28 = .ok (.iconst 0, 1) := by decide +kernel
theorem dX4_measure_29 : decode cX4_measure 29 = .ok (.invokevirtual 45, 3) := by decide +kernel
theorem dX4_measure_32 : decode cX4_measure 32 = .ok (.invokestatic 49, 3) := by decide +kernel
theorem dX4_measure_35 : decode cX4_measure 35 = .ok (.l2i, 1) := by decide +kernel
theorem dX4_measure_36 : decode cX4_measure 36 = .ok (.putfield 55, 3) := by decide +kernel
theorem dX4_measure_39 : decode cX4_measure 39 = .ok (.aload_n 0, 1) := by decide +kernel
theorem dX4_measure_40 : decode cX4_measure 40 = .ok (.ldc2_w 43, 3) := by decide +kernel
theorem dX4_measure_43 : decode cX4_measure 43 = .ok (.aload_n 0, 1) := by decide +kernel
theorem dX4_measure_44 : decode cX4_measure 44 = .ok (.iconst 0, 1) := by decide +kernel
theorem dX4_measure_45 : decode cX4_measure 45 = .ok (.iconst 0, 1) := by decide +kernel
theorem dX4_measure_46 : decode cX4_measure 46 = .ok (.aload_n 0, 1) := by decide +kernel
theorem dX4_measure_47 : decode cX4_measure 47 = .ok (.getfield 28, 3) := by decide +kernel
theorem dX4_measure_50 : decode cX4_measure 50 = .ok (.iconst 0, 1) := by decide +kernel
theorem dX4_measure_51 : decode cX4_measure 51 = .ok (.invokevirtual 45, 3) := by decide +kernel
theorem dX4_measure_54 : decode cX4_measure 54 = .ok (.invokestatic 49, 3) := by decide +kernel
theorem dX4_measure_57 : decode cX4_measure 57 = .ok (.l2i, 1) := by decide +kernel
theorem dX4_measure_58 : decode cX4_measure 58 = .ok (.putfield 58, 3) := by decide +kernel
theorem dX4_measure_61 : decode cX4_measure 61 = .ok (.return_, 1) := by decide +kernel
theorem dX4_fits_0 : decode cX4_fits 0 = .ok (.aload_n 0, 1) := by decide +kernel
theorem dX4_fits_1 : decode cX4_fits 1 = .ok (.getfield 24, 3) := by decide +kernel
theorem dX4_fits_4 : decode cX4_fits 4 = .ok (.aload_n 1, 1) := by decide +kernel
theorem dX4_fits_5 : decode cX4_fits 5 = .ok (.getfield 61, 3) := by decide +kernel
theorem dX4_fits_8 : decode cX4_fits 8 = .ok (.if_icmp .gt 28, 3) := by decide +kernel
theorem dX4_fits_11 : decode cX4_fits 11 = .ok (.aload_n 0, 1) := by decide +kernel
theorem dX4_fits_12 : decode cX4_fits 12 = .ok (.getfield 55, 3) := by decide +kernel
theorem dX4_fits_15 : decode cX4_fits 15 = .ok (.aload_n 1, 1) := by decide +kernel
theorem dX4_fits_16 : decode cX4_fits 16 = .ok (.getfield 65, 3) := by decide +kernel
theorem dX4_fits_19 : decode cX4_fits 19 = .ok (.if_icmp .gt 17, 3) := by decide +kernel
theorem dX4_fits_22 : decode cX4_fits 22 = .ok (.aload_n 0, 1) := by decide +kernel
theorem dX4_fits_23 : decode cX4_fits 23 = .ok (.getfield 58, 3) := by decide +kernel
theorem dX4_fits_26 : decode cX4_fits 26 = .ok (.sipush 5000, 3) := by decide +kernel
theorem dX4_fits_29 : decode cX4_fits 29 = .ok (.if_icmp .gt 7, 3) := by decide +kernel
theorem dX4_fits_32 : decode cX4_fits 32 = .ok (.iconst 1, 1) := by decide +kernel
theorem dX4_fits_33 : decode cX4_fits 33 = .ok (.goto 4, 3) := by decide +kernel
theorem dX4_fits_36 : decode cX4_fits 36 = .ok (.iconst 0, 1) := by decide +kernel
theorem dX4_fits_37 : decode cX4_fits 37 = .ok (.ireturn, 1) := by decide +kernel
theorem dX4_volts_0 : decode cX4_volts 0 = .ok (.iload 4, 2) := by decide +kernel
theorem dX4_volts_2 : decode cX4_volts 2 = .ok (.iconst 5, 1) := by decide +kernel
theorem dX4_volts_3 : decode cX4_volts 3 = .ok (.if_icmp .le 5, 3) := by decide +kernel
theorem dX4_volts_6 : decode cX4_volts 6 = .ok (.iload_n 3, 1) := by decide +kernel
theorem dX4_volts_7 : decode cX4_volts 7 = .ok (.ireturn, 1) := by decide +kernel
theorem dX4_volts_8 : decode cX4_volts 8 = .ok (.iload_n 3, 1) := by decide +kernel
theorem dX4_volts_9 : decode cX4_volts 9 = .ok (.istore 5, 2) := by decide +kernel
theorem dX4_volts_11 : decode cX4_volts 11 = .ok (.iload_n 1, 1) := by decide +kernel
theorem dX4_volts_12 : decode cX4_volts 12 = .ok (.istore 6, 2) := by decide +kernel
theorem dX4_volts_14 : decode cX4_volts 14 = .ok (.iload 6, 2) := by decide +kernel
theorem dX4_volts_16 : decode cX4_volts 16 = .ok (.iload_n 2, 1) := by decide +kernel
theorem dX4_volts_17 : decode cX4_volts 17 = .ok (.if_icmp .ge 145, 3) := by decide +kernel
theorem dX4_volts_20 : decode cX4_volts 20 = .ok (.aload_n 0, 1) := by decide +kernel
theorem dX4_volts_21 : decode cX4_volts 21 = .ok (.iload 6, 2) := by decide +kernel
theorem dX4_volts_23 : decode cX4_volts 23 = .ok (.invokevirtual 68, 3) := by decide +kernel
theorem dX4_volts_26 : decode cX4_volts 26 = .ok (.istore 7, 2) := by decide +kernel
theorem dX4_volts_28 : decode cX4_volts 28 = .ok (.iload 7, 2) := by decide +kernel
theorem dX4_volts_30 : decode cX4_volts 30 = .ok (.ifCond .ne 14, 3) := by decide +kernel
theorem dX4_volts_33 : decode cX4_volts 33 = .ok (.aload_n 0, 1) := by decide +kernel
theorem dX4_volts_34 : decode cX4_volts 34 = .ok (.iload 6, 2) := by decide +kernel
theorem dX4_volts_36 : decode cX4_volts 36 = .ok (.invokevirtual 72, 3) := by decide +kernel
theorem dX4_volts_39 : decode cX4_volts 39 = .ok (.istore 5, 2) := by decide +kernel
theorem dX4_volts_41 : decode cX4_volts 41 = .ok (.goto 103, 3) := by decide +kernel
theorem dX4_volts_44 : decode cX4_volts 44 = .ok (.iload 7, 2) := by decide +kernel
theorem dX4_volts_46 : decode cX4_volts 46 = .ok (.iconst 1, 1) := by decide +kernel
theorem dX4_volts_47 : decode cX4_volts 47 = .ok (.if_icmp .ne 19, 3) := by decide +kernel
theorem dX4_volts_50 : decode cX4_volts 50 = .ok (.aload_n 0, 1) := by decide +kernel
theorem dX4_volts_51 : decode cX4_volts 51 = .ok (.aload_n 0, 1) := by decide +kernel
theorem dX4_volts_52 : decode cX4_volts 52 = .ok (.getfield 24, 3) := by decide +kernel
theorem dX4_volts_55 : decode cX4_volts 55 = .ok (.iload 5, 2) := by decide +kernel
theorem dX4_volts_57 : decode cX4_volts 57 = .ok (.invokestatic 75, 3) := by decide +kernel
theorem dX4_volts_60 : decode cX4_volts 60 = .ok (.putfield 24, 3) := by decide +kernel
theorem dX4_volts_63 : decode cX4_volts 63 = .ok (.goto 81, 3) := by decide +kernel
theorem dX4_volts_66 : decode cX4_volts 66 = .ok (.iload 7, 2) := by decide +kernel
theorem dX4_volts_68 : decode cX4_volts 68 = .ok (.iconst 4, 1) := by decide +kernel
theorem dX4_volts_69 : decode cX4_volts 69 = .ok (.if_icmp .ne 57, 3) := by decide +kernel
theorem dX4_volts_72 : decode cX4_volts 72 = .ok (.aload_n 0, 1) := by decide +kernel
theorem dX4_volts_73 : decode cX4_volts 73 = .ok (.iload 6, 2) := by decide +kernel
theorem dX4_volts_75 : decode cX4_volts 75 = .ok (.iconst 1, 1) := by decide +kernel
theorem dX4_volts_76 : decode cX4_volts 76 = .ok (.iadd, 1) := by decide +kernel
theorem dX4_volts_77 : decode cX4_volts 77 = .ok (.aload_n 0, 1) := by decide +kernel
theorem dX4_volts_78 : decode cX4_volts 78 = .ok (.iload 6, 2) := by decide +kernel
theorem dX4_volts_80 : decode cX4_volts 80 = .ok (.invokevirtual 79, 3) := by decide +kernel
theorem dX4_volts_83 : decode cX4_volts 83 = .ok (.iload 5, 2) := by decide +kernel
theorem dX4_volts_85 : decode cX4_volts 85 = .ok (.iload 4, 2) := by decide +kernel
theorem dX4_volts_87 : decode cX4_volts 87 = .ok (.iconst 1, 1) := by decide +kernel
theorem dX4_volts_88 : decode cX4_volts 88 = .ok (.iadd, 1) := by decide +kernel
theorem dX4_volts_89 : decode cX4_volts 89 = .ok (.invokevirtual 39, 3) := by decide +kernel
theorem dX4_volts_92 : decode cX4_volts 92 = .ok (.istore 8, 2) := by decide +kernel
theorem dX4_volts_94 : decode cX4_volts 94 = .ok (.iload 8, 2) := by decide +kernel
theorem dX4_volts_96 : decode cX4_volts 96 = .ok (.aload_n 0, 1) := by decide +kernel
theorem dX4_volts_97 : decode cX4_volts 97 = .ok (.aload_n 0, 1) := by decide +kernel
theorem dX4_volts_98 : decode cX4_volts 98 = .ok (.iload 6, 2) := by decide +kernel
theorem dX4_volts_100 : decode cX4_volts 100 = .ok (.invokevirtual 79, 3) := by decide +kernel
theorem dX4_volts_103 : decode cX4_volts 103 = .ok (.aload_n 0, 1) := by decide +kernel
theorem dX4_volts_104 : decode cX4_volts 104 = .ok (.iload 6, 2) := by decide +kernel
theorem dX4_volts_106 : decode cX4_volts 106 = .ok (.invokevirtual 82, 3) := by decide +kernel
theorem dX4_volts_109 : decode cX4_volts 109 = .ok (.iload 5, 2) := by decide +kernel
theorem dX4_volts_111 : decode cX4_volts 111 = .ok (.iload 4, 2) := by decide +kernel
theorem dX4_volts_113 : decode cX4_volts 113 = .ok (.iconst 1, 1) := by decide +kernel
theorem dX4_volts_114 : decode cX4_volts 114 = .ok (.iadd, 1) := by decide +kernel
theorem dX4_volts_115 : decode cX4_volts 115 = .ok (.invokevirtual 39, 3) := by decide +kernel
theorem dX4_volts_118 : decode cX4_volts 118 = .ok (.invokestatic 75, 3) := by decide +kernel
theorem dX4_volts_121 : decode cX4_volts 121 = .ok (.istore 5, 2) := by decide +kernel
theorem dX4_volts_123 : decode cX4_volts 123 = .ok (.goto 21, 3) := by decide +kernel
theorem dX4_volts_126 : decode cX4_volts 126 = .ok (.iload 7, 2) := by decide +kernel
theorem dX4_volts_128 : decode cX4_volts 128 = .ok (.iconst 3, 1) := by decide +kernel
theorem dX4_volts_129 : decode cX4_volts 129 = .ok (.if_icmp .ne 15, 3) := by decide +kernel
theorem dX4_volts_132 : decode cX4_volts 132 = .ok (.aload_n 0, 1) := by decide +kernel
theorem dX4_volts_133 : decode cX4_volts 133 = .ok (.iload 6, 2) := by decide +kernel
theorem dX4_volts_135 : decode cX4_volts 135 = .ok (.iload 5, 2) := by decide +kernel
theorem dX4_volts_137 : decode cX4_volts 137 = .ok (.iload 4, 2) := by decide +kernel
theorem dX4_volts_139 : decode cX4_volts 139 = .ok (.invokevirtual 85, 3) := by decide +kernel
theorem dX4_volts_142 : decode cX4_volts 142 = .ok (.istore 5, 2) := by decide +kernel
theorem dX4_volts_144 : decode cX4_volts 144 = .ok (.iload 6, 2) := by decide +kernel
theorem dX4_volts_146 : decode cX4_volts 146 = .ok (.iconst 1, 1) := by decide +kernel
theorem dX4_volts_147 : decode cX4_volts 147 = .ok (.iadd, 1) := by decide +kernel
theorem dX4_volts_148 : decode cX4_volts 148 = .ok (.aload_n 0, 1) := by decide +kernel
theorem dX4_volts_149 : decode cX4_volts 149 = .ok (.iload 6, 2) := by decide +kernel
theorem dX4_volts_151 : decode cX4_volts 151 = .ok (.invokevirtual 82, 3) := by decide +kernel
theorem dX4_volts_154 : decode cX4_volts 154 = .ok (.invokestatic 75, 3) := by decide +kernel
theorem dX4_volts_157 : decode cX4_volts 157 = .ok (.istore 6, 2) := by decide +kernel
theorem dX4_volts_159 : decode cX4_volts 159 = .ok (.goto (-145), 3) := by decide +kernel
theorem dX4_volts_162 : decode cX4_volts 162 = .ok (.iload 5, 2) := by decide +kernel
theorem dX4_volts_164 : decode cX4_volts 164 = .ok (.ireturn, 1) := by decide +kernel
theorem dX4_voltsOfTry_0 : decode cX4_voltsOfTry 0 = .ok (.iload_n 2, 1) := by decide +kernel
theorem dX4_voltsOfTry_1 : decode cX4_voltsOfTry 1 = .ok (.istore 4, 2) := by decide +kernel
theorem dX4_voltsOfTry_3 : decode cX4_voltsOfTry 3 = .ok (.iconst 0, 1) := by decide +kernel
theorem dX4_voltsOfTry_4 : decode cX4_voltsOfTry 4 = .ok (.istore 5, 2) := by decide +kernel
theorem dX4_voltsOfTry_6 : decode cX4_voltsOfTry 6 = .ok (.iload 5, 2) := by decide +kernel
theorem dX4_voltsOfTry_8 : decode cX4_voltsOfTry 8 = .ok (.aload_n 0, 1) := by decide +kernel
theorem dX4_voltsOfTry_9 : decode cX4_voltsOfTry 9 = .ok (.iload_n 1, 1) := by decide +kernel
theorem dX4_voltsOfTry_10 : decode cX4_voltsOfTry 10 = .ok (.invokevirtual 72, 3) := by decide +kernel
theorem dX4_voltsOfTry_13 : decode cX4_voltsOfTry 13 = .ok (.if_icmp .ge 47, 3) := by decide +kernel
theorem dX4_voltsOfTry_16 : decode cX4_voltsOfTry 16 = .ok (.iload 4, 2) := by decide +kernel
theorem dX4_voltsOfTry_18 : decode cX4_voltsOfTry 18 = .ok (.aload_n 0, 1) := by decide +kernel
theorem dX4_voltsOfTry_19 : decode cX4_voltsOfTry 19 = .ok (.iload_n 1, 1) := by decide +kernel
theorem dX4_voltsOfTry_20 : decode cX4_voltsOfTry 20 = .ok (.iconst 1, 1) := by decide +kernel
theorem dX4_voltsOfTry_21 : decode cX4_voltsOfTry 21 = .ok (.iadd, 1) := by decide +kernel
theorem dX4_voltsOfTry_22 : decode cX4_voltsOfTry 22 = .ok (.aload_n 0, 1) := by decide +kernel
theorem dX4_voltsOfTry_23 : decode cX4_voltsOfTry 23 = .ok (.iload_n 1, 1) := by decide +kernel
theorem dX4_voltsOfTry_24 : decode cX4_voltsOfTry 24 = .ok (.invokevirtual 82, 3) := by decide +kernel
theorem dX4_voltsOfTry_27 : decode cX4_voltsOfTry 27 = .ok (.iload 4, 2) := by decide +kernel
theorem dX4_voltsOfTry_29 : decode cX4_voltsOfTry 29 = .ok (.iload_n 3, 1) := by decide +kernel
theorem dX4_voltsOfTry_30 : decode cX4_voltsOfTry 30 = .ok (.iconst 1, 1) := by decide +kernel
theorem dX4_voltsOfTry_31 : decode cX4_voltsOfTry 31 = .ok (.iadd, 1) := by decide +kernel
theorem dX4_voltsOfTry_32 : decode cX4_voltsOfTry 32 = .ok (.invokevirtual 39, 3) := by decide +kernel
theorem dX4_voltsOfTry_35 : decode cX4_voltsOfTry 35 = .ok (.invokestatic 75, 3) := by decide +kernel
theorem dX4_voltsOfTry_38 : decode cX4_voltsOfTry 38 = .ok (.istore 6, 2) := by decide +kernel
theorem dX4_voltsOfTry_40 : decode cX4_voltsOfTry 40 = .ok (.iload 6, 2) := by decide +kernel
theorem dX4_voltsOfTry_42 : decode cX4_voltsOfTry 42 = .ok (.iload 4, 2) := by decide +kernel
theorem dX4_voltsOfTry_44 : decode cX4_voltsOfTry 44 = .ok (.if_icmp .ne 6, 3) := by decide +kernel
theorem dX4_voltsOfTry_47 : decode cX4_voltsOfTry 47 = .ok (.iload 4, 2) := by decide +kernel
theorem dX4_voltsOfTry_49 : decode cX4_voltsOfTry 49 = .ok (.ireturn, 1) := by decide +kernel
theorem dX4_voltsOfTry_50 : decode cX4_voltsOfTry 50 = .ok (.iload 6, 2) := by decide +kernel
theorem dX4_voltsOfTry_52 : decode cX4_voltsOfTry 52 = .ok (.istore 4, 2) := by decide +kernel
theorem dX4_voltsOfTry_54 : decode cX4_voltsOfTry 54 = .ok (.iinc 5 1, 3) := by decide +kernel
theorem dX4_voltsOfTry_57 : decode cX4_voltsOfTry 57 = .ok (.goto (-51), 3) := by decide +kernel
theorem dX4_voltsOfTry_60 : decode cX4_voltsOfTry 60 = .ok (.iload 4, 2) := by decide +kernel
theorem dX4_voltsOfTry_62 : decode cX4_voltsOfTry 62 = .ok (.ireturn, 1) := by decide +kernel
theorem dX4_most_0 : decode cX4_most 0 = .ok (.iload 4, 2) := by decide +kernel
theorem dX4_most_2 : decode cX4_most 2 = .ok (.iconst 5, 1) := by decide +kernel
theorem dX4_most_3 : decode cX4_most 3 = .ok (.if_icmp .le 5, 3) := by decide +kernel
theorem dX4_most_6 : decode cX4_most 6 = .ok (.lconst 0, 1) := by decide +kernel
theorem dX4_most_7 : decode cX4_most 7 = .ok (.lreturn, 1) := by decide +kernel
theorem dX4_most_8 : decode cX4_most 8 = .ok (.lconst 0, 1) := by decide +kernel
theorem dX4_most_9 : decode cX4_most 9 = .ok (.lstore 5, 2) := by decide +kernel
theorem dX4_most_11 : decode cX4_most 11 = .ok (.iload_n 2, 1) := by decide +kernel
theorem dX4_most_12 : decode cX4_most 12 = .ok (.istore 7, 2) := by decide +kernel
theorem dX4_most_14 : decode cX4_most 14 = .ok (.iload 7, 2) := by decide +kernel
theorem dX4_most_16 : decode cX4_most 16 = .ok (.iload_n 3, 1) := by decide +kernel
theorem dX4_most_17 : decode cX4_most 17 = .ok (.if_icmp .ge 158, 3) := by decide +kernel
theorem dX4_most_20 : decode cX4_most 20 = .ok (.aload_n 0, 1) := by decide +kernel
theorem dX4_most_21 : decode cX4_most 21 = .ok (.iload 7, 2) := by decide +kernel
theorem dX4_most_23 : decode cX4_most 23 = .ok (.invokevirtual 68, 3) := by decide +kernel
theorem dX4_most_26 : decode cX4_most 26 = .ok (.istore 8, 2) := by decide +kernel
theorem dX4_most_28 : decode cX4_most 28 = .ok (.lload 5, 2) := by decide +kernel
theorem dX4_most_30 : decode cX4_most 30 = .ok (.iload_n 1, 1) := by decide +kernel
theorem dX4_most_31 : decode cX4_most 31 = .ok (.ifCond .eq 23, 3) := by decide +kernel
theorem dX4_most_34 : decode cX4_most 34 = .ok (.iload 8, 2) := by decide +kernel
theorem dX4_most_36 : decode cX4_most 36 = .ok (.iconst 1, 1) := by decide +kernel
theorem dX4_most_37 : decode cX4_most 37 = .ok (.if_icmp .ne 12, 3) := by decide +kernel
theorem dX4_most_40 : decode cX4_most 40 = .ok (.aload_n 0, 1) := by decide +kernel
theorem dX4_most_41 : decode cX4_most 41 = .ok (.iload 7, 2) := by decide +kernel
theorem dX4_most_43 : decode cX4_most 43 = .ok (.invokevirtual 72, 3) := by decide +kernel
theorem dX4_most_46 : decode cX4_most 46 = .ok (.goto 4, 3) := by decide +kernel
theorem dX4_most_49 : decode cX4_most 49 = .ok (.iconst 0, 1) := by decide +kernel
theorem dX4_most_50 : decode cX4_most 50 = .ok (.i2l, 1) := by decide +kernel
theorem dX4_most_51 : decode cX4_most 51 = .ok (.goto 4, 3) := by decide +kernel
theorem dX4_most_54 : decode cX4_most 54 = .ok (.lconst 1, 1) := by decide +kernel
theorem dX4_most_55 : decode cX4_most 55 = .ok (.ladd, 1) := by decide +kernel
theorem dX4_most_56 : decode cX4_most 56 = .ok (.lstore 5, 2) := by decide +kernel
theorem dX4_most_58 : decode cX4_most 58 = .ok (.iload 8, 2) := by decide +kernel
theorem dX4_most_60 : decode cX4_most 60 = .ok (.iconst 3, 1) := by decide +kernel
theorem dX4_most_61 : decode cX4_most 61 = .ok (.if_icmp .ne 38, 3) := by decide +kernel
theorem dX4_most_64 : decode cX4_most 64 = .ok (.lload 5, 2) := by decide +kernel
theorem dX4_most_66 : decode cX4_most 66 = .ok (.aload_n 0, 1) := by decide +kernel
theorem dX4_most_67 : decode cX4_most 67 = .ok (.iload 7, 2) := by decide +kernel
theorem dX4_most_69 : decode cX4_most 69 = .ok (.invokevirtual 72, 3) := by decide +kernel
theorem dX4_most_72 : decode cX4_most 72 = .ok (.i2l, 1) := by decide +kernel
theorem dX4_most_73 : decode cX4_most 73 = .ok (.aload_n 0, 1) := by decide +kernel
theorem dX4_most_74 : decode cX4_most 74 = .ok (.iload_n 1, 1) := by decide +kernel
theorem dX4_most_75 : decode cX4_most 75 = .ok (.iload 7, 2) := by decide +kernel
theorem dX4_most_77 : decode cX4_most 77 = .ok (.iconst 1, 1) := by decide +kernel
theorem dX4_most_78 : decode cX4_most 78 = .ok (.iadd, 1) := by decide +kernel
theorem dX4_most_79 : decode cX4_most 79 = .ok (.aload_n 0, 1) := by decide +kernel
theorem dX4_most_80 : decode cX4_most 80 = .ok (.iload 7, 2) := by decide +kernel
theorem dX4_most_82 : decode cX4_most 82 = .ok (.invokevirtual 82, 3) := by decide +kernel
theorem dX4_most_85 : decode cX4_most 85 = .ok (.iload 4, 2) := by decide +kernel
theorem dX4_most_87 : decode cX4_most 87 = .ok (.iconst 1, 1) := by decide +kernel
theorem dX4_most_88 : decode cX4_most 88 = .ok (.iadd, 1) := by decide +kernel
theorem dX4_most_89 : decode cX4_most 89 = .ok (.invokevirtual 45, 3) := by decide +kernel
theorem dX4_most_92 : decode cX4_most 92 = .ok (.lmul, 1) := by decide +kernel
theorem dX4_most_93 : decode cX4_most 93 = .ok (.ladd, 1) := by decide +kernel
theorem dX4_most_94 : decode cX4_most 94 = .ok (.lstore 5, 2) := by decide +kernel
theorem dX4_most_96 : decode cX4_most 96 = .ok (.goto 61, 3) := by decide +kernel
theorem dX4_most_99 : decode cX4_most 99 = .ok (.iload 8, 2) := by decide +kernel
theorem dX4_most_101 : decode cX4_most 101 = .ok (.iconst 4, 1) := by decide +kernel
theorem dX4_most_102 : decode cX4_most 102 = .ok (.if_icmp .ne 55, 3) := by decide +kernel
theorem dX4_most_105 : decode cX4_most 105 = .ok (.aload_n 0, 1) := by decide +kernel
theorem dX4_most_106 : decode cX4_most 106 = .ok (.iload_n 1, 1) := by decide +kernel
theorem dX4_most_107 : decode cX4_most 107 = .ok (.iload 7, 2) := by decide +kernel
theorem dX4_most_109 : decode cX4_most 109 = .ok (.iconst 1, 1) := by decide +kernel
theorem dX4_most_110 : decode cX4_most 110 = .ok (.iadd, 1) := by decide +kernel
theorem dX4_most_111 : decode cX4_most 111 = .ok (.aload_n 0, 1) := by decide +kernel
theorem dX4_most_112 : decode cX4_most 112 = .ok (.iload 7, 2) := by decide +kernel
theorem dX4_most_114 : decode cX4_most 114 = .ok (.invokevirtual 79, 3) := by decide +kernel
theorem dX4_most_117 : decode cX4_most 117 = .ok (.iload 4, 2) := by decide +kernel
theorem dX4_most_119 : decode cX4_most 119 = .ok (.iconst 1, 1) := by decide +kernel
theorem dX4_most_120 : decode cX4_most 120 = .ok (.iadd, 1) := by decide +kernel
theorem dX4_most_121 : decode cX4_most 121 = .ok (.invokevirtual 45, 3) := by decide +kernel
theorem dX4_most_124 : decode cX4_most 124 = .ok (.lstore 9, 2) := by decide +kernel
theorem dX4_most_126 : decode cX4_most 126 = .ok (.lload 5, 2) := by decide +kernel
theorem dX4_most_128 : decode cX4_most 128 = .ok (.lload 9, 2) := by decide +kernel
theorem dX4_most_130 : decode cX4_most 130 = .ok (.aload_n 0, 1) := by decide +kernel
theorem dX4_most_131 : decode cX4_most 131 = .ok (.iload_n 1, 1) := by decide +kernel
theorem dX4_most_132 : decode cX4_most 132 = .ok (.aload_n 0, 1) := by decide +kernel
theorem dX4_most_133 : decode cX4_most 133 = .ok (.iload 7, 2) := by decide +kernel
theorem dX4_most_135 : decode cX4_most 135 = .ok (.invokevirtual 79, 3) := by decide +kernel
theorem dX4_most_138 : decode cX4_most 138 = .ok (.aload_n 0, 1) := by decide +kernel
theorem dX4_most_139 : decode cX4_most 139 = .ok (.iload 7, 2) := by decide +kernel
theorem dX4_most_141 : decode cX4_most 141 = .ok (.invokevirtual 82, 3) := by decide +kernel
theorem dX4_most_144 : decode cX4_most 144 = .ok (.iload 4, 2) := by decide +kernel
theorem dX4_most_146 : decode cX4_most 146 = .ok (.iconst 1, 1) := by decide +kernel
theorem dX4_most_147 : decode cX4_most 147 = .ok (.iadd, 1) := by decide +kernel
theorem dX4_most_148 : decode cX4_most 148 = .ok (.invokevirtual 45, 3) := by decide +kernel
theorem dX4_most_151 : decode cX4_most 151 = .ok (.invokestatic 89, 3) := by decide +kernel
theorem dX4_most_154 : decode cX4_most 154 = .ok (.ladd, 1) := by decide +kernel
theorem dX4_most_155 : decode cX4_most 155 = .ok (.lstore 5, 2) := by decide +kernel
theorem dX4_most_157 : decode cX4_most 157 = .ok (.iload 7, 2) := by decide +kernel
theorem dX4_most_159 : decode cX4_most 159 = .ok (.iconst 1, 1) := by decide +kernel
theorem dX4_most_160 : decode cX4_most 160 = .ok (.iadd, 1) := by decide +kernel
theorem dX4_most_161 : decode cX4_most 161 = .ok (.aload_n 0, 1) := by decide +kernel
theorem dX4_most_162 : decode cX4_most 162 = .ok (.iload 7, 2) := by decide +kernel
theorem dX4_most_164 : decode cX4_most 164 = .ok (.invokevirtual 82, 3) := by decide +kernel
theorem dX4_most_167 : decode cX4_most 167 = .ok (.invokestatic 75, 3) := by decide +kernel
theorem dX4_most_170 : decode cX4_most 170 = .ok (.istore 7, 2) := by decide +kernel
theorem dX4_most_172 : decode cX4_most 172 = .ok (.goto (-158), 3) := by decide +kernel
theorem dX4_most_175 : decode cX4_most 175 = .ok (.lload 5, 2) := by decide +kernel
theorem dX4_most_177 : decode cX4_most 177 = .ok (.lreturn, 1) := by decide +kernel
theorem dX4_isStep_0 : decode cX4_isStep 0 = .ok (.iload_n 1, 1) := by decide +kernel
theorem dX4_isStep_1 : decode cX4_isStep 1 = .ok (.ifCond .lt 21, 3) := by decide +kernel
theorem dX4_isStep_4 : decode cX4_isStep 4 = .ok (.iload_n 1, 1) := by decide +kernel
theorem dX4_isStep_5 : decode cX4_isStep 5 = .ok (.aload_n 0, 1) := by decide +kernel
theorem dX4_isStep_6 : decode cX4_isStep 6 = .ok (.getfield 28, 3) := by decide +kernel
theorem dX4_isStep_9 : decode cX4_isStep 9 = .ok (.if_icmp .ge 13, 3) := by decide +kernel
theorem dX4_isStep_12 : decode cX4_isStep 12 = .ok (.iload_n 1, 1) := by decide +kernel
theorem dX4_isStep_13 : decode cX4_isStep 13 = .ok (.bipush 40, 2) := by decide +kernel
theorem dX4_isStep_15 : decode cX4_isStep 15 = .ok (.if_icmp .ge 7, 3) := by decide +kernel
theorem dX4_isStep_18 : decode cX4_isStep 18 = .ok (.iconst 1, 1) := by decide +kernel
theorem dX4_isStep_19 : decode cX4_isStep 19 = .ok (.goto 4, 3) := by decide +kernel
theorem dX4_isStep_22 : decode cX4_isStep 22 = .ok (.iconst 0, 1) := by decide +kernel
theorem dX4_isStep_23 : decode cX4_isStep 23 = .ok (.ireturn, 1) := by decide +kernel
theorem dX5_init_0 : decode cX5_init 0 = .ok (.aload_n 0, 1) := by decide +kernel
theorem dX5_init_1 : decode cX5_init 1 = .ok (.invokespecial 3, 3) := by decide +kernel
theorem dX5_init_4 : decode cX5_init 4 = .ok (.aload_n 0, 1) := by decide +kernel
theorem dX5_init_5 : decode cX5_init 5 = .ok (.iconst 5, 1) := by decide +kernel
theorem dX5_init_6 : decode cX5_init 6 = .ok (.newarray .int, 2) := by decide +kernel
theorem dX5_init_8 : decode cX5_init 8 = .ok (.putfield 9, 3) := by decide +kernel
theorem dX5_init_11 : decode cX5_init 11 = .ok (.aload_n 0, 1) := by decide +kernel
theorem dX5_init_12 : decode cX5_init 12 = .ok (.iconst 5, 1) := by decide +kernel
theorem dX5_init_13 : decode cX5_init 13 = .ok (.newarray .boolean, 2) := by decide +kernel
theorem dX5_init_15 : decode cX5_init 15 = .ok (.putfield 15, 3) := by decide +kernel
theorem dX5_init_18 : decode cX5_init 18 = .ok (.aload_n 0, 1) := by decide +kernel
theorem dX5_init_19 : decode cX5_init 19 = .ok (.aload_n 1, 1) := by decide +kernel
theorem dX5_init_20 : decode cX5_init 20 = .ok (.putfield 19, 3) := by decide +kernel
theorem dX5_init_23 : decode cX5_init 23 = .ok (.aload_n 0, 1) := by decide +kernel
theorem dX5_init_24 : decode cX5_init 24 = .ok (.aload_n 2, 1) := by decide +kernel
theorem dX5_init_25 : decode cX5_init 25 = .ok (.putfield 23, 3) := by decide +kernel
theorem dX5_init_28 : decode cX5_init 28 = .ok (.return_, 1) := by decide +kernel
theorem dX5_readInto_0 : decode cX5_readInto 0 = .ok (.aload_n 0, 1) := by decide +kernel
theorem dX5_readInto_1 : decode cX5_readInto 1 = .ok (.getfield 23, 3) := by decide +kernel
theorem dX5_readInto_4 : decode cX5_readInto 4 = .ok (.invokevirtual 27, 3) := by decide +kernel
theorem dX5_readInto_7 : decode cX5_readInto 7 = .ok (.aload_n 0, 1) := by decide +kernel
theorem dX5_readInto_8 : decode cX5_readInto 8 = .ok (.getfield 19, 3) := by decide +kernel
theorem dX5_readInto_11 : decode cX5_readInto 11 = .ok (.invokevirtual 32, 3) := by decide +kernel
theorem dX5_readInto_14 : decode cX5_readInto 14 = .ok (.sipush 200, 3) := by decide +kernel
theorem dX5_readInto_17 : decode cX5_readInto 17 = .ok (.if_icmp .le 16, 3) := by decide +kernel
theorem dX5_readInto_20 : decode cX5_readInto 20 = .ok (.aload_n 0, 1) := by decide +kernel
theorem dX5_readInto_21 : decode cX5_readInto 21 = .ok (.getfield 23, 3) := by decide +kernel
theorem dX5_readInto_24 : decode cX5_readInto 24 = .ok (.iconst 1, 1) := by decide +kernel
theorem dX5_readInto_25 : decode cX5_readInto 25 = .ok (.sipush 200, 3) := by decide +kernel
theorem dX5_readInto_28 : decode cX5_readInto 28 = .ok (.invokevirtual 38, 3) := by decide +kernel
theorem dX5_readInto_31 : decode cX5_readInto 31 = .ok (.iconst 0, 1) := by decide +kernel
theorem dX5_readInto_32 : decode cX5_readInto 32 = .ok (.ireturn, 1) := by decide +kernel
theorem dX5_readInto_33 : decode cX5_readInto 33 = .ok (.aload_n 1, 1) := by decide +kernel
theorem dX5_readInto_34 : decode cX5_readInto 34 = .ok (.invokevirtual 42, 3) := by decide +kernel
theorem dX5_readInto_37 : decode cX5_readInto 37 = .ok (.aload_n 0, 1) := by decide +kernel
theorem dX5_readInto_38 : decode cX5_readInto 38 = .ok (.iconst 0, 1) := by decide +kernel
theorem dX5_readInto_39 : decode cX5_readInto 39 = .ok (.putfield 47, 3) := by decide +kernel
theorem dX5_readInto_42 : decode cX5_readInto 42 = .ok (.aload_n 0, 1) := by decide +kernel
theorem dX5_readInto_43 : decode cX5_readInto 43 = .ok (.iconst 0, 1) := by decide +kernel
theorem dX5_readInto_44 : decode cX5_readInto 44 = .ok (.putfield 51, 3) := by decide +kernel
theorem dX5_readInto_47 : decode cX5_readInto 47 = .ok (.aload_n 0, 1) := by decide +kernel
theorem dX5_readInto_48 : decode cX5_readInto 48 = .ok (.invokevirtual 54, 3) := by decide +kernel
theorem dX5_readInto_51 : decode cX5_readInto 51 = .ok (.iconst 1, 1) := by decide +kernel
theorem dX5_readInto_52 : decode cX5_readInto 52 = .ok (.istore_n 2, 1) := by decide +kernel
theorem dX5_readInto_53 : decode cX5_readInto 53 = .ok (.iconst 0, 1) := by decide +kernel
theorem dX5_readInto_54 : decode cX5_readInto 54 = .ok (.istore_n 3, 1) := by decide +kernel
theorem dX5_readInto_55 : decode cX5_readInto 55 = .ok (.iload_n 3, 1) := by decide +kernel
theorem dX5_readInto_56 : decode cX5_readInto 56 = .ok (.sipush 200, 3) := by decide +kernel
theorem dX5_readInto_59 : decode cX5_readInto 59 = .ok (.if_icmp .ge 43, 3) := by decide +kernel
theorem dX5_readInto_62 : decode cX5_readInto 62 = .ok (.iload_n 2, 1) := by decide +kernel
theorem dX5_readInto_63 : decode cX5_readInto 63 = .ok (.ifCond .eq 39, 3) := by decide +kernel
theorem dX5_readInto_66 : decode cX5_readInto 66 = .ok (.aload_n 0, 1) := by decide +kernel
theorem dX5_readInto_67 : decode cX5_readInto 67 = .ok (.getfield 57, 3) := by decide +kernel
theorem dX5_readInto_70 : decode cX5_readInto 70 = .ok (.ifCond .eq 32, 3) := by decide +kernel
theorem dX5_readInto_73 : decode cX5_readInto 73 = .ok (.aload_n 0, 1) := by decide +kernel
theorem dX5_readInto_74 : decode cX5_readInto 74 = .ok (.bipush 125, 2) := by decide +kernel
theorem dX5_readInto_76 : decode cX5_readInto 76 = .ok (.invokevirtual 60, 3) := by decide +kernel
theorem dX5_readInto_79 : decode cX5_readInto 79 = .ok (.ifCond .eq 11, 3) := by decide +kernel
theorem dX5_readInto_82 : decode cX5_readInto 82 = .ok (.aload_n 0, 1) := by decide +kernel
theorem dX5_readInto_83 : decode cX5_readInto 83 = .ok (.aload_n 1, 1) := by decide +kernel
theorem dX5_readInto_84 : decode cX5_readInto 84 = .ok (.invokevirtual 64, 3) := by decide +kernel
theorem dX5_readInto_87 : decode cX5_readInto 87 = .ok (.goto 8, 3) := by decide +kernel
theorem dX5_readInto_90 : decode cX5_readInto 90 = .ok (.aload_n 0, 1) := by decide +kernel
theorem dX5_readInto_91 : decode cX5_readInto 91 = .ok (.aload_n 1, 1) := by decide +kernel
theorem dX5_readInto_92 : decode cX5_readInto 92 = .ok (.invokevirtual 68, 3) := by decide +kernel
theorem dX5_readInto_95 : decode cX5_readInto 95 = .ok (.istore_n 2, 1) := by decide +kernel
theorem dX5_readInto_96 : decode cX5_readInto 96 = .ok (.iinc 3 1, 3) := by decide +kernel
theorem dX5_readInto_99 : decode cX5_readInto 99 = .ok (.goto (-44), 3) := by decide +kernel
theorem dX5_readInto_102 : decode cX5_readInto 102 = .ok (.iload_n 2, 1) := by decide +kernel
theorem dX5_readInto_103 : decode cX5_readInto 103 = .ok (.ifCond .eq 16, 3) := by decide +kernel
theorem dX5_readInto_106 : decode cX5_readInto 106 = .ok (.aload_n 0, 1) := by decide +kernel
theorem dX5_readInto_107 : decode cX5_readInto 107 = .ok (.getfield 47, 3) := by decide +kernel
theorem dX5_readInto_110 : decode cX5_readInto 110 = .ok (.ifCond .le 9, 3) := by decide +kernel
theorem dX5_readInto_113 : decode cX5_readInto 113 = .ok (.aload_n 0, 1) := by decide +kernel
theorem dX5_readInto_114 : decode cX5_readInto 114 = .ok (.iconst 1, 1) := by decide +kernel
theorem dX5_readInto_115 : decode cX5_readInto 115 = .ok (.invokevirtual 71, 3) := by decide +kernel
theorem dX5_readInto_118 : decode cX5_readInto 118 = .ok (.istore_n 2, 1) := by decide +kernel
theorem dX5_readInto_119 : decode cX5_readInto 119 = .ok (.iload_n 2, 1) := by decide +kernel
theorem dX5_readInto_120 : decode cX5_readInto 120 = .ok (.ifCond .eq 7, 3) := by decide +kernel
theorem dX5_readInto_123 : decode cX5_readInto 123 = .ok (.aload_n 1, 1) := by decide +kernel
theorem dX5_readInto_124 : decode cX5_readInto 124 = .ok (.invokevirtual 74, 3) := by decide +kernel
theorem dX5_readInto_127 : decode cX5_readInto 127 = .ok (.iload_n 2, 1) := by decide +kernel
theorem dX5_readInto_128 : decode cX5_readInto 128 = .ok (.ireturn, 1) := by decide +kernel
theorem dX5_takeStep_0 : decode cX5_takeStep 0 = .ok (.aload_n 0, 1) := by decide +kernel
theorem dX5_takeStep_1 : decode cX5_takeStep 1 = .ok (.invokevirtual 77, 3) := by decide +kernel
theorem dX5_takeStep_4 : decode cX5_takeStep 4 = .ok (.istore_n 2, 1) := by decide +kernel
theorem dX5_takeStep_5 : decode cX5_takeStep 5 = .ok (.iload_n 2, 1) := by decide +kernel
theorem dX5_takeStep_6 : decode cX5_takeStep 6 = .ok (.iconst (-1), 1) := by decide +kernel
theorem dX5_takeStep_7 : decode cX5_takeStep 7 = .ok (.if_icmp .ne 9, 3) := by decide +kernel
theorem dX5_takeStep_10 : decode cX5_takeStep 10 = .ok (.aload_n 0, 1) := by decide +kernel
theorem dX5_takeStep_11 : decode cX5_takeStep 11 = .ok (.iconst 1, 1) := by decide +kernel
theorem dX5_takeStep_12 : decode cX5_takeStep 12 = .ok (.invokevirtual 71, 3) := by decide +kernel
theorem dX5_takeStep_15 : decode cX5_takeStep 15 = .ok (.ireturn, 1) := by decide +kernel
theorem dX5_takeStep_16 : decode cX5_takeStep 16 = .ok (.iload_n 2, 1) := by decide +kernel
theorem dX5_takeStep_17 : decode cX5_takeStep 17 = .ok (.iconst 3, 1) := by decide +kernel
theorem dX5_takeStep_18 : decode cX5_takeStep 18 = .ok (.if_icmp .eq 8, 3) := by decide +kernel
theorem dX5_takeStep_21 : decode cX5_takeStep 21 = .ok (.iload_n 2, 1) := by decide +kernel
theorem dX5_takeStep_22 : decode cX5_takeStep 22 = .ok (.iconst 4, 1) := by decide +kernel
theorem dX5_takeStep_23 : decode cX5_takeStep 23 = .ok (.if_icmp .ne 7, 3) := by decide +kernel
theorem dX5_takeStep_26 : decode cX5_takeStep 26 = .ok (.iconst 1, 1) := by decide +kernel
theorem dX5_takeStep_27 : decode cX5_takeStep 27 = .ok (.goto 4, 3) := by decide +kernel
theorem dX5_takeStep_30 : decode cX5_takeStep 30 = .ok (.iconst 0, 1) := by decide +kernel
theorem dX5_takeStep_31 : decode cX5_takeStep 31 = .ok (.istore_n 3, 1) := by decide +kernel
theorem dX5_takeStep_32 : decode cX5_takeStep 32 = .ok (.aload_n 1, 1) := by decide +kernel
theorem dX5_takeStep_33 : decode cX5_takeStep 33 = .ok (.invokevirtual 80, 3) := by decide +kernel
theorem dX5_takeStep_36 : decode cX5_takeStep 36 = .ok (.ifCond .ne 15, 3) := by decide +kernel
theorem dX5_takeStep_39 : decode cX5_takeStep 39 = .ok (.iload_n 3, 1) := by decide +kernel
theorem dX5_takeStep_40 : decode cX5_takeStep 40 = .ok (.ifCond .eq 17, 3) := by decide +kernel
theorem dX5_takeStep_43 : decode cX5_takeStep 43 = .ok (.aload_n 0, 1) := by decide +kernel
theorem dX5_takeStep_44 : decode cX5_takeStep 44 = .ok (.getfield 47, 3) := by decide +kernel
theorem dX5_takeStep_47 : decode cX5_takeStep 47 = .ok (.iconst 5, 1) := by decide +kernel
theorem dX5_takeStep_48 : decode cX5_takeStep 48 = .ok (.if_icmp .lt 9, 3) := by decide +kernel
theorem dX5_takeStep_51 : decode cX5_takeStep 51 = .ok (.aload_n 0, 1) := by decide +kernel
theorem dX5_takeStep_52 : decode cX5_takeStep 52 = .ok (.iconst 3, 1) := by decide +kernel
theorem dX5_takeStep_53 : decode cX5_takeStep 53 = .ok (.invokevirtual 71, 3) := by decide +kernel
theorem dX5_takeStep_56 : decode cX5_takeStep 56 = .ok (.ireturn, 1) := by decide +kernel
theorem dX5_takeStep_57 : decode cX5_takeStep 57 = .ok (.aload_n 1, 1) := by decide +kernel
theorem dX5_takeStep_58 : decode cX5_takeStep 58 = .ok (.iload_n 2, 1) := by decide +kernel
theorem dX5_takeStep_59 : decode cX5_takeStep 59 = .ok (.invokevirtual 84, 3) := by decide +kernel
theorem dX5_takeStep_62 : decode cX5_takeStep 62 = .ok (.istore 4, 2) := by decide +kernel
theorem dX5_takeStep_64 : decode cX5_takeStep 64 = .ok (.aload_n 0, 1) := by decide +kernel
theorem dX5_takeStep_65 : decode cX5_takeStep 65 = .ok (.invokevirtual 54, 3) := by decide +kernel
theorem dX5_takeStep_68 : decode cX5_takeStep 68 = .ok (.iload_n 2, 1) := by decide +kernel
theorem dX5_takeStep_69 : decode cX5_takeStep 69 = .ok (.tableswitch 123 0 3 #[31, 59, 87, 94], 31) := by decide +kernel
theorem dX5_takeStep_100 : decode cX5_takeStep 100 = .ok (.aload_n 0, 1) := by decide +kernel
theorem dX5_takeStep_101 : decode cX5_takeStep 101 = .ok (.aload_n 1, 1) := by decide +kernel
theorem dX5_takeStep_102 : decode cX5_takeStep 102 = .ok (.iload 4, 2) := by decide +kernel
theorem dX5_takeStep_104 : decode cX5_takeStep 104 = .ok (.iconst 0, 1) := by decide +kernel
theorem dX5_takeStep_105 : decode cX5_takeStep 105 = .ok (.bipush 30, 2) := by decide +kernel
theorem dX5_takeStep_107 : decode cX5_takeStep 107 = .ok (.invokevirtual 88, 3) := by decide +kernel
theorem dX5_takeStep_110 : decode cX5_takeStep 110 = .ok (.ifCond .eq 16, 3) := by decide +kernel
theorem dX5_takeStep_113 : decode cX5_takeStep 113 = .ok (.aload_n 0, 1) := by decide +kernel
theorem dX5_takeStep_114 : decode cX5_takeStep 114 = .ok (.bipush 59, 2) := by decide +kernel
theorem dX5_takeStep_116 : decode cX5_takeStep 116 = .ok (.invokevirtual 92, 3) := by decide +kernel
theorem dX5_takeStep_119 : decode cX5_takeStep 119 = .ok (.ifCond .eq 7, 3) := by decide +kernel
theorem dX5_takeStep_122 : decode cX5_takeStep 122 = .ok (.iconst 1, 1) := by decide +kernel
theorem dX5_takeStep_123 : decode cX5_takeStep 123 = .ok (.goto 4, 3) := by decide +kernel
theorem dX5_takeStep_126 : decode cX5_takeStep 126 = .ok (.iconst 0, 1) := by decide +kernel
theorem dX5_takeStep_127 : decode cX5_takeStep 127 = .ok (.ireturn, 1) := by decide +kernel
theorem dX5_takeStep_128 : decode cX5_takeStep 128 = .ok (.aload_n 0, 1) := by decide +kernel
theorem dX5_takeStep_129 : decode cX5_takeStep 129 = .ok (.aload_n 1, 1) := by decide +kernel
theorem dX5_takeStep_130 : decode cX5_takeStep 130 = .ok (.iload 4, 2) := by decide +kernel
theorem dX5_takeStep_132 : decode cX5_takeStep 132 = .ok (.iconst 1, 1) := by decide +kernel
theorem dX5_takeStep_133 : decode cX5_takeStep 133 = .ok (.bipush 50, 2) := by decide +kernel
theorem dX5_takeStep_135 : decode cX5_takeStep 135 = .ok (.invokevirtual 88, 3) := by decide +kernel
theorem dX5_takeStep_138 : decode cX5_takeStep 138 = .ok (.ifCond .eq 16, 3) := by decide +kernel
theorem dX5_takeStep_141 : decode cX5_takeStep 141 = .ok (.aload_n 0, 1) := by decide +kernel
theorem dX5_takeStep_142 : decode cX5_takeStep 142 = .ok (.bipush 59, 2) := by decide +kernel
theorem dX5_takeStep_144 : decode cX5_takeStep 144 = .ok (.invokevirtual 92, 3) := by decide +kernel
theorem dX5_takeStep_147 : decode cX5_takeStep 147 = .ok (.ifCond .eq 7, 3) := by decide +kernel
theorem dX5_takeStep_150 : decode cX5_takeStep 150 = .ok (.iconst 1, 1) := by decide +kernel
theorem dX5_takeStep_151 : decode cX5_takeStep 151 = .ok (.goto 4, 3) := by decide +kernel
theorem dX5_takeStep_154 : decode cX5_takeStep 154 = .ok (.iconst 0, 1) := by decide +kernel
theorem dX5_takeStep_155 : decode cX5_takeStep 155 = .ok (.ireturn, 1) := by decide +kernel
theorem dX5_takeStep_156 : decode cX5_takeStep 156 = .ok (.aload_n 0, 1) := by decide +kernel
theorem dX5_takeStep_157 : decode cX5_takeStep 157 = .ok (.bipush 59, 2) := by decide +kernel
theorem dX5_takeStep_159 : decode cX5_takeStep 159 = .ok (.invokevirtual 92, 3) := by decide +kernel
theorem dX5_takeStep_162 : decode cX5_takeStep 162 = .ok (.ireturn, 1) := by decide +kernel
theorem dX5_takeStep_163 : decode cX5_takeStep 163 = .ok (.aload_n 0, 1) := by decide +kernel
theorem dX5_takeStep_164 : decode cX5_takeStep 164 = .ok (.aload_n 1, 1) := by decide +kernel
theorem dX5_takeStep_165 : decode cX5_takeStep 165 = .ok (.iload 4, 2) := by decide +kernel
theorem dX5_takeStep_167 : decode cX5_takeStep 167 = .ok (.iconst 1, 1) := by decide +kernel
theorem dX5_takeStep_168 : decode cX5_takeStep 168 = .ok (.bipush 50, 2) := by decide +kernel
theorem dX5_takeStep_170 : decode cX5_takeStep 170 = .ok (.invokevirtual 88, 3) := by decide +kernel
theorem dX5_takeStep_173 : decode cX5_takeStep 173 = .ok (.ifCond .eq 17, 3) := by decide +kernel
theorem dX5_takeStep_176 : decode cX5_takeStep 176 = .ok (.aload_n 0, 1) := by decide +kernel
theorem dX5_takeStep_177 : decode cX5_takeStep 177 = .ok (.iload 4, 2) := by decide +kernel
theorem dX5_takeStep_179 : decode cX5_takeStep 179 = .ok (.iconst 0, 1) := by decide +kernel
theorem dX5_takeStep_180 : decode cX5_takeStep 180 = .ok (.invokevirtual 95, 3) := by decide +kernel
theorem dX5_takeStep_183 : decode cX5_takeStep 183 = .ok (.ifCond .eq 7, 3) := by decide +kernel
theorem dX5_takeStep_186 : decode cX5_takeStep 186 = .ok (.iconst 1, 1) := by decide +kernel
theorem dX5_takeStep_187 : decode cX5_takeStep 187 = .ok (.goto 4, 3) := by decide +kernel
theorem dX5_takeStep_190 : decode cX5_takeStep 190 = .ok (.iconst 0, 1) := by decide +kernel
theorem dX5_takeStep_191 : decode cX5_takeStep 191 = .ok (.ireturn, 1) := by decide +kernel
theorem dX5_takeStep_192 : decode cX5_takeStep 192 = .ok (.aload_n 0, 1) := by decide +kernel
theorem dX5_takeStep_193 : decode cX5_takeStep 193 = .ok (.iload 4, 2) := by decide +kernel
theorem dX5_takeStep_195 : decode cX5_takeStep 195 = .ok (.iconst 1, 1) := by decide +kernel
theorem dX5_takeStep_196 : decode cX5_takeStep 196 = .ok (.invokevirtual 95, 3) := by decide +kernel
theorem dX5_takeStep_199 : decode cX5_takeStep 199 = .ok (.ireturn, 1) := by decide +kernel
theorem dX5_takeOpening_0 : decode cX5_takeOpening 0 = .ok (.aload_n 0, 1) := by decide +kernel
theorem dX5_takeOpening_1 : decode cX5_takeOpening 1 = .ok (.bipush 123, 2) := by decide +kernel
theorem dX5_takeOpening_3 : decode cX5_takeOpening 3 = .ok (.invokevirtual 92, 3) := by decide +kernel
theorem dX5_takeOpening_6 : decode cX5_takeOpening 6 = .ok (.ifCond .ne 5, 3) := by decide +kernel
theorem dX5_takeOpening_9 : decode cX5_takeOpening 9 = .ok (.iconst 0, 1) := by decide +kernel
theorem dX5_takeOpening_10 : decode cX5_takeOpening 10 = .ok (.ireturn, 1) := by decide +kernel
theorem dX5_takeOpening_11 : decode cX5_takeOpening 11 = .ok (.aload_n 0, 1) := by decide +kernel
theorem dX5_takeOpening_12 : decode cX5_takeOpening 12 = .ok (.getfield 47, 3) := by decide +kernel
theorem dX5_takeOpening_15 : decode cX5_takeOpening 15 = .ok (.ifCond .lt 41, 3) := by decide +kernel
theorem dX5_takeOpening_18 : decode cX5_takeOpening 18 = .ok (.aload_n 0, 1) := by decide +kernel
theorem dX5_takeOpening_19 : decode cX5_takeOpening 19 = .ok (.getfield 47, 3) := by decide +kernel
theorem dX5_takeOpening_22 : decode cX5_takeOpening 22 = .ok (.iconst 5, 1) := by decide +kernel
theorem dX5_takeOpening_23 : decode cX5_takeOpening 23 = .ok (.if_icmp .ge 33, 3) := by decide +kernel
theorem dX5_takeOpening_26 : decode cX5_takeOpening 26 = .ok (.aload_n 0, 1) := by decide +kernel
theorem dX5_takeOpening_27 : decode cX5_takeOpening 27 = .ok (.getfield 9, 3) := by decide +kernel
theorem dX5_takeOpening_30 : decode cX5_takeOpening 30 = .ok (.aload_n 0, 1) := by decide +kernel
theorem dX5_takeOpening_31 : decode cX5_takeOpening 31 = .ok (.getfield 47, 3) := by decide +kernel
theorem dX5_takeOpening_34 : decode cX5_takeOpening 34 = .ok (.iload_n 1, 1) := by decide +kernel
theorem dX5_takeOpening_35 : decode cX5_takeOpening 35 = .ok (.iastore, 1) := by decide +kernel
theorem dX5_takeOpening_36 : decode cX5_takeOpening 36 = .ok (.aload_n 0, 1) := by decide +kernel
theorem dX5_takeOpening_37 : decode cX5_takeOpening 37 = .ok (.getfield 15, 3) := by decide +kernel
theorem dX5_takeOpening_40 : decode cX5_takeOpening 40 = .ok (.aload_n 0, 1) := by decide +kernel
theorem dX5_takeOpening_41 : decode cX5_takeOpening 41 = .ok (.getfield 47, 3) := by decide +kernel
theorem dX5_takeOpening_44 : decode cX5_takeOpening 44 = .ok (.iload_n 2, 1) := by decide +kernel
theorem dX5_takeOpening_45 : decode cX5_takeOpening 45 = .ok (.bastore, 1) := by decide +kernel
theorem dX5_takeOpening_46 : decode cX5_takeOpening 46 = .ok (.aload_n 0, 1) := by decide +kernel
theorem dX5_takeOpening_47 : decode cX5_takeOpening 47 = .ok (.dup, 1) := by decide +kernel
theorem dX5_takeOpening_48 : decode cX5_takeOpening 48 = .ok (.getfield 47, 3) := by decide +kernel
theorem dX5_takeOpening_51 : decode cX5_takeOpening 51 = .ok (.iconst 1, 1) := by decide +kernel
theorem dX5_takeOpening_52 : decode cX5_takeOpening 52 = .ok (.iadd, 1) := by decide +kernel
theorem dX5_takeOpening_53 : decode cX5_takeOpening 53 = .ok (.putfield 47, 3) := by decide +kernel
theorem dX5_takeOpening_56 : decode cX5_takeOpening 56 = .ok (.iconst 1, 1) := by decide +kernel
theorem dX5_takeOpening_57 : decode cX5_takeOpening 57 = .ok (.ireturn, 1) := by decide +kernel
theorem dX5_takeClosing_0 : decode cX5_takeClosing 0 = .ok (.aload_n 0, 1) := by decide +kernel
theorem dX5_takeClosing_1 : decode cX5_takeClosing 1 = .ok (.getfield 47, 3) := by decide +kernel
theorem dX5_takeClosing_4 : decode cX5_takeClosing 4 = .ok (.iconst 1, 1) := by decide +kernel
theorem dX5_takeClosing_5 : decode cX5_takeClosing 5 = .ok (.isub, 1) := by decide +kernel
theorem dX5_takeClosing_6 : decode cX5_takeClosing 6 = .ok (.istore_n 2, 1) := by decide +kernel
theorem dX5_takeClosing_7 : decode cX5_takeClosing 7 = .ok (.iload_n 2, 1) := by decide +kernel
theorem dX5_takeClosing_8 : decode cX5_takeClosing 8 = .ok (.iconst 0, 1) := by decide +kernel
theorem dX5_takeClosing_9 : decode cX5_takeClosing 9 = .ok (.iconst 4, 1) := by decide +kernel
theorem dX5_takeClosing_10 : decode cX5_takeClosing 10 = .ok (.invokestatic 99, 3) := by decide +kernel
theorem dX5_takeClosing_13 : decode cX5_takeClosing 13 = .ok (.ifCond .ne 9, 3) := by decide +kernel
theorem dX5_takeClosing_16 : decode cX5_takeClosing 16 = .ok (.aload_n 0, 1) := by decide +kernel
theorem dX5_takeClosing_17 : decode cX5_takeClosing 17 = .ok (.iconst 1, 1) := by decide +kernel
theorem dX5_takeClosing_18 : decode cX5_takeClosing 18 = .ok (.invokevirtual 71, 3) := by decide +kernel
theorem dX5_takeClosing_21 : decode cX5_takeClosing 21 = .ok (.ireturn, 1) := by decide +kernel
theorem dX5_takeClosing_22 : decode cX5_takeClosing 22 = .ok (.aload_n 0, 1) := by decide +kernel
theorem dX5_takeClosing_23 : decode cX5_takeClosing 23 = .ok (.invokevirtual 54, 3) := by decide +kernel
theorem dX5_takeClosing_26 : decode cX5_takeClosing 26 = .ok (.aload_n 0, 1) := by decide +kernel
theorem dX5_takeClosing_27 : decode cX5_takeClosing 27 = .ok (.getfield 15, 3) := by decide +kernel
theorem dX5_takeClosing_30 : decode cX5_takeClosing 30 = .ok (.iload_n 2, 1) := by decide +kernel
theorem dX5_takeClosing_31 : decode cX5_takeClosing 31 = .ok (.baload, 1) := by decide +kernel
theorem dX5_takeClosing_32 : decode cX5_takeClosing 32 = .ok (.ifCond .ne 25, 3) := by decide +kernel
theorem dX5_takeClosing_35 : decode cX5_takeClosing 35 = .ok (.aload_n 1, 1) := by decide +kernel
theorem dX5_takeClosing_36 : decode cX5_takeClosing 36 = .ok (.aload_n 0, 1) := by decide +kernel
theorem dX5_takeClosing_37 : decode cX5_takeClosing 37 = .ok (.getfield 9, 3) := by decide +kernel
theorem dX5_takeClosing_40 : decode cX5_takeClosing 40 = .ok (.iload_n 2, 1) := by decide +kernel
theorem dX5_takeClosing_41 : decode cX5_takeClosing 41 = .ok (.iaload, 1) := by decide +kernel
theorem dX5_takeClosing_42 : decode cX5_takeClosing 42 = .ok (.invokevirtual 103, 3) := by decide +kernel
theorem dX5_takeClosing_45 : decode cX5_takeClosing 45 = .ok (.aload_n 0, 1) := by decide +kernel
theorem dX5_takeClosing_46 : decode cX5_takeClosing 46 = .ok (.dup, 1) := by decide +kernel
theorem dX5_takeClosing_47 : decode cX5_takeClosing 47 = .ok (.getfield 47, 3) := by decide +kernel
theorem dX5_takeClosing_50 : decode cX5_takeClosing 50 = .ok (.iconst 1, 1) := by decide +kernel
theorem dX5_takeClosing_51 : decode cX5_takeClosing 51 = .ok (.isub, 1) := by decide +kernel
theorem dX5_takeClosing_52 : decode cX5_takeClosing 52 = .ok (.putfield 47, 3) := by decide +kernel
theorem dX5_takeClosing_55 : decode cX5_takeClosing 55 = .ok (.iconst 1, 1) := by decide +kernel
theorem dX5_takeClosing_56 : decode cX5_takeClosing 56 = .ok (.ireturn, 1) := by decide +kernel
theorem dX5_takeClosing_57 : decode cX5_takeClosing 57 = .ok (.aload_n 0, 1) := by decide +kernel
theorem dX5_takeClosing_58 : decode cX5_takeClosing 58 = .ok (.ldc 107, 2) := by decide +kernel
theorem dX5_takeClosing_60 : decode cX5_takeClosing 60 = .ok (.invokevirtual 109, 3) := by decide +kernel
theorem dX5_takeClosing_63 : decode cX5_takeClosing 63 = .ok (.ifCond .ne 9, 3) := by decide +kernel
theorem dX5_takeClosing_66 : decode cX5_takeClosing 66 = .ok (.aload_n 0, 1) := by decide +kernel
theorem dX5_takeClosing_67 : decode cX5_takeClosing 67 = .ok (.iconst 1, 1) := by decide +kernel
theorem dX5_takeClosing_68 : decode cX5_takeClosing 68 = .ok (.invokevirtual 71, 3) := by decide +kernel
theorem dX5_takeClosing_71 : decode cX5_takeClosing 71 = .ok (.ireturn, 1) := by decide +kernel
theorem dX5_takeClosing_72 : decode cX5_takeClosing 72 = .ok (.aload_n 0, 1) := by decide +kernel
theorem dX5_takeClosing_73 : decode cX5_takeClosing 73 = .ok (.invokevirtual 54, 3) := by decide +kernel
theorem dX5_takeClosing_76 : decode cX5_takeClosing 76 = .ok (.aload_n 0, 1) := by decide +kernel
theorem dX5_takeClosing_77 : decode cX5_takeClosing 77 = .ok (.getfield 15, 3) := by decide +kernel
theorem dX5_takeClosing_80 : decode cX5_takeClosing 80 = .ok (.iload_n 2, 1) := by decide +kernel
theorem dX5_takeClosing_81 : decode cX5_takeClosing 81 = .ok (.iconst 0, 1) := by decide +kernel
theorem dX5_takeClosing_82 : decode cX5_takeClosing 82 = .ok (.bastore, 1) := by decide +kernel
theorem dX5_takeClosing_83 : decode cX5_takeClosing 83 = .ok (.aload_n 1, 1) := by decide +kernel
theorem dX5_takeClosing_84 : decode cX5_takeClosing 84 = .ok (.aload_n 0, 1) := by decide +kernel
theorem dX5_takeClosing_85 : decode cX5_takeClosing 85 = .ok (.getfield 9, 3) := by decide +kernel
theorem dX5_takeClosing_88 : decode cX5_takeClosing 88 = .ok (.iload_n 2, 1) := by decide +kernel
theorem dX5_takeClosing_89 : decode cX5_takeClosing 89 = .ok (.iaload, 1) := by decide +kernel
theorem dX5_takeClosing_90 : decode cX5_takeClosing 90 = .ok (.invokevirtual 113, 3) := by decide +kernel
theorem dX5_takeClosing_93 : decode cX5_takeClosing 93 = .ok (.aload_n 0, 1) := by decide +kernel
theorem dX5_takeClosing_94 : decode cX5_takeClosing 94 = .ok (.bipush 123, 2) := by decide +kernel
theorem dX5_takeClosing_96 : decode cX5_takeClosing 96 = .ok (.invokevirtual 92, 3) := by decide +kernel
theorem dX5_takeClosing_99 : decode cX5_takeClosing 99 = .ok (.ireturn, 1) := by decide +kernel
theorem dX5_takeNumber_0 : decode cX5_takeNumber 0 = .ok (.aload_n 0, 1) := by decide +kernel
theorem dX5_takeNumber_1 : decode cX5_takeNumber 1 = .ok (.getfield 57, 3) := by decide +kernel
theorem dX5_takeNumber_4 : decode cX5_takeNumber 4 = .ok (.iconst 2, 1) := by decide +kernel
theorem dX5_takeNumber_5 : decode cX5_takeNumber 5 = .ok (.if_icmp .eq 9, 3) := by decide +kernel
theorem dX5_takeNumber_8 : decode cX5_takeNumber 8 = .ok (.aload_n 0, 1) := by decide +kernel
theorem dX5_takeNumber_9 : decode cX5_takeNumber 9 = .ok (.iconst 1, 1) := by decide +kernel
theorem dX5_takeNumber_10 : decode cX5_takeNumber 10 = .ok (.invokevirtual 71, 3) := by decide +kernel
theorem dX5_takeNumber_13 : decode cX5_takeNumber 13 = .ok (.ireturn, 1) := by decide +kernel
theorem dX5_takeNumber_14 : decode cX5_takeNumber 14 = .ok (.aload_n 0, 1) := by decide +kernel
theorem dX5_takeNumber_15 : decode cX5_takeNumber 15 = .ok (.invokevirtual 116, 3) := by decide +kernel
theorem dX5_takeNumber_18 : decode cX5_takeNumber 18 = .ok (.istore 5, 2) := by decide +kernel
theorem dX5_takeNumber_20 : decode cX5_takeNumber 20 = .ok (.iload 5, 2) := by decide +kernel
theorem dX5_takeNumber_22 : decode cX5_takeNumber 22 = .ok (.iload_n 3, 1) := by decide +kernel
theorem dX5_takeNumber_23 : decode cX5_takeNumber 23 = .ok (.iload 4, 2) := by decide +kernel
theorem dX5_takeNumber_25 : decode cX5_takeNumber 25 = .ok (.invokestatic 99, 3) := by decide +kernel
theorem dX5_takeNumber_28 : decode cX5_takeNumber 28 = .ok (.ifCond .ne 9, 3) := by decide +kernel
theorem dX5_takeNumber_31 : decode cX5_takeNumber 31 = .ok (.aload_n 0, 1) := by decide +kernel
theorem dX5_takeNumber_32 : decode cX5_takeNumber 32 = .ok (.iconst 2, 1) := by decide +kernel
theorem dX5_takeNumber_33 : decode cX5_takeNumber 33 = .ok (.invokevirtual 71, 3) := by decide +kernel
theorem dX5_takeNumber_36 : decode cX5_takeNumber 36 = .ok (.ireturn, 1) := by decide +kernel
theorem dX5_takeNumber_37 : decode cX5_takeNumber 37 = .ok (.aload_n 1, 1) := by decide +kernel
theorem dX5_takeNumber_38 : decode cX5_takeNumber 38 = .ok (.iload_n 2, 1) := by decide +kernel
theorem dX5_takeNumber_39 : decode cX5_takeNumber 39 = .ok (.iload 5, 2) := by decide +kernel
theorem dX5_takeNumber_41 : decode cX5_takeNumber 41 = .ok (.invokevirtual 119, 3) := by decide +kernel
theorem dX5_takeNumber_44 : decode cX5_takeNumber 44 = .ok (.aload_n 0, 1) := by decide +kernel
theorem dX5_takeNumber_45 : decode cX5_takeNumber 45 = .ok (.invokevirtual 54, 3) := by decide +kernel
theorem dX5_takeNumber_48 : decode cX5_takeNumber 48 = .ok (.iconst 1, 1) := by decide +kernel
theorem dX5_takeNumber_49 : decode cX5_takeNumber 49 = .ok (.ireturn, 1) := by decide +kernel
theorem dX5_takeSign_0 : decode cX5_takeSign 0 = .ok (.aload_n 0, 1) := by decide +kernel
theorem dX5_takeSign_1 : decode cX5_takeSign 1 = .ok (.iload_n 1, 1) := by decide +kernel
theorem dX5_takeSign_2 : decode cX5_takeSign 2 = .ok (.invokevirtual 60, 3) := by decide +kernel
theorem dX5_takeSign_5 : decode cX5_takeSign 5 = .ok (.ifCond .ne 9, 3) := by decide +kernel
theorem dX5_takeSign_8 : decode cX5_takeSign 8 = .ok (.aload_n 0, 1) := by decide +kernel
theorem dX5_takeSign_9 : decode cX5_takeSign 9 = .ok (.iconst 1, 1) := by decide +kernel
theorem dX5_takeSign_10 : decode cX5_takeSign 10 = .ok (.invokevirtual 71, 3) := by decide +kernel
theorem dX5_takeSign_13 : decode cX5_takeSign 13 = .ok (.ireturn, 1) := by decide +kernel
theorem dX5_takeSign_14 : decode cX5_takeSign 14 = .ok (.aload_n 0, 1) := by decide +kernel
theorem dX5_takeSign_15 : decode cX5_takeSign 15 = .ok (.invokevirtual 54, 3) := by decide +kernel
theorem dX5_takeSign_18 : decode cX5_takeSign 18 = .ok (.iconst 1, 1) := by decide +kernel
theorem dX5_takeSign_19 : decode cX5_takeSign 19 = .ok (.ireturn, 1) := by decide +kernel
theorem dX5_refuse_0 : decode cX5_refuse 0 = .ok (.aload_n 0, 1) := by decide +kernel
theorem dX5_refuse_1 : decode cX5_refuse 1 = .ok (.getfield 23, 3) := by decide +kernel
theorem dX5_refuse_4 : decode cX5_refuse 4 = .ok (.iload_n 1, 1) := by decide +kernel
theorem dX5_refuse_5 : decode cX5_refuse 5 = .ok (.aload_n 0, 1) := by decide +kernel
theorem dX5_refuse_6 : decode cX5_refuse 6 = .ok (.getfield 122, 3) := by decide +kernel
theorem dX5_refuse_9 : decode cX5_refuse 9 = .ok (.invokevirtual 38, 3) := by decide +kernel
theorem dX5_refuse_12 : decode cX5_refuse 12 = .ok (.iconst 0, 1) := by decide +kernel
theorem dX5_refuse_13 : decode cX5_refuse 13 = .ok (.ireturn, 1) := by decide +kernel
theorem dX5_stepKind_0 : decode cX5_stepKind 0 = .ok (.aload_n 0, 1) := by decide +kernel
theorem dX5_stepKind_1 : decode cX5_stepKind 1 = .ok (.ldc 125, 2) := by decide +kernel
theorem dX5_stepKind_3 : decode cX5_stepKind 3 = .ok (.invokevirtual 109, 3) := by decide +kernel
theorem dX5_stepKind_6 : decode cX5_stepKind 6 = .ok (.ifCond .eq 5, 3) := by decide +kernel
theorem dX5_stepKind_9 : decode cX5_stepKind 9 = .ok (.iconst 0, 1) := by decide +kernel
theorem dX5_stepKind_10 : decode cX5_stepKind 10 = .ok (.ireturn, 1) := by decide +kernel
theorem dX5_stepKind_11 : decode cX5_stepKind 11 = .ok (.aload_n 0, 1) := by decide +kernel
theorem dX5_stepKind_12 : decode cX5_stepKind 12 = .ok (.ldc 127, 2) := by decide +kernel
theorem dX5_stepKind_14 : decode cX5_stepKind 14 = .ok (.invokevirtual 109, 3) := by decide +kernel
theorem dX5_stepKind_17 : decode cX5_stepKind 17 = .ok (.ifCond .eq 5, 3) := by decide +kernel
theorem dX5_stepKind_20 : decode cX5_stepKind 20 = .ok (.iconst 1, 1) := by decide +kernel
theorem dX5_stepKind_21 : decode cX5_stepKind 21 = .ok (.ireturn, 1) := by decide +kernel
theorem dX5_stepKind_22 : decode cX5_stepKind 22 = .ok (.aload_n 0, 1) := by decide +kernel
theorem dX5_stepKind_23 : decode cX5_stepKind 23 = .ok (.ldc 129, 2) := by decide +kernel
theorem dX5_stepKind_25 : decode cX5_stepKind 25 = .ok (.invokevirtual 109, 3) := by decide +kernel
theorem dX5_stepKind_28 : decode cX5_stepKind 28 = .ok (.ifCond .eq 5, 3) := by decide +kernel
theorem dX5_stepKind_31 : decode cX5_stepKind 31 = .ok (.iconst 2, 1) := by decide +kernel
theorem dX5_stepKind_32 : decode cX5_stepKind 32 = .ok (.ireturn, 1) := by decide +kernel
theorem dX5_stepKind_33 : decode cX5_stepKind 33 = .ok (.aload_n 0, 1) := by decide +kernel
theorem dX5_stepKind_34 : decode cX5_stepKind 34 = .ok (.ldc 131, 2) := by decide +kernel
theorem dX5_stepKind_36 : decode cX5_stepKind 36 = .ok (.invokevirtual 109, 3) := by decide +kernel
theorem dX5_stepKind_39 : decode cX5_stepKind 39 = .ok (.ifCond .eq 5, 3) := by decide +kernel
theorem dX5_stepKind_42 : decode cX5_stepKind 42 = .ok (.iconst 3, 1) := by decide +kernel
theorem dX5_stepKind_43 : decode cX5_stepKind 43 = .ok (.ireturn, 1) := by decide +kernel
theorem dX5_stepKind_44 : decode cX5_stepKind 44 = .ok (.aload_n 0, 1) := by decide +kernel
theorem dX5_stepKind_45 : decode cX5_stepKind 45 = .ok (.ldc 133, 2) := by decide +kernel
theorem dX5_stepKind_47 : decode cX5_stepKind 47 = .ok (.invokevirtual 109, 3) := by decide +kernel
theorem dX5_stepKind_50 : decode cX5_stepKind 50 = .ok (.ifCond .eq 7, 3) := by decide +kernel
theorem dX5_stepKind_53 : decode cX5_stepKind 53 = .ok (.iconst 4, 1) := by decide +kernel
theorem dX5_stepKind_54 : decode cX5_stepKind 54 = .ok (.goto 4, 3) := by decide +kernel
theorem dX5_stepKind_57 : decode cX5_stepKind 57 = .ok (.iconst (-1), 1) := by decide +kernel
theorem dX5_stepKind_58 : decode cX5_stepKind 58 = .ok (.ireturn, 1) := by decide +kernel
theorem dX5_isWord_0 : decode cX5_isWord 0 = .ok (.aload_n 0, 1) := by decide +kernel
theorem dX5_isWord_1 : decode cX5_isWord 1 = .ok (.getfield 57, 3) := by decide +kernel
theorem dX5_isWord_4 : decode cX5_isWord 4 = .ok (.iconst 1, 1) := by decide +kernel
theorem dX5_isWord_5 : decode cX5_isWord 5 = .ok (.if_icmp .ne 19, 3) := by decide +kernel
theorem dX5_isWord_8 : decode cX5_isWord 8 = .ok (.aload_n 0, 1) := by decide +kernel
theorem dX5_isWord_9 : decode cX5_isWord 9 = .ok (.getfield 51, 3) := by decide +kernel
theorem dX5_isWord_12 : decode cX5_isWord 12 = .ok (.aload_n 0, 1) := by decide +kernel
theorem dX5_isWord_13 : decode cX5_isWord 13 = .ok (.getfield 122, 3) := by decide +kernel
theorem dX5_isWord_16 : decode cX5_isWord 16 = .ok (.isub, 1) := by decide +kernel
theorem dX5_isWord_17 : decode cX5_isWord 17 = .ok (.aload_n 1, 1) := by decide +kernel
theorem dX5_isWord_18 : decode cX5_isWord 18 = .ok (.invokevirtual 135, 3) := by decide +kernel
theorem dX5_isWord_21 : decode cX5_isWord 21 = .ok (.if_icmp .eq 5, 3) := by decide +kernel
theorem dX5_isWord_24 : decode cX5_isWord 24 = .ok (.iconst 0, 1) := by decide +kernel
theorem dX5_isWord_25 : decode cX5_isWord 25 = .ok (.ireturn, 1) := by decide +kernel
theorem dX5_isWord_26 : decode cX5_isWord 26 = .ok (.iconst 0, 1) := by decide +kernel
theorem dX5_isWord_27 : decode cX5_isWord 27 = .ok (.istore_n 2, 1) := by decide +kernel
theorem dX5_isWord_28 : decode cX5_isWord 28 = .ok (.iload_n 2, 1) := by decide +kernel
theorem dX5_isWord_29 : decode cX5_isWord 29 = .ok (.aload_n 1, 1) := by decide +kernel
theorem dX5_isWord_30 : decode cX5_isWord 30 = .ok (.invokevirtual 135, 3) := by decide +kernel
theorem dX5_isWord_33 : decode cX5_isWord 33 = .ok (.if_icmp .ge 32, 3) := by decide +kernel
theorem dX5_isWord_36 : decode cX5_isWord 36 = .ok (.aload_n 0, 1) := by decide +kernel
theorem dX5_isWord_37 : decode cX5_isWord 37 = .ok (.getfield 19, 3) := by decide +kernel
theorem dX5_isWord_40 : decode cX5_isWord 40 = .ok (.aload_n 0, 1) := by decide +kernel
theorem dX5_isWord_41 : decode cX5_isWord 41 = .ok (.getfield 122, 3) := by decide +kernel
theorem dX5_isWord_44 : decode cX5_isWord 44 = .ok (.iload_n 2, 1) := by decide +kernel
theorem dX5_isWord_45 : decode cX5_isWord 45 = .ok (.iadd, 1) := by decide +kernel
theorem dX5_isWord_46 : decode cX5_isWord 46 = .ok (.invokevirtual 140, 3) := by decide +kernel
theorem dX5_isWord_49 : decode cX5_isWord 49 = .ok (.aload_n 1, 1) := by decide +kernel
theorem dX5_isWord_50 : decode cX5_isWord 50 = .ok (.iload_n 2, 1) := by decide +kernel
theorem dX5_isWord_51 : decode cX5_isWord 51 = .ok (.invokevirtual 143, 3) := by decide +kernel
theorem dX5_isWord_54 : decode cX5_isWord 54 = .ok (.if_icmp .eq 5, 3) := by decide +kernel
theorem dX5_isWord_57 : decode cX5_isWord 57 = .ok (.iconst 0, 1) := by decide +kernel
theorem dX5_isWord_58 : decode cX5_isWord 58 = .ok (.ireturn, 1) := by decide +kernel
theorem dX5_isWord_59 : decode cX5_isWord 59 = .ok (.iinc 2 1, 3) := by decide +kernel
theorem dX5_isWord_62 : decode cX5_isWord 62 = .ok (.goto (-34), 3) := by decide +kernel
theorem dX5_isWord_65 : decode cX5_isWord 65 = .ok (.iconst 1, 1) := by decide +kernel
theorem dX5_isWord_66 : decode cX5_isWord 66 = .ok (.ireturn, 1) := by decide +kernel
theorem dX5_isSign_0 : decode cX5_isSign 0 = .ok (.aload_n 0, 1) := by decide +kernel
theorem dX5_isSign_1 : decode cX5_isSign 1 = .ok (.getfield 57, 3) := by decide +kernel
theorem dX5_isSign_4 : decode cX5_isSign 4 = .ok (.iconst 3, 1) := by decide +kernel
theorem dX5_isSign_5 : decode cX5_isSign 5 = .ok (.if_icmp .ne 22, 3) := by decide +kernel
theorem dX5_isSign_8 : decode cX5_isSign 8 = .ok (.aload_n 0, 1) := by decide +kernel
theorem dX5_isSign_9 : decode cX5_isSign 9 = .ok (.getfield 19, 3) := by decide +kernel
theorem dX5_isSign_12 : decode cX5_isSign 12 = .ok (.aload_n 0, 1) := by decide +kernel
theorem dX5_isSign_13 : decode cX5_isSign 13 = .ok (.getfield 122, 3) := by decide +kernel
theorem dX5_isSign_16 : decode cX5_isSign 16 = .ok (.invokevirtual 140, 3) := by decide +kernel
theorem dX5_isSign_19 : decode cX5_isSign 19 = .ok (.iload_n 1, 1) := by decide +kernel
theorem dX5_isSign_20 : decode cX5_isSign 20 = .ok (.if_icmp .ne 7, 3) := by decide +kernel
theorem dX5_isSign_23 : decode cX5_isSign 23 = .ok (.iconst 1, 1) := by decide +kernel
theorem dX5_isSign_24 : decode cX5_isSign 24 = .ok (.goto 4, 3) := by decide +kernel
theorem dX5_isSign_27 : decode cX5_isSign 27 = .ok (.iconst 0, 1) := by decide +kernel
theorem dX5_isSign_28 : decode cX5_isSign 28 = .ok (.ireturn, 1) := by decide +kernel
theorem dX5_tokenNumber_0 : decode cX5_tokenNumber 0 = .ok (.iconst 0, 1) := by decide +kernel
theorem dX5_tokenNumber_1 : decode cX5_tokenNumber 1 = .ok (.istore_n 1, 1) := by decide +kernel
theorem dX5_tokenNumber_2 : decode cX5_tokenNumber 2 = .ok (.aload_n 0, 1) := by decide +kernel
theorem dX5_tokenNumber_3 : decode cX5_tokenNumber 3 = .ok (.getfield 122, 3) := by decide +kernel
theorem dX5_tokenNumber_6 : decode cX5_tokenNumber 6 = .ok (.istore_n 2, 1) := by decide +kernel
theorem dX5_tokenNumber_7 : decode cX5_tokenNumber 7 = .ok (.iload_n 2, 1) := by decide +kernel
theorem dX5_tokenNumber_8 : decode cX5_tokenNumber 8 = .ok (.aload_n 0, 1) := by decide +kernel
theorem dX5_tokenNumber_9 : decode cX5_tokenNumber 9 = .ok (.getfield 51, 3) := by decide +kernel
theorem dX5_tokenNumber_12 : decode cX5_tokenNumber 12 = .ok (.if_icmp .ge 32, 3) := by decide +kernel
theorem dX5_tokenNumber_15 : decode cX5_tokenNumber 15 = .ok (.sipush 1000, 3) := by decide +kernel
theorem dX5_tokenNumber_18 : decode cX5_tokenNumber 18 = .ok (.iload_n 1, 1) := by decide +kernel
theorem dX5_tokenNumber_19 : decode cX5_tokenNumber 19 = .ok (.bipush 10, 2) := by decide +kernel
theorem dX5_tokenNumber_21 : decode cX5_tokenNumber 21 = .ok (.imul, 1) := by decide +kernel
theorem dX5_tokenNumber_22 : decode cX5_tokenNumber 22 = .ok (.aload_n 0, 1) := by decide +kernel
theorem dX5_tokenNumber_23 : decode cX5_tokenNumber 23 = .ok (.getfield 19, 3) := by decide +kernel
theorem dX5_tokenNumber_26 : decode cX5_tokenNumber 26 = .ok (.iload_n 2, 1) := by decide +kernel
theorem dX5_tokenNumber_27 : decode cX5_tokenNumber 27 = .ok (.invokevirtual 140, 3) := by decide +kernel
theorem dX5_tokenNumber_30 : decode cX5_tokenNumber 30 = .ok (.iadd, 1) := by decide +kernel
theorem dX5_tokenNumber_31 : decode cX5_tokenNumber 31 = .ok (.bipush 48, 2) := by decide +kernel
theorem dX5_tokenNumber_33 : decode cX5_tokenNumber 33 = .ok (.isub, 1) := by decide +kernel
theorem dX5_tokenNumber_34 : decode cX5_tokenNumber 34 = .ok (.invokestatic 147, 3) := by decide +kernel
theorem dX5_tokenNumber_37 : decode cX5_tokenNumber 37 = .ok (.istore_n 1, 1) := by decide +kernel
theorem dX5_tokenNumber_38 : decode cX5_tokenNumber 38 = .ok (.iinc 2 1, 3) := by decide +kernel
theorem dX5_tokenNumber_41 : decode cX5_tokenNumber 41 = .ok (.goto (-34), 3) := by decide +kernel
theorem dX5_tokenNumber_44 : decode cX5_tokenNumber 44 = .ok (.iload_n 1, 1) := by decide +kernel
theorem dX5_tokenNumber_45 : decode cX5_tokenNumber 45 = .ok (.ireturn, 1) := by decide +kernel
theorem dX5_nextToken_0 : decode cX5_nextToken 0 = .ok (.aload_n 0, 1) := by decide +kernel
theorem dX5_nextToken_1 : decode cX5_nextToken 1 = .ok (.aload_n 0, 1) := by decide +kernel
theorem dX5_nextToken_2 : decode cX5_nextToken 2 = .ok (.aload_n 0, 1) := by decide +kernel
theorem dX5_nextToken_3 : decode cX5_nextToken 3 = .ok (.getfield 51, 3) := by decide +kernel
theorem dX5_nextToken_6 : decode cX5_nextToken 6 = .ok (.invokevirtual 153, 3) := by decide +kernel
theorem dX5_nextToken_9 : decode cX5_nextToken 9 = .ok (.putfield 122, 3) := by decide +kernel
theorem dX5_nextToken_12 : decode cX5_nextToken 12 = .ok (.aload_n 0, 1) := by decide +kernel
theorem dX5_nextToken_13 : decode cX5_nextToken 13 = .ok (.aload_n 0, 1) := by decide +kernel
theorem dX5_nextToken_14 : decode cX5_nextToken 14 = .ok (.getfield 19, 3) := by decide +kernel
theorem dX5_nextToken_17 : decode cX5_nextToken 17 = .ok (.aload_n 0, 1) := by decide +kernel
theorem dX5_nextToken_18 : decode cX5_nextToken 18 = .ok (.getfield 122, 3) := by decide +kernel
theorem dX5_nextToken_21 : decode cX5_nextToken 21 = .ok (.invokevirtual 140, 3) := by decide +kernel
theorem dX5_nextToken_24 : decode cX5_nextToken 24 = .ok (.invokestatic 156, 3) := by decide +kernel
theorem dX5_nextToken_27 : decode cX5_nextToken 27 = .ok (.putfield 57, 3) := by decide +kernel
theorem dX5_nextToken_30 : decode cX5_nextToken 30 = .ok (.aload_n 0, 1) := by decide +kernel
theorem dX5_nextToken_31 : decode cX5_nextToken 31 = .ok (.aload_n 0, 1) := by decide +kernel
theorem dX5_nextToken_32 : decode cX5_nextToken 32 = .ok (.getfield 122, 3) := by decide +kernel
theorem dX5_nextToken_35 : decode cX5_nextToken 35 = .ok (.iconst 1, 1) := by decide +kernel
theorem dX5_nextToken_36 : decode cX5_nextToken 36 = .ok (.iadd, 1) := by decide +kernel
theorem dX5_nextToken_37 : decode cX5_nextToken 37 = .ok (.aload_n 0, 1) := by decide +kernel
theorem dX5_nextToken_38 : decode cX5_nextToken 38 = .ok (.getfield 19, 3) := by decide +kernel
theorem dX5_nextToken_41 : decode cX5_nextToken 41 = .ok (.invokevirtual 32, 3) := by decide +kernel
theorem dX5_nextToken_44 : decode cX5_nextToken 44 = .ok (.invokestatic 147, 3) := by decide +kernel
theorem dX5_nextToken_47 : decode cX5_nextToken 47 = .ok (.putfield 51, 3) := by decide +kernel
theorem dX5_nextToken_50 : decode cX5_nextToken 50 = .ok (.aload_n 0, 1) := by decide +kernel
theorem dX5_nextToken_51 : decode cX5_nextToken 51 = .ok (.getfield 57, 3) := by decide +kernel
theorem dX5_nextToken_54 : decode cX5_nextToken 54 = .ok (.iconst 1, 1) := by decide +kernel
theorem dX5_nextToken_55 : decode cX5_nextToken 55 = .ok (.if_icmp .eq 11, 3) := by decide +kernel
theorem dX5_nextToken_58 : decode cX5_nextToken 58 = .ok (.aload_n 0, 1) := by decide +kernel
theorem dX5_nextToken_59 : decode cX5_nextToken 59 = .ok (.getfield 57, 3) := by decide +kernel
theorem dX5_nextToken_62 : decode cX5_nextToken 62 = .ok (.iconst 2, 1) := by decide +kernel
theorem dX5_nextToken_63 : decode cX5_nextToken 63 = .ok (.if_icmp .ne 19, 3) := by decide +kernel
theorem dX5_nextToken_66 : decode cX5_nextToken 66 = .ok (.aload_n 0, 1) := by decide +kernel
theorem dX5_nextToken_67 : decode cX5_nextToken 67 = .ok (.aload_n 0, 1) := by decide +kernel
theorem dX5_nextToken_68 : decode cX5_nextToken 68 = .ok (.aload_n 0, 1) := by decide +kernel
theorem dX5_nextToken_69 : decode cX5_nextToken 69 = .ok (.getfield 122, 3) := by decide +kernel
theorem dX5_nextToken_72 : decode cX5_nextToken 72 = .ok (.aload_n 0, 1) := by decide +kernel
theorem dX5_nextToken_73 : decode cX5_nextToken 73 = .ok (.getfield 57, 3) := by decide +kernel
theorem dX5_nextToken_76 : decode cX5_nextToken 76 = .ok (.invokevirtual 159, 3) := by decide +kernel
theorem dX5_nextToken_79 : decode cX5_nextToken 79 = .ok (.putfield 51, 3) := by decide +kernel
theorem dX5_nextToken_82 : decode cX5_nextToken 82 = .ok (.return_, 1) := by decide +kernel
theorem dX5_behindBlanks_0 : decode cX5_behindBlanks 0 = .ok (.iload_n 1, 1) := by decide +kernel
theorem dX5_behindBlanks_1 : decode cX5_behindBlanks 1 = .ok (.istore_n 2, 1) := by decide +kernel
theorem dX5_behindBlanks_2 : decode cX5_behindBlanks 2 = .ok (.iload_n 2, 1) := by decide +kernel
theorem dX5_behindBlanks_3 : decode cX5_behindBlanks 3 = .ok (.aload_n 0, 1) := by decide +kernel
theorem dX5_behindBlanks_4 : decode cX5_behindBlanks 4 = .ok (.getfield 19, 3) := by decide +kernel
theorem dX5_behindBlanks_7 : decode cX5_behindBlanks 7 = .ok (.invokevirtual 32, 3) := by decide +kernel
theorem dX5_behindBlanks_10 : decode cX5_behindBlanks 10 = .ok (.if_icmp .ge 37, 3) := by decide +kernel
theorem dX5_behindBlanks_13 : decode cX5_behindBlanks 13 = .ok (.aload_n 0, 1) := by decide +kernel
theorem dX5_behindBlanks_14 : decode cX5_behindBlanks 14 = .ok (.getfield 19, 3) := by decide +kernel
theorem dX5_behindBlanks_17 : decode cX5_behindBlanks 17 = .ok (.iload_n 2, 1) := by decide +kernel
theorem dX5_behindBlanks_18 : decode cX5_behindBlanks 18 = .ok (.invokevirtual 140, 3) := by decide +kernel
theorem dX5_behindBlanks_21 : decode cX5_behindBlanks 21 = .ok (.bipush 32, 2) := by decide +kernel
theorem dX5_behindBlanks_23 : decode cX5_behindBlanks 23 = .ok (.if_icmp .eq 18, 3) := by decide +kernel
theorem dX5_behindBlanks_26 : decode cX5_behindBlanks 26 = .ok (.aload_n 0, 1) := by decide +kernel
theorem dX5_behindBlanks_27 : decode cX5_behindBlanks 27 = .ok (.getfield 19, 3) := by decide +kernel
theorem dX5_behindBlanks_30 : decode cX5_behindBlanks 30 = .ok (.iload_n 2, 1) := by decide +kernel
theorem dX5_behindBlanks_31 : decode cX5_behindBlanks 31 = .ok (.invokevirtual 140, 3) := by decide +kernel
theorem dX5_behindBlanks_34 : decode cX5_behindBlanks 34 = .ok (.bipush 10, 2) := by decide +kernel
theorem dX5_behindBlanks_36 : decode cX5_behindBlanks 36 = .ok (.if_icmp .eq 5, 3) := by decide +kernel
theorem dX5_behindBlanks_39 : decode cX5_behindBlanks 39 = .ok (.iload_n 2, 1) := by decide +kernel
theorem dX5_behindBlanks_40 : decode cX5_behindBlanks 40 = .ok (.ireturn, 1) := by decide +kernel
theorem dX5_behindBlanks_41 : decode cX5_behindBlanks 41 = .ok (.iinc 2 1, 3) := by decide +kernel
theorem dX5_behindBlanks_44 : decode cX5_behindBlanks 44 = .ok (.goto (-42), 3) := by decide +kernel
theorem dX5_behindBlanks_47 : decode cX5_behindBlanks 47 = .ok (.aload_n 0, 1) := by decide +kernel
theorem dX5_behindBlanks_48 : decode cX5_behindBlanks 48 = .ok (.getfield 19, 3) := by decide +kernel
theorem dX5_behindBlanks_51 : decode cX5_behindBlanks 51 = .ok (.invokevirtual 32, 3) := by decide +kernel
theorem dX5_behindBlanks_54 : decode cX5_behindBlanks 54 = .ok (.ireturn, 1) := by decide +kernel
theorem dX5_behindSame_0 : decode cX5_behindSame 0 = .ok (.iload_n 1, 1) := by decide +kernel
theorem dX5_behindSame_1 : decode cX5_behindSame 1 = .ok (.istore_n 3, 1) := by decide +kernel
theorem dX5_behindSame_2 : decode cX5_behindSame 2 = .ok (.iload_n 3, 1) := by decide +kernel
theorem dX5_behindSame_3 : decode cX5_behindSame 3 = .ok (.aload_n 0, 1) := by decide +kernel
theorem dX5_behindSame_4 : decode cX5_behindSame 4 = .ok (.getfield 19, 3) := by decide +kernel
theorem dX5_behindSame_7 : decode cX5_behindSame 7 = .ok (.invokevirtual 32, 3) := by decide +kernel
theorem dX5_behindSame_10 : decode cX5_behindSame 10 = .ok (.if_icmp .ge 26, 3) := by decide +kernel
theorem dX5_behindSame_13 : decode cX5_behindSame 13 = .ok (.aload_n 0, 1) := by decide +kernel
theorem dX5_behindSame_14 : decode cX5_behindSame 14 = .ok (.getfield 19, 3) := by decide +kernel
theorem dX5_behindSame_17 : decode cX5_behindSame 17 = .ok (.iload_n 3, 1) := by decide +kernel
theorem dX5_behindSame_18 : decode cX5_behindSame 18 = .ok (.invokevirtual 140, 3) := by decide +kernel
theorem dX5_behindSame_21 : decode cX5_behindSame 21 = .ok (.invokestatic 156, 3) := by decide +kernel
theorem dX5_behindSame_24 : decode cX5_behindSame 24 = .ok (.iload_n 2, 1) := by decide +kernel
theorem dX5_behindSame_25 : decode cX5_behindSame 25 = .ok (.if_icmp .eq 5, 3) := by decide +kernel
theorem dX5_behindSame_28 : decode cX5_behindSame 28 = .ok (.iload_n 3, 1) := by decide +kernel
theorem dX5_behindSame_29 : decode cX5_behindSame 29 = .ok (.ireturn, 1) := by decide +kernel
theorem dX5_behindSame_30 : decode cX5_behindSame 30 = .ok (.iinc 3 1, 3) := by decide +kernel
theorem dX5_behindSame_33 : decode cX5_behindSame 33 = .ok (.goto (-31), 3) := by decide +kernel
theorem dX5_behindSame_36 : decode cX5_behindSame 36 = .ok (.aload_n 0, 1) := by decide +kernel
theorem dX5_behindSame_37 : decode cX5_behindSame 37 = .ok (.getfield 19, 3) := by decide +kernel
theorem dX5_behindSame_40 : decode cX5_behindSame 40 = .ok (.invokevirtual 32, 3) := by decide +kernel
theorem dX5_behindSame_43 : decode cX5_behindSame 43 = .ok (.ireturn, 1) := by decide +kernel
theorem dX5_kindOfByte_0 : decode cX5_kindOfByte 0 = .ok (.iload_n 0, 1) := by decide +kernel
theorem dX5_kindOfByte_1 : decode cX5_kindOfByte 1 = .ok (.iconst (-1), 1) := by decide +kernel
theorem dX5_kindOfByte_2 : decode cX5_kindOfByte 2 = .ok (.if_icmp .ne 5, 3) := by decide +kernel
theorem dX5_kindOfByte_5 : decode cX5_kindOfByte 5 = .ok (.iconst 0, 1) := by decide +kernel
theorem dX5_kindOfByte_6 : decode cX5_kindOfByte 6 = .ok (.ireturn, 1) := by decide +kernel
theorem dX5_kindOfByte_7 : decode cX5_kindOfByte 7 = .ok (.iload_n 0, 1) := by decide +kernel
theorem dX5_kindOfByte_8 : decode cX5_kindOfByte 8 = .ok (.bipush 97, 2) := by decide +kernel
theorem dX5_kindOfByte_10 : decode cX5_kindOfByte 10 = .ok (.if_icmp .lt 9, 3) := by decide +kernel
theorem dX5_kindOfByte_13 : decode cX5_kindOfByte 13 = .ok (.iload_n 0, 1) := by decide +kernel
theorem dX5_kindOfByte_14 : decode cX5_kindOfByte 14 = .ok (.bipush 122, 2) := by decide +kernel
theorem dX5_kindOfByte_16 : decode cX5_kindOfByte 16 = .ok (.if_icmp .le 15, 3) := by decide +kernel
theorem dX5_kindOfByte_19 : decode cX5_kindOfByte 19 = .ok (.iload_n 0, 1) := by decide +kernel
theorem dX5_kindOfByte_20 : decode cX5_kindOfByte 20 = .ok (.bipush 65, 2) := by decide +kernel
theorem dX5_kindOfByte_22 : decode cX5_kindOfByte 22 = .ok (.if_icmp .lt 11, 3) := by decide +kernel
theorem dX5_kindOfByte_25 : decode cX5_kindOfByte 25 = .ok (.iload_n 0, 1) := by decide +kernel
theorem dX5_kindOfByte_26 : decode cX5_kindOfByte 26 = .ok (.bipush 90, 2) := by decide +kernel
theorem dX5_kindOfByte_28 : decode cX5_kindOfByte 28 = .ok (.if_icmp .gt 5, 3) := by decide +kernel
theorem dX5_kindOfByte_31 : decode cX5_kindOfByte 31 = .ok (.iconst 1, 1) := by decide +kernel
theorem dX5_kindOfByte_32 : decode cX5_kindOfByte 32 = .ok (.ireturn, 1) := by decide +kernel
theorem dX5_kindOfByte_33 : decode cX5_kindOfByte 33 = .ok (.iload_n 0, 1) := by decide +kernel
theorem dX5_kindOfByte_34 : decode cX5_kindOfByte 34 = .ok (.bipush 48, 2) := by decide +kernel
theorem dX5_kindOfByte_36 : decode cX5_kindOfByte 36 = .ok (.if_icmp .lt 11, 3) := by decide +kernel
theorem dX5_kindOfByte_39 : decode cX5_kindOfByte 39 = .ok (.iload_n 0, 1) := by decide +kernel
theorem dX5_kindOfByte_40 : decode cX5_kindOfByte 40 = .ok (.bipush 57, 2) := by decide +kernel
theorem dX5_kindOfByte_42 : decode cX5_kindOfByte 42 = .ok (.if_icmp .gt 5, 3) := by decide +kernel
theorem dX5_kindOfByte_45 : decode cX5_kindOfByte 45 = .ok (.iconst 2, 1) := by decide +kernel
theorem dX5_kindOfByte_46 : decode cX5_kindOfByte 46 = .ok (.ireturn, 1) := by decide +kernel
theorem dX5_kindOfByte_47 : decode cX5_kindOfByte 47 = .ok (.iload_n 0, 1) := by decide +kernel
theorem dX5_kindOfByte_48 : decode cX5_kindOfByte 48 = .ok (.bipush 59, 2) := by decide +kernel
theorem dX5_kindOfByte_50 : decode cX5_kindOfByte 50 = .ok (.if_icmp .eq 15, 3) := by decide +kernel
theorem dX5_kindOfByte_53 : decode cX5_kindOfByte 53 = .ok (.iload_n 0, 1) := by decide +kernel
theorem dX5_kindOfByte_54 : decode cX5_kindOfByte 54 = .ok (.bipush 123, 2) := by decide +kernel
theorem dX5_kindOfByte_56 : decode cX5_kindOfByte 56 = .ok (.if_icmp .eq 9, 3) := by decide +kernel
theorem dX5_kindOfByte_59 : decode cX5_kindOfByte 59 = .ok (.iload_n 0, 1) := by decide +kernel
theorem dX5_kindOfByte_60 : decode cX5_kindOfByte 60 = .ok (.bipush 125, 2) := by decide +kernel
theorem dX5_kindOfByte_62 : decode cX5_kindOfByte 62 = .ok (.if_icmp .ne 7, 3) := by decide +kernel
theorem dX5_kindOfByte_65 : decode cX5_kindOfByte 65 = .ok (.iconst 3, 1) := by decide +kernel
theorem dX5_kindOfByte_66 : decode cX5_kindOfByte 66 = .ok (.goto 4, 3) := by decide +kernel
theorem dX5_kindOfByte_69 : decode cX5_kindOfByte 69 = .ok (.iconst 4, 1) := by decide +kernel
theorem dX5_kindOfByte_70 : decode cX5_kindOfByte 70 = .ok (.ireturn, 1) := by decide +kernel
theorem dX6_init_0 : decode cX6_init 0 = .ok (.aload_n 0, 1) := by decide +kernel
theorem dX6_init_1 : decode cX6_init 1 = .ok (.invokespecial 3, 3) := by decide +kernel
theorem dX6_init_4 : decode cX6_init 4 = .ok (.aload_n 0, 1) := by decide +kernel
theorem dX6_init_5 : decode cX6_init 5 = .ok (.sipush 400, 3) := by decide +kernel
theorem dX6_init_8 : decode cX6_init 8 = .ok (.newarray .int, 2) := by decide +kernel
theorem dX6_init_10 : decode cX6_init 10 = .ok (.putfield 9, 3) := by decide +kernel
theorem dX6_init_13 : decode cX6_init 13 = .ok (.return_, 1) := by decide +kernel
theorem dX6_size_0 : decode cX6_size 0 = .ok (.aload_n 0, 1) := by decide +kernel
theorem dX6_size_1 : decode cX6_size 1 = .ok (.getfield 15, 3) := by decide +kernel
theorem dX6_size_4 : decode cX6_size 4 = .ok (.ireturn, 1) := by decide +kernel
theorem dX6_at_0 : decode cX6_at 0 = .ok (.iload_n 1, 1) := by decide +kernel
theorem dX6_at_1 : decode cX6_at 1 = .ok (.ifCond .lt 27, 3) := by decide +kernel
theorem dX6_at_4 : decode cX6_at 4 = .ok (.iload_n 1, 1) := by decide +kernel
theorem dX6_at_5 : decode cX6_at 5 = .ok (.aload_n 0, 1) := by decide +kernel
theorem dX6_at_6 : decode cX6_at 6 = .ok (.getfield 15, 3) := by decide +kernel
theorem dX6_at_9 : decode cX6_at 9 = .ok (.if_icmp .ge 19, 3) := by decide +kernel
theorem dX6_at_12 : decode cX6_at 12 = .ok (.iload_n 1, 1) := by decide +kernel
theorem dX6_at_13 : decode cX6_at 13 = .ok (.sipush 400, 3) := by decide +kernel
theorem dX6_at_16 : decode cX6_at 16 = .ok (.if_icmp .ge 12, 3) := by decide +kernel
theorem dX6_at_19 : decode cX6_at 19 = .ok (.aload_n 0, 1) := by decide +kernel
theorem dX6_at_20 : decode cX6_at 20 = .ok (.getfield 9, 3) := by decide +kernel
theorem dX6_at_23 : decode cX6_at 23 = .ok (.iload_n 1, 1) := by decide +kernel
theorem dX6_at_24 : decode cX6_at 24 = .ok (.iaload, 1) := by decide +kernel
theorem dX6_at_25 : decode cX6_at 25 = .ok (.goto 4, 3) := by decide +kernel
theorem dX6_at_28 : decode cX6_at 28 = .ok (.iconst (-1), 1) := by decide +kernel
theorem dX6_at_29 : decode cX6_at 29 = .ok (.ireturn, 1) := by decide +kernel
theorem dX6_cutTo_0 : decode cX6_cutTo 0 = .ok (.iload_n 1, 1) := by decide +kernel
theorem dX6_cutTo_1 : decode cX6_cutTo 1 = .ok (.ifCond .lt 11, 3) := by decide +kernel
theorem dX6_cutTo_4 : decode cX6_cutTo 4 = .ok (.iload_n 1, 1) := by decide +kernel
theorem dX6_cutTo_5 : decode cX6_cutTo 5 = .ok (.aload_n 0, 1) := by decide +kernel
theorem dX6_cutTo_6 : decode cX6_cutTo 6 = .ok (.getfield 15, 3) := by decide +kernel
theorem dX6_cutTo_9 : decode cX6_cutTo 9 = .ok (.if_icmp .le 5, 3) := by decide +kernel
theorem dX6_cutTo_12 : decode cX6_cutTo 12 = .ok (.iconst 0, 1) := by decide +kernel
theorem dX6_cutTo_13 : decode cX6_cutTo 13 = .ok (.ireturn, 1) := by decide +kernel
theorem dX6_cutTo_14 : decode cX6_cutTo 14 = .ok (.aload_n 0, 1) := by decide +kernel
theorem dX6_cutTo_15 : decode cX6_cutTo 15 = .ok (.iload_n 1, 1) := by decide +kernel
theorem dX6_cutTo_16 : decode cX6_cutTo 16 = .ok (.putfield 15, 3) := by decide +kernel
theorem dX6_cutTo_19 : decode cX6_cutTo 19 = .ok (.iconst 1, 1) := by decide +kernel
theorem dX6_cutTo_20 : decode cX6_cutTo 20 = .ok (.ireturn, 1) := by decide +kernel
theorem dX6_add_0 : decode cX6_add 0 = .ok (.aload_n 0, 1) := by decide +kernel
theorem dX6_add_1 : decode cX6_add 1 = .ok (.getfield 15, 3) := by decide +kernel
theorem dX6_add_4 : decode cX6_add 4 = .ok (.ifCond .lt 37, 3) := by decide +kernel
theorem dX6_add_7 : decode cX6_add 7 = .ok (.aload_n 0, 1) := by decide +kernel
theorem dX6_add_8 : decode cX6_add 8 = .ok (.getfield 15, 3) := by decide +kernel
theorem dX6_add_11 : decode cX6_add 11 = .ok (.sipush 400, 3) := by decide +kernel
theorem dX6_add_14 : decode cX6_add 14 = .ok (.if_icmp .ge 27, 3) := by decide +kernel
theorem dX6_add_17 : decode cX6_add 17 = .ok (.aload_n 0, 1) := by decide +kernel
theorem dX6_add_18 : decode cX6_add 18 = .ok (.getfield 9, 3) := by decide +kernel
theorem dX6_add_21 : decode cX6_add 21 = .ok (.aload_n 0, 1) := by decide +kernel
theorem dX6_add_22 : decode cX6_add 22 = .ok (.getfield 15, 3) := by decide +kernel
theorem dX6_add_25 : decode cX6_add 25 = .ok (.iload_n 1, 1) := by decide +kernel
theorem dX6_add_26 : decode cX6_add 26 = .ok (.sipush 255, 3) := by decide +kernel
theorem dX6_add_29 : decode cX6_add 29 = .ok (.iand, 1) := by decide +kernel
theorem dX6_add_30 : decode cX6_add 30 = .ok (.iastore, 1) := by decide +kernel
theorem dX6_add_31 : decode cX6_add 31 = .ok (.aload_n 0, 1) := by decide +kernel
theorem dX6_add_32 : decode cX6_add 32 = .ok (.dup, 1) := by decide +kernel
theorem dX6_add_33 : decode cX6_add 33 = .ok (.getfield 15, 3) := by decide +kernel
theorem dX6_add_36 : decode cX6_add 36 = .ok (.iconst 1, 1) := by decide +kernel
theorem dX6_add_37 : decode cX6_add 37 = .ok (.iadd, 1) := by decide +kernel
theorem dX6_add_38 : decode cX6_add 38 = .ok (.putfield 15, 3) := by decide +kernel
theorem dX6_add_41 : decode cX6_add 41 = .ok (.return_, 1) := by decide +kernel
theorem dX6_addFour_0 : decode cX6_addFour 0 = .ok (.aload_n 0, 1) := by decide +kernel
theorem dX6_addFour_1 : decode cX6_addFour 1 = .ok (.iload_n 1, 1) := by decide +kernel
theorem dX6_addFour_2 : decode cX6_addFour 2 = .ok (.bipush 24, 2) := by decide +kernel
theorem dX6_addFour_4 : decode cX6_addFour 4 = .ok (.iushr, 1) := by decide +kernel
theorem dX6_addFour_5 : decode cX6_addFour 5 = .ok (.invokevirtual 19, 3) := by decide +kernel
theorem dX6_addFour_8 : decode cX6_addFour 8 = .ok (.aload_n 0, 1) := by decide +kernel
theorem dX6_addFour_9 : decode cX6_addFour 9 = .ok (.iload_n 1, 1) := by decide +kernel
theorem dX6_addFour_10 : decode cX6_addFour 10 = .ok (.bipush 16, 2) := by decide +kernel
theorem dX6_addFour_12 : decode cX6_addFour 12 = .ok (.iushr, 1) := by decide +kernel
theorem dX6_addFour_13 : decode cX6_addFour 13 = .ok (.invokevirtual 19, 3) := by decide +kernel
theorem dX6_addFour_16 : decode cX6_addFour 16 = .ok (.aload_n 0, 1) := by decide +kernel
theorem dX6_addFour_17 : decode cX6_addFour 17 = .ok (.iload_n 1, 1) := by decide +kernel
theorem dX6_addFour_18 : decode cX6_addFour 18 = .ok (.bipush 8, 2) := by decide +kernel
theorem dX6_addFour_20 : decode cX6_addFour 20 = .ok (.iushr, 1) := by decide +kernel
theorem dX6_addFour_21 : decode cX6_addFour 21 = .ok (.invokevirtual 19, 3) := by decide +kernel
theorem dX6_addFour_24 : decode cX6_addFour 24 = .ok (.aload_n 0, 1) := by decide +kernel
theorem dX6_addFour_25 : decode cX6_addFour 25 = .ok (.iload_n 1, 1) := by decide +kernel
theorem dX6_addFour_26 : decode cX6_addFour 26 = .ok (.invokevirtual 19, 3) := by decide +kernel
theorem dX6_addFour_29 : decode cX6_addFour 29 = .ok (.return_, 1) := by decide +kernel
theorem dX6_addDigit_0 : decode cX6_addDigit 0 = .ok (.aload_n 0, 1) := by decide +kernel
theorem dX6_addDigit_1 : decode cX6_addDigit 1 = .ok (.iload_n 1, 1) := by decide +kernel
theorem dX6_addDigit_2 : decode cX6_addDigit 2 = .ok (.bipush 10, 2) := by decide +kernel
theorem dX6_addDigit_4 : decode cX6_addDigit 4 = .ok (.if_icmp .ge 10, 3) := by decide +kernel
theorem dX6_addDigit_7 : decode cX6_addDigit 7 = .ok (.bipush 48, 2) := by decide +kernel
theorem dX6_addDigit_9 : decode cX6_addDigit 9 = .ok (.iload_n 1, 1) := by decide +kernel
theorem dX6_addDigit_10 : decode cX6_addDigit 10 = .ok (.iadd, 1) := by decide +kernel
theorem dX6_addDigit_11 : decode cX6_addDigit 11 = .ok (.goto 10, 3) := by decide +kernel
theorem dX6_addDigit_14 : decode cX6_addDigit 14 = .ok (.bipush 65, 2) := by decide +kernel
theorem dX6_addDigit_16 : decode cX6_addDigit 16 = .ok (.iload_n 1, 1) := by decide +kernel
theorem dX6_addDigit_17 : decode cX6_addDigit 17 = .ok (.iadd, 1) := by decide +kernel
theorem dX6_addDigit_18 : decode cX6_addDigit 18 = .ok (.bipush 10, 2) := by decide +kernel
theorem dX6_addDigit_20 : decode cX6_addDigit 20 = .ok (.isub, 1) := by decide +kernel
theorem dX6_addDigit_21 : decode cX6_addDigit 21 = .ok (.invokevirtual 19, 3) := by decide +kernel
theorem dX6_addDigit_24 : decode cX6_addDigit 24 = .ok (.return_, 1) := by decide +kernel
theorem dX6_digitAt_0 : decode cX6_digitAt 0 = .ok (.aload_n 0, 1) := by decide +kernel
theorem dX6_digitAt_1 : decode cX6_digitAt 1 = .ok (.iload_n 1, 1) := by decide +kernel
theorem dX6_digitAt_2 : decode cX6_digitAt 2 = .ok (.invokevirtual 23, 3) := by decide +kernel
theorem dX6_digitAt_5 : decode cX6_digitAt 5 = .ok (.istore_n 2, 1) := by decide +kernel
theorem dX6_digitAt_6 : decode cX6_digitAt 6 = .ok (.iload_n 2, 1) := by decide +kernel
theorem dX6_digitAt_7 : decode cX6_digitAt 7 = .ok (.bipush 48, 2) := by decide +kernel
theorem dX6_digitAt_9 : decode cX6_digitAt 9 = .ok (.if_icmp .lt 14, 3) := by decide +kernel
theorem dX6_digitAt_12 : decode cX6_digitAt 12 = .ok (.iload_n 2, 1) := by decide +kernel
theorem dX6_digitAt_13 : decode cX6_digitAt 13 = .ok (.bipush 57, 2) := by decide +kernel
theorem dX6_digitAt_15 : decode cX6_digitAt 15 = .ok (.if_icmp .gt 8, 3) := by decide +kernel
theorem dX6_digitAt_18 : decode cX6_digitAt 18 = .ok (.iload_n 2, 1) := by decide +kernel
theorem dX6_digitAt_19 : decode cX6_digitAt 19 = .ok (.bipush 48, 2) := by decide +kernel
theorem dX6_digitAt_21 : decode cX6_digitAt 21 = .ok (.isub, 1) := by decide +kernel
theorem dX6_digitAt_22 : decode cX6_digitAt 22 = .ok (.ireturn, 1) := by decide +kernel
theorem dX6_digitAt_23 : decode cX6_digitAt 23 = .ok (.iload_n 2, 1) := by decide +kernel
theorem dX6_digitAt_24 : decode cX6_digitAt 24 = .ok (.bipush 65, 2) := by decide +kernel
theorem dX6_digitAt_26 : decode cX6_digitAt 26 = .ok (.if_icmp .lt 19, 3) := by decide +kernel
theorem dX6_digitAt_29 : decode cX6_digitAt 29 = .ok (.iload_n 2, 1) := by decide +kernel
theorem dX6_digitAt_30 : decode cX6_digitAt 30 = .ok (.bipush 70, 2) := by decide +kernel
theorem dX6_digitAt_32 : decode cX6_digitAt 32 = .ok (.if_icmp .gt 13, 3) := by decide +kernel
theorem dX6_digitAt_35 : decode cX6_digitAt 35 = .ok (.iload_n 2, 1) := by decide +kernel
theorem dX6_digitAt_36 : decode cX6_digitAt 36 = .ok (.bipush 65, 2) := by decide +kernel
theorem dX6_digitAt_38 : decode cX6_digitAt 38 = .ok (.isub, 1) := by decide +kernel
theorem dX6_digitAt_39 : decode cX6_digitAt 39 = .ok (.bipush 10, 2) := by decide +kernel
theorem dX6_digitAt_41 : decode cX6_digitAt 41 = .ok (.iadd, 1) := by decide +kernel
theorem dX6_digitAt_42 : decode cX6_digitAt 42 = .ok (.goto 4, 3) := by decide +kernel
theorem dX6_digitAt_45 : decode cX6_digitAt 45 = .ok (.iconst (-1), 1) := by decide +kernel
theorem dX6_digitAt_46 : decode cX6_digitAt 46 = .ok (.ireturn, 1) := by decide +kernel
theorem dX6_pairAt_0 : decode cX6_pairAt 0 = .ok (.aload_n 0, 1) := by decide +kernel
theorem dX6_pairAt_1 : decode cX6_pairAt 1 = .ok (.iload_n 1, 1) := by decide +kernel
theorem dX6_pairAt_2 : decode cX6_pairAt 2 = .ok (.invokevirtual 27, 3) := by decide +kernel
theorem dX6_pairAt_5 : decode cX6_pairAt 5 = .ok (.bipush 16, 2) := by decide +kernel
theorem dX6_pairAt_7 : decode cX6_pairAt 7 = .ok (.imul, 1) := by decide +kernel
theorem dX6_pairAt_8 : decode cX6_pairAt 8 = .ok (.aload_n 0, 1) := by decide +kernel
theorem dX6_pairAt_9 : decode cX6_pairAt 9 = .ok (.iload_n 1, 1) := by decide +kernel
theorem dX6_pairAt_10 : decode cX6_pairAt 10 = .ok (.iconst 1, 1) := by decide +kernel
theorem dX6_pairAt_11 : decode cX6_pairAt 11 = .ok (.iadd, 1) := by decide +kernel
theorem dX6_pairAt_12 : decode cX6_pairAt 12 = .ok (.invokevirtual 27, 3) := by decide +kernel
theorem dX6_pairAt_15 : decode cX6_pairAt 15 = .ok (.iadd, 1) := by decide +kernel
theorem dX6_pairAt_16 : decode cX6_pairAt 16 = .ok (.ireturn, 1) := by decide +kernel
theorem dX7_init_0 : decode cX7_init 0 = .ok (.aload_n 0, 1) := by decide +kernel
theorem dX7_init_1 : decode cX7_init 1 = .ok (.invokespecial 3, 3) := by decide +kernel
theorem dX7_init_4 : decode cX7_init 4 = .ok (.aload_n 0, 1) := by decide +kernel
theorem dX7_init_5 : decode cX7_init 5 = .ok (.aload_n 1, 1) := by decide +kernel
theorem dX7_init_6 : decode cX7_init 6 = .ok (.putfield 9, 3) := by decide +kernel
theorem dX7_init_9 : decode cX7_init 9 = .ok (.aload_n 0, 1) := by decide +kernel
theorem dX7_init_10 : decode cX7_init 10 = .ok (.aload_n 2, 1) := by decide +kernel
theorem dX7_init_11 : decode cX7_init 11 = .ok (.putfield 15, 3) := by decide +kernel
theorem dX7_init_14 : decode cX7_init 14 = .ok (.aload_n 0, 1) := by decide +kernel
theorem dX7_init_15 : decode cX7_init 15 = .ok (.iload_n 3, 1) := by decide +kernel
theorem dX7_init_16 : decode cX7_init 16 = .ok (.putfield 19, 3) := by decide +kernel
theorem dX7_init_19 : decode cX7_init 19 = .ok (.return_, 1) := by decide +kernel
theorem dX7_workAt_0 : decode cX7_workAt 0 = .ok (.aload_n 0, 1) := by decide +kernel
theorem dX7_workAt_1 : decode cX7_workAt 1 = .ok (.iload_n 1, 1) := by decide +kernel
theorem dX7_workAt_2 : decode cX7_workAt 2 = .ok (.putfield 23, 3) := by decide +kernel
theorem dX7_workAt_5 : decode cX7_workAt 5 = .ok (.aload_n 0, 1) := by decide +kernel
theorem dX7_workAt_6 : decode cX7_workAt 6 = .ok (.iload_n 2, 1) := by decide +kernel
theorem dX7_workAt_7 : decode cX7_workAt 7 = .ok (.putfield 26, 3) := by decide +kernel
theorem dX7_workAt_10 : decode cX7_workAt 10 = .ok (.aload_n 0, 1) := by decide +kernel
theorem dX7_workAt_11 : decode cX7_workAt 11 = .ok (.iconst 0, 1) := by decide +kernel
theorem dX7_workAt_12 : decode cX7_workAt 12 = .ok (.putfield 29, 3) := by decide +kernel
theorem dX7_workAt_15 : decode cX7_workAt 15 = .ok (.aload_n 0, 1) := by decide +kernel
theorem dX7_workAt_16 : decode cX7_workAt 16 = .ok (.iconst 0, 1) := by decide +kernel
theorem dX7_workAt_17 : decode cX7_workAt 17 = .ok (.putfield 32, 3) := by decide +kernel
theorem dX7_workAt_20 : decode cX7_workAt 20 = .ok (.aload_n 0, 1) := by decide +kernel
theorem dX7_workAt_21 : decode cX7_workAt 21 = .ok (.iconst 0, 1) := by decide +kernel
theorem dX7_workAt_22 : decode cX7_workAt 22 = .ok (.aload_n 0, 1) := by decide +kernel
theorem dX7_workAt_23 : decode cX7_workAt 23 = .ok (.getfield 15, 3) := by decide +kernel
theorem dX7_workAt_26 : decode cX7_workAt 26 = .ok (.getfield 36, 3) := by decide +kernel
theorem dX7_workAt_29 : decode cX7_workAt 29 = .ok (.iconst 0, 1) := by decide +kernel
theorem dX7_workAt_30 : decode cX7_workAt 30 = .ok (.invokevirtual 41, 3) := by decide +kernel
theorem dX7_workAt_33 : decode cX7_workAt 33 = .ok (.return_, 1) := by decide +kernel
theorem dX7_workSteps_0 : decode cX7_workSteps 0 = .ok (.iload_n 3, 1) := by decide +kernel
theorem dX7_workSteps_1 : decode cX7_workSteps 1 = .ok (.iconst 5, 1) := by decide +kernel
theorem dX7_workSteps_2 : decode cX7_workSteps 2 = .ok (.if_icmp .le 4, 3) := by decide +kernel
theorem dX7_workSteps_5 : decode cX7_workSteps 5 = .ok (.return_, 1) := by decide +kernel
theorem dX7_workSteps_6 : decode cX7_workSteps 6 = .ok (.iload_n 1, 1) := by decide +kernel
theorem dX7_workSteps_7 : decode cX7_workSteps 7 = .ok (.istore 4, 2) := by decide +kernel
theorem dX7_workSteps_9 : decode cX7_workSteps 9 = .ok (.iload 4, 2) := by decide +kernel
theorem dX7_workSteps_11 : decode cX7_workSteps 11 = .ok (.iload_n 2, 1) := by decide +kernel
theorem dX7_workSteps_12 : decode cX7_workSteps 12 = .ok (.if_icmp .ge 38, 3) := by decide +kernel
theorem dX7_workSteps_15 : decode cX7_workSteps 15 = .ok (.aload_n 0, 1) := by decide +kernel
theorem dX7_workSteps_16 : decode cX7_workSteps 16 = .ok (.getfield 19, 3) := by decide +kernel
theorem dX7_workSteps_19 : decode cX7_workSteps 19 = .ok (.ifCond .le 31, 3) := by decide +kernel
theorem dX7_workSteps_22 : decode cX7_workSteps 22 = .ok (.aload_n 0, 1) := by decide +kernel
theorem dX7_workSteps_23 : decode cX7_workSteps 23 = .ok (.iload 4, 2) := by decide +kernel
theorem dX7_workSteps_25 : decode cX7_workSteps 25 = .ok (.iload_n 3, 1) := by decide +kernel
theorem dX7_workSteps_26 : decode cX7_workSteps 26 = .ok (.invokevirtual 45, 3) := by decide +kernel
theorem dX7_workSteps_29 : decode cX7_workSteps 29 = .ok (.iload 4, 2) := by decide +kernel
theorem dX7_workSteps_31 : decode cX7_workSteps 31 = .ok (.iconst 1, 1) := by decide +kernel
theorem dX7_workSteps_32 : decode cX7_workSteps 32 = .ok (.iadd, 1) := by decide +kernel
theorem dX7_workSteps_33 : decode cX7_workSteps 33 = .ok (.aload_n 0, 1) := by decide +kernel
theorem dX7_workSteps_34 : decode cX7_workSteps 34 = .ok (.getfield 15, 3) := by decide +kernel
theorem dX7_workSteps_37 : decode cX7_workSteps 37 = .ok (.iload 4, 2) := by decide +kernel
theorem dX7_workSteps_39 : decode cX7_workSteps 39 = .ok (.invokevirtual 49, 3) := by decide +kernel
theorem dX7_workSteps_42 : decode cX7_workSteps 42 = .ok (.invokestatic 53, 3) := by decide +kernel
theorem dX7_workSteps_45 : decode cX7_workSteps 45 = .ok (.istore 4, 2) := by decide +kernel
theorem dX7_workSteps_47 : decode cX7_workSteps 47 = .ok (.goto (-38), 3) := by decide +kernel
theorem dX7_workSteps_50 : decode cX7_workSteps 50 = .ok (.return_, 1) := by decide +kernel
theorem dX7_workStep_0 : decode cX7_workStep 0 = .ok (.aload_n 0, 1) := by decide +kernel
theorem dX7_workStep_1 : decode cX7_workStep 1 = .ok (.getfield 15, 3) := by decide +kernel
theorem dX7_workStep_4 : decode cX7_workStep 4 = .ok (.iload_n 1, 1) := by decide +kernel
theorem dX7_workStep_5 : decode cX7_workStep 5 = .ok (.invokevirtual 59, 3) := by decide +kernel
theorem dX7_workStep_8 : decode cX7_workStep 8 = .ok (.tableswitch 139 0 3 #[32, 47, 62, 84], 32) := by decide +kernel
theorem dX7_workStep_40 : decode cX7_workStep 40 = .ok (.aload_n 0, 1) := by decide +kernel
theorem dX7_workStep_41 : decode cX7_workStep 41 = .ok (.aload_n 0, 1) := by decide +kernel
theorem dX7_workStep_42 : decode cX7_workStep 42 = .ok (.getfield 15, 3) := by decide +kernel
theorem dX7_workStep_45 : decode cX7_workStep 45 = .ok (.iload_n 1, 1) := by decide +kernel
theorem dX7_workStep_46 : decode cX7_workStep 46 = .ok (.invokevirtual 62, 3) := by decide +kernel
theorem dX7_workStep_49 : decode cX7_workStep 49 = .ok (.putfield 29, 3) := by decide +kernel
theorem dX7_workStep_52 : decode cX7_workStep 52 = .ok (.goto 101, 3) := by decide +kernel
theorem dX7_workStep_55 : decode cX7_workStep 55 = .ok (.aload_n 0, 1) := by decide +kernel
theorem dX7_workStep_56 : decode cX7_workStep 56 = .ok (.aload_n 0, 1) := by decide +kernel
theorem dX7_workStep_57 : decode cX7_workStep 57 = .ok (.getfield 15, 3) := by decide +kernel
theorem dX7_workStep_60 : decode cX7_workStep 60 = .ok (.iload_n 1, 1) := by decide +kernel
theorem dX7_workStep_61 : decode cX7_workStep 61 = .ok (.invokevirtual 62, 3) := by decide +kernel
theorem dX7_workStep_64 : decode cX7_workStep 64 = .ok (.invokevirtual 65, 3) := by decide +kernel
theorem dX7_workStep_67 : decode cX7_workStep 67 = .ok (.goto 86, 3) := by decide +kernel
theorem dX7_workStep_70 : decode cX7_workStep 70 = .ok (.aload_n 0, 1) := by decide +kernel
theorem dX7_workStep_71 : decode cX7_workStep 71 = .ok (.aload_n 0, 1) := by decide +kernel
theorem dX7_workStep_72 : decode cX7_workStep 72 = .ok (.getfield 9, 3) := by decide +kernel
theorem dX7_workStep_75 : decode cX7_workStep 75 = .ok (.aload_n 0, 1) := by decide +kernel
theorem dX7_workStep_76 : decode cX7_workStep 76 = .ok (.getfield 23, 3) := by decide +kernel
theorem dX7_workStep_79 : decode cX7_workStep 79 = .ok (.aload_n 0, 1) := by decide +kernel
theorem dX7_workStep_80 : decode cX7_workStep 80 = .ok (.getfield 26, 3) := by decide +kernel
theorem dX7_workStep_83 : decode cX7_workStep 83 = .ok (.invokevirtual 69, 3) := by decide +kernel
theorem dX7_workStep_86 : decode cX7_workStep 86 = .ok (.putfield 32, 3) := by decide +kernel
theorem dX7_workStep_89 : decode cX7_workStep 89 = .ok (.goto 64, 3) := by decide +kernel
theorem dX7_workStep_92 : decode cX7_workStep 92 = .ok (.iconst 0, 1) := by decide +kernel
theorem dX7_workStep_93 : decode cX7_workStep 93 = .ok (.istore_n 3, 1) := by decide +kernel
theorem dX7_workStep_94 : decode cX7_workStep 94 = .ok (.iload_n 3, 1) := by decide +kernel
theorem dX7_workStep_95 : decode cX7_workStep 95 = .ok (.aload_n 0, 1) := by decide +kernel
theorem dX7_workStep_96 : decode cX7_workStep 96 = .ok (.getfield 15, 3) := by decide +kernel
theorem dX7_workStep_99 : decode cX7_workStep 99 = .ok (.iload_n 1, 1) := by decide +kernel
theorem dX7_workStep_100 : decode cX7_workStep 100 = .ok (.invokevirtual 62, 3) := by decide +kernel
theorem dX7_workStep_103 : decode cX7_workStep 103 = .ok (.if_icmp .ge 41, 3) := by decide +kernel
theorem dX7_workStep_106 : decode cX7_workStep 106 = .ok (.aload_n 0, 1) := by decide +kernel
theorem dX7_workStep_107 : decode cX7_workStep 107 = .ok (.getfield 32, 3) := by decide +kernel
theorem dX7_workStep_110 : decode cX7_workStep 110 = .ok (.ifCond .ne 34, 3) := by decide +kernel
theorem dX7_workStep_113 : decode cX7_workStep 113 = .ok (.aload_n 0, 1) := by decide +kernel
theorem dX7_workStep_114 : decode cX7_workStep 114 = .ok (.getfield 19, 3) := by decide +kernel
theorem dX7_workStep_117 : decode cX7_workStep 117 = .ok (.ifCond .le 27, 3) := by decide +kernel
theorem dX7_workStep_120 : decode cX7_workStep 120 = .ok (.aload_n 0, 1) := by decide +kernel
theorem dX7_workStep_121 : decode cX7_workStep 121 = .ok (.iload_n 1, 1) := by decide +kernel
theorem dX7_workStep_122 : decode cX7_workStep 122 = .ok (.iconst 1, 1) := by decide +kernel
theorem dX7_workStep_123 : decode cX7_workStep 123 = .ok (.iadd, 1) := by decide +kernel
theorem dX7_workStep_124 : decode cX7_workStep 124 = .ok (.aload_n 0, 1) := by decide +kernel
theorem dX7_workStep_125 : decode cX7_workStep 125 = .ok (.getfield 15, 3) := by decide +kernel
theorem dX7_workStep_128 : decode cX7_workStep 128 = .ok (.iload_n 1, 1) := by decide +kernel
theorem dX7_workStep_129 : decode cX7_workStep 129 = .ok (.invokevirtual 49, 3) := by decide +kernel
theorem dX7_workStep_132 : decode cX7_workStep 132 = .ok (.iload_n 2, 1) := by decide +kernel
theorem dX7_workStep_133 : decode cX7_workStep 133 = .ok (.iconst 1, 1) := by decide +kernel
theorem dX7_workStep_134 : decode cX7_workStep 134 = .ok (.iadd, 1) := by decide +kernel
theorem dX7_workStep_135 : decode cX7_workStep 135 = .ok (.invokevirtual 41, 3) := by decide +kernel
theorem dX7_workStep_138 : decode cX7_workStep 138 = .ok (.iinc 3 1, 3) := by decide +kernel
theorem dX7_workStep_141 : decode cX7_workStep 141 = .ok (.goto (-47), 3) := by decide +kernel
theorem dX7_workStep_144 : decode cX7_workStep 144 = .ok (.goto 9, 3) := by decide +kernel
theorem dX7_workStep_147 : decode cX7_workStep 147 = .ok (.aload_n 0, 1) := by decide +kernel
theorem dX7_workStep_148 : decode cX7_workStep 148 = .ok (.iload_n 1, 1) := by decide +kernel
theorem dX7_workStep_149 : decode cX7_workStep 149 = .ok (.iload_n 2, 1) := by decide +kernel
theorem dX7_workStep_150 : decode cX7_workStep 150 = .ok (.invokevirtual 75, 3) := by decide +kernel
theorem dX7_workStep_153 : decode cX7_workStep 153 = .ok (.return_, 1) := by decide +kernel
theorem dX7_workBranch_0 : decode cX7_workBranch 0 = .ok (.aload_n 0, 1) := by decide +kernel
theorem dX7_workBranch_1 : decode cX7_workBranch 1 = .ok (.getfield 32, 3) := by decide +kernel
theorem dX7_workBranch_4 : decode cX7_workBranch 4 = .ok (.ifCond .eq 24, 3) := by decide +kernel
theorem dX7_workBranch_7 : decode cX7_workBranch 7 = .ok (.aload_n 0, 1) := by decide +kernel
theorem dX7_workBranch_8 : decode cX7_workBranch 8 = .ok (.iload_n 1, 1) := by decide +kernel
theorem dX7_workBranch_9 : decode cX7_workBranch 9 = .ok (.iconst 1, 1) := by decide +kernel
theorem dX7_workBranch_10 : decode cX7_workBranch 10 = .ok (.iadd, 1) := by decide +kernel
theorem dX7_workBranch_11 : decode cX7_workBranch 11 = .ok (.aload_n 0, 1) := by decide +kernel
theorem dX7_workBranch_12 : decode cX7_workBranch 12 = .ok (.getfield 15, 3) := by decide +kernel
theorem dX7_workBranch_15 : decode cX7_workBranch 15 = .ok (.iload_n 1, 1) := by decide +kernel
theorem dX7_workBranch_16 : decode cX7_workBranch 16 = .ok (.invokevirtual 78, 3) := by decide +kernel
theorem dX7_workBranch_19 : decode cX7_workBranch 19 = .ok (.iload_n 2, 1) := by decide +kernel
theorem dX7_workBranch_20 : decode cX7_workBranch 20 = .ok (.iconst 1, 1) := by decide +kernel
theorem dX7_workBranch_21 : decode cX7_workBranch 21 = .ok (.iadd, 1) := by decide +kernel
theorem dX7_workBranch_22 : decode cX7_workBranch 22 = .ok (.invokevirtual 41, 3) := by decide +kernel
theorem dX7_workBranch_25 : decode cX7_workBranch 25 = .ok (.goto 26, 3) := by decide +kernel
theorem dX7_workBranch_28 : decode cX7_workBranch 28 = .ok (.aload_n 0, 1) := by decide +kernel
theorem dX7_workBranch_29 : decode cX7_workBranch 29 = .ok (.aload_n 0, 1) := by decide +kernel
theorem dX7_workBranch_30 : decode cX7_workBranch 30 = .ok (.getfield 15, 3) := by decide +kernel
theorem dX7_workBranch_33 : decode cX7_workBranch 33 = .ok (.iload_n 1, 1) := by decide +kernel
theorem dX7_workBranch_34 : decode cX7_workBranch 34 = .ok (.invokevirtual 78, 3) := by decide +kernel
theorem dX7_workBranch_37 : decode cX7_workBranch 37 = .ok (.aload_n 0, 1) := by decide +kernel
theorem dX7_workBranch_38 : decode cX7_workBranch 38 = .ok (.getfield 15, 3) := by decide +kernel
theorem dX7_workBranch_41 : decode cX7_workBranch 41 = .ok (.iload_n 1, 1) := by decide +kernel
theorem dX7_workBranch_42 : decode cX7_workBranch 42 = .ok (.invokevirtual 49, 3) := by decide +kernel
theorem dX7_workBranch_45 : decode cX7_workBranch 45 = .ok (.iload_n 2, 1) := by decide +kernel
theorem dX7_workBranch_46 : decode cX7_workBranch 46 = .ok (.iconst 1, 1) := by decide +kernel
theorem dX7_workBranch_47 : decode cX7_workBranch 47 = .ok (.iadd, 1) := by decide +kernel
theorem dX7_workBranch_48 : decode cX7_workBranch 48 = .ok (.invokevirtual 41, 3) := by decide +kernel
theorem dX7_workBranch_51 : decode cX7_workBranch 51 = .ok (.return_, 1) := by decide +kernel
theorem dX7_givePulses_0 : decode cX7_givePulses 0 = .ok (.iconst 0, 1) := by decide +kernel
theorem dX7_givePulses_1 : decode cX7_givePulses 1 = .ok (.istore_n 2, 1) := by decide +kernel
theorem dX7_givePulses_2 : decode cX7_givePulses 2 = .ok (.iload_n 2, 1) := by decide +kernel
theorem dX7_givePulses_3 : decode cX7_givePulses 3 = .ok (.iload_n 1, 1) := by decide +kernel
theorem dX7_givePulses_4 : decode cX7_givePulses 4 = .ok (.if_icmp .ge 45, 3) := by decide +kernel
theorem dX7_givePulses_7 : decode cX7_givePulses 7 = .ok (.aload_n 0, 1) := by decide +kernel
theorem dX7_givePulses_8 : decode cX7_givePulses 8 = .ok (.getfield 19, 3) := by decide +kernel
theorem dX7_givePulses_11 : decode cX7_givePulses 11 = .ok (.ifCond .le 38, 3) := by decide +kernel
theorem dX7_givePulses_14 : decode cX7_givePulses 14 = .ok (.aload_n 0, 1) := by decide +kernel
theorem dX7_givePulses_15 : decode cX7_givePulses 15 = .ok (.getfield 9, 3) := by decide +kernel
theorem dX7_givePulses_18 : decode cX7_givePulses 18 = .ok (.aload_n 0, 1) := by decide +kernel
theorem dX7_givePulses_19 : decode cX7_givePulses 19 = .ok (.getfield 23, 3) := by decide +kernel
theorem dX7_givePulses_22 : decode cX7_givePulses 22 = .ok (.aload_n 0, 1) := by decide +kernel
theorem dX7_givePulses_23 : decode cX7_givePulses 23 = .ok (.getfield 26, 3) := by decide +kernel
theorem dX7_givePulses_26 : decode cX7_givePulses 26 = .ok (.aload_n 0, 1) := by decide +kernel
theorem dX7_givePulses_27 : decode cX7_givePulses 27 = .ok (.getfield 29, 3) := by decide +kernel
theorem dX7_givePulses_30 : decode cX7_givePulses 30 = .ok (.invokevirtual 81, 3) := by decide +kernel
theorem dX7_givePulses_33 : decode cX7_givePulses 33 = .ok (.aload_n 0, 1) := by decide +kernel
theorem dX7_givePulses_34 : decode cX7_givePulses 34 = .ok (.dup, 1) := by decide +kernel
theorem dX7_givePulses_35 : decode cX7_givePulses 35 = .ok (.getfield 19, 3) := by decide +kernel
theorem dX7_givePulses_38 : decode cX7_givePulses 38 = .ok (.iconst 1, 1) := by decide +kernel
theorem dX7_givePulses_39 : decode cX7_givePulses 39 = .ok (.isub, 1) := by decide +kernel
theorem dX7_givePulses_40 : decode cX7_givePulses 40 = .ok (.putfield 19, 3) := by decide +kernel
theorem dX7_givePulses_43 : decode cX7_givePulses 43 = .ok (.iinc 2 1, 3) := by decide +kernel
theorem dX7_givePulses_46 : decode cX7_givePulses 46 = .ok (.goto (-44), 3) := by decide +kernel
theorem dX7_givePulses_49 : decode cX7_givePulses 49 = .ok (.return_, 1) := by decide +kernel
theorem dX8_init_0 : decode cX8_init 0 = .ok (.aload_n 0, 1) := by decide +kernel
theorem dX8_init_1 : decode cX8_init 1 = .ok (.invokespecial 1, 3) := by decide +kernel
theorem dX8_init_4 : decode cX8_init 4 = .ok (.aload_n 0, 1) := by decide +kernel
theorem dX8_init_5 : decode cX8_init 5 = .ok (.new 7, 3) := by decide +kernel
theorem dX8_init_8 : decode cX8_init 8 = .ok (.dup, 1) := by decide +kernel
theorem dX8_init_9 : decode cX8_init 9 = .ok (.invokespecial 9, 3) := by decide +kernel
theorem dX8_init_12 : decode cX8_init 12 = .ok (.putfield 10, 3) := by decide +kernel
theorem dX8_init_15 : decode cX8_init 15 = .ok (.aload_n 0, 1) := by decide +kernel
theorem dX8_init_16 : decode cX8_init 16 = .ok (.sipush 256, 3) := by decide +kernel
theorem dX8_init_19 : decode cX8_init 19 = .ok (.newarray .int, 2) := by decide +kernel
theorem dX8_init_21 : decode cX8_init 21 = .ok (.putfield 16, 3) := by decide +kernel
theorem dX8_init_24 : decode cX8_init 24 = .ok (.aload_n 0, 1) := by decide +kernel
theorem dX8_init_25 : decode cX8_init 25 = .ok (.new 20, 3) := by decide +kernel
theorem dX8_init_28 : decode cX8_init 28 = .ok (.dup, 1) := by decide +kernel
theorem dX8_init_29 : decode cX8_init 29 = .ok (.invokespecial 22, 3) := by decide +kernel
theorem dX8_init_32 : decode cX8_init 32 = .ok (.putfield 23, 3) := by decide +kernel
theorem dX8_init_35 : decode cX8_init 35 = .ok (.aload_n 0, 1) := by decide +kernel
theorem dX8_init_36 : decode cX8_init 36 = .ok (.new 27, 3) := by decide +kernel
theorem dX8_init_39 : decode cX8_init 39 = .ok (.dup, 1) := by decide +kernel
theorem dX8_init_40 : decode cX8_init 40 = .ok (.aload_n 0, 1) := by decide +kernel
theorem dX8_init_41 : decode cX8_init 41 = .ok (.getfield 10, 3) := by decide +kernel
theorem dX8_init_44 : decode cX8_init 44 = .ok (.aload_n 0, 1) := by decide +kernel
theorem dX8_init_45 : decode cX8_init 45 = .ok (.getfield 23, 3) := by decide +kernel
theorem dX8_init_48 : decode cX8_init 48 = .ok (.invokespecial 29, 3) := by decide +kernel
theorem dX8_init_51 : decode cX8_init 51 = .ok (.putfield 32, 3) := by decide +kernel
theorem dX8_init_54 : decode cX8_init 54 = .ok (.aload_n 0, 1) := by decide +kernel
theorem dX8_init_55 : decode cX8_init 55 = .ok (.new 36, 3) := by decide +kernel
theorem dX8_init_58 : decode cX8_init 58 = .ok (.dup, 1) := by decide +kernel
theorem dX8_init_59 : decode cX8_init 59 = .ok (.aload_n 0, 1) := by decide +kernel
theorem dX8_init_60 : decode cX8_init 60 = .ok (.getfield 10, 3) := by decide +kernel
theorem dX8_init_63 : decode cX8_init 63 = .ok (.invokespecial 38, 3) := by decide +kernel
theorem dX8_init_66 : decode cX8_init 66 = .ok (.putfield 41, 3) := by decide +kernel
theorem dX8_init_69 : decode cX8_init 69 = .ok (.aload_n 0, 1) := by decide +kernel
theorem dX8_init_70 : decode cX8_init 70 = .ok (.new 45, 3) := by decide +kernel
theorem dX8_init_73 : decode cX8_init 73 = .ok (.dup, 1) := by decide +kernel
theorem dX8_init_74 : decode cX8_init 74 = .ok (.aload_n 0, 1) := by decide +kernel
theorem dX8_init_75 : decode cX8_init 75 = .ok (.getfield 10, 3) := by decide +kernel
theorem dX8_init_78 : decode cX8_init 78 = .ok (.aload_n 0, 1) := by decide +kernel
theorem dX8_init_79 : decode cX8_init 79 = .ok (.getfield 23, 3) := by decide +kernel
theorem dX8_init_82 : decode cX8_init 82 = .ok (.invokespecial 47, 3) := by decide +kernel
theorem dX8_init_85 : decode cX8_init 85 = .ok (.putfield 48, 3) := by decide +kernel
theorem dX8_init_88 : decode cX8_init 88 = .ok (.aload_n 0, 1) := by decide +kernel
theorem dX8_init_89 : decode cX8_init 89 = .ok (.iconst 4, 1) := by decide +kernel
theorem dX8_init_90 : decode cX8_init 90 = .ok (.anewarray 52, 3) := by decide +kernel
theorem dX8_init_93 : decode cX8_init 93 = .ok (.putfield 54, 3) := by decide +kernel
theorem dX8_init_96 : decode cX8_init 96 = .ok (.aload_n 0, 1) := by decide +kernel
theorem dX8_init_97 : decode cX8_init 97 = .ok (.iconst 4, 1) := by decide +kernel
theorem dX8_init_98 : decode cX8_init 98 = .ok (.anewarray 58, 3) := by decide +kernel
theorem dX8_init_101 : decode cX8_init 101 = .ok (.putfield 60, 3) := by decide +kernel
theorem dX8_init_104 : decode cX8_init 104 = .ok (.aload_n 0, 1) := by decide +kernel
theorem dX8_init_105 : decode cX8_init 105 = .ok (.new 58, 3) := by decide +kernel
theorem dX8_init_108 : decode cX8_init 108 = .ok (.dup, 1) := by decide +kernel
theorem dX8_init_109 : decode cX8_init 109 = .ok (.invokespecial 64, 3) := by decide +kernel
theorem dX8_init_112 : decode cX8_init 112 = .ok (.putfield 65, 3) := by decide +kernel
theorem dX8_init_115 : decode cX8_init 115 = .ok (.aload_n 0, 1) := by decide +kernel
theorem dX8_init_116 : decode cX8_init 116 = .ok (.getfield 16, 3) := by decide +kernel
theorem dX8_init_119 : decode cX8_init 119 = .ok (.sipush 255, 3) := by decide +kernel
theorem dX8_init_122 : decode cX8_init 122 = .ok (.invokestatic 69, 3) := by decide +kernel
theorem dX8_init_125 : decode cX8_init 125 = .ok (.iconst 0, 1) := by decide +kernel
theorem dX8_init_126 : decode cX8_init 126 = .ok (.istore_n 1, 1) := by decide +kernel
theorem dX8_init_127 : decode cX8_init 127 = .ok (.iload_n 1, 1) := by decide +kernel
theorem dX8_init_128 : decode cX8_init 128 = .ok (.iconst 4, 1) := by decide +kernel
theorem dX8_init_129 : decode cX8_init 129 = .ok (.if_icmp .ge 22, 3) := by decide +kernel
theorem dX8_init_132 : decode cX8_init 132 = .ok (.aload_n 0, 1) := by decide +kernel
theorem dX8_init_133 : decode cX8_init 133 = .ok (.getfield 60, 3) := by decide +kernel
theorem dX8_init_136 : decode cX8_init 136 = .ok (.iload_n 1, 1) := by decide +kernel
theorem dX8_init_137 : decode cX8_init 137 = .ok (.new 58, 3) := by decide +kernel
theorem dX8_init_140 : decode cX8_init 140 = .ok (.dup, 1) := by decide +kernel
theorem dX8_init_141 : decode cX8_init 141 = .ok (.invokespecial 64, 3) := by decide +kernel
theorem dX8_init_144 : decode cX8_init 144 = .ok (.aastore, 1) := by decide +kernel
theorem dX8_init_145 : decode cX8_init 145 = .ok (.iinc 1 1, 3) := by decide +kernel
theorem dX8_init_148 : decode cX8_init 148 = .ok (.goto (-21), 3) := by decide +kernel
theorem dX8_init_151 : decode cX8_init 151 = .ok (.return_, 1) := by decide +kernel
theorem dX8_feed_0 : decode cX8_feed 0 = .ok (.aload_n 0, 1) := by decide +kernel
theorem dX8_feed_1 : decode cX8_feed 1 = .ok (.getfield 10, 3) := by decide +kernel
theorem dX8_feed_4 : decode cX8_feed 4 = .ok (.invokevirtual 75, 3) := by decide +kernel
theorem dX8_feed_7 : decode cX8_feed 7 = .ok (.bipush 20, 2) := by decide +kernel
theorem dX8_feed_9 : decode cX8_feed 9 = .ok (.iadd, 1) := by decide +kernel
theorem dX8_feed_10 : decode cX8_feed 10 = .ok (.sipush 400, 3) := by decide +kernel
theorem dX8_feed_13 : decode cX8_feed 13 = .ok (.if_icmp .le 5, 3) := by decide +kernel
theorem dX8_feed_16 : decode cX8_feed 16 = .ok (.iconst (-1), 1) := by decide +kernel
theorem dX8_feed_17 : decode cX8_feed 17 = .ok (.ireturn, 1) := by decide +kernel
theorem dX8_feed_18 : decode cX8_feed 18 = .ok (.aload_n 0, 1) := by decide +kernel
theorem dX8_feed_19 : decode cX8_feed 19 = .ok (.getfield 10, 3) := by decide +kernel
theorem dX8_feed_22 : decode cX8_feed 22 = .ok (.iload_n 1, 1) := by decide +kernel
theorem dX8_feed_23 : decode cX8_feed 23 = .ok (.invokevirtual 79, 3) := by decide +kernel
theorem dX8_feed_26 : decode cX8_feed 26 = .ok (.aload_n 0, 1) := by decide +kernel
theorem dX8_feed_27 : decode cX8_feed 27 = .ok (.getfield 10, 3) := by decide +kernel
theorem dX8_feed_30 : decode cX8_feed 30 = .ok (.iload_n 2, 1) := by decide +kernel
theorem dX8_feed_31 : decode cX8_feed 31 = .ok (.invokevirtual 79, 3) := by decide +kernel
theorem dX8_feed_34 : decode cX8_feed 34 = .ok (.aload_n 0, 1) := by decide +kernel
theorem dX8_feed_35 : decode cX8_feed 35 = .ok (.getfield 10, 3) := by decide +kernel
theorem dX8_feed_38 : decode cX8_feed 38 = .ok (.iload_n 3, 1) := by decide +kernel
theorem dX8_feed_39 : decode cX8_feed 39 = .ok (.invokevirtual 79, 3) := by decide +kernel
theorem dX8_feed_42 : decode cX8_feed 42 = .ok (.aload_n 0, 1) := by decide +kernel
theorem dX8_feed_43 : decode cX8_feed 43 = .ok (.getfield 10, 3) := by decide +kernel
theorem dX8_feed_46 : decode cX8_feed 46 = .ok (.iload 4, 2) := by decide +kernel
theorem dX8_feed_48 : decode cX8_feed 48 = .ok (.invokevirtual 79, 3) := by decide +kernel
theorem dX8_feed_51 : decode cX8_feed 51 = .ok (.aload_n 0, 1) := by decide +kernel
theorem dX8_feed_52 : decode cX8_feed 52 = .ok (.getfield 10, 3) := by decide +kernel
theorem dX8_feed_55 : decode cX8_feed 55 = .ok (.iload 5, 2) := by decide +kernel
theorem dX8_feed_57 : decode cX8_feed 57 = .ok (.invokevirtual 79, 3) := by decide +kernel
theorem dX8_feed_60 : decode cX8_feed 60 = .ok (.aload_n 0, 1) := by decide +kernel
theorem dX8_feed_61 : decode cX8_feed 61 = .ok (.getfield 10, 3) := by decide +kernel
theorem dX8_feed_64 : decode cX8_feed 64 = .ok (.invokevirtual 75, 3) := by decide +kernel
theorem dX8_feed_67 : decode cX8_feed 67 = .ok (.ireturn, 1) := by decide +kernel
theorem dX8_end_0 : decode cX8_end 0 = .ok (.aload_n 0, 1) := by decide +kernel
theorem dX8_end_1 : decode cX8_end 1 = .ok (.getfield 10, 3) := by decide +kernel
theorem dX8_end_4 : decode cX8_end 4 = .ok (.iload_n 1, 1) := by decide +kernel
theorem dX8_end_5 : decode cX8_end 5 = .ok (.invokevirtual 83, 3) := by decide +kernel
theorem dX8_end_8 : decode cX8_end 8 = .ok (.ifCond .eq 7, 3) := by decide +kernel
theorem dX8_end_11 : decode cX8_end 11 = .ok (.iload_n 1, 1) := by decide +kernel
theorem dX8_end_12 : decode cX8_end 12 = .ok (.goto 4, 3) := by decide +kernel
theorem dX8_end_15 : decode cX8_end 15 = .ok (.iconst (-1), 1) := by decide +kernel
theorem dX8_end_16 : decode cX8_end 16 = .ok (.ireturn, 1) := by decide +kernel
theorem dX8_file_0 : decode cX8_file 0 = .ok (.iload_n 1, 1) := by decide +kernel
theorem dX8_file_1 : decode cX8_file 1 = .ok (.iconst 0, 1) := by decide +kernel
theorem dX8_file_2 : decode cX8_file 2 = .ok (.iconst 2, 1) := by decide +kernel
theorem dX8_file_3 : decode cX8_file 3 = .ok (.invokestatic 87, 3) := by decide +kernel
theorem dX8_file_6 : decode cX8_file 6 = .ok (.ifCond .ne 5, 3) := by decide +kernel
theorem dX8_file_9 : decode cX8_file 9 = .ok (.iconst (-1), 1) := by decide +kernel
theorem dX8_file_10 : decode cX8_file 10 = .ok (.ireturn, 1) := by decide +kernel
theorem dX8_file_11 : decode cX8_file 11 = .ok (.aload_n 0, 1) := by decide +kernel
theorem dX8_file_12 : decode cX8_file 12 = .ok (.getfield 32, 3) := by decide +kernel
theorem dX8_file_15 : decode cX8_file 15 = .ok (.aload_n 0, 1) := by decide +kernel
theorem dX8_file_16 : decode cX8_file 16 = .ok (.getfield 16, 3) := by decide +kernel
theorem dX8_file_19 : decode cX8_file 19 = .ok (.iload_n 1, 1) := by decide +kernel
theorem dX8_file_20 : decode cX8_file 20 = .ok (.invokevirtual 91, 3) := by decide +kernel
theorem dX8_file_23 : decode cX8_file 23 = .ok (.istore_n 2, 1) := by decide +kernel
theorem dX8_file_24 : decode cX8_file 24 = .ok (.aload_n 0, 1) := by decide +kernel
theorem dX8_file_25 : decode cX8_file 25 = .ok (.getfield 10, 3) := by decide +kernel
theorem dX8_file_28 : decode cX8_file 28 = .ok (.iconst 0, 1) := by decide +kernel
theorem dX8_file_29 : decode cX8_file 29 = .ok (.invokevirtual 83, 3) := by decide +kernel
theorem dX8_file_32 : decode cX8_file 32 = .ok (.pop, 1) := by decide +kernel
theorem dX8_file_33 : decode cX8_file 33 = .ok (.iload_n 2, 1) := by decide +kernel
theorem dX8_file_34 : decode cX8_file 34 = .ok (.iconst (-1), 1) := by decide +kernel
theorem dX8_file_35 : decode cX8_file 35 = .ok (.if_icmp .eq 22, 3) := by decide +kernel
theorem dX8_file_38 : decode cX8_file 38 = .ok (.aload_n 0, 1) := by decide +kernel
theorem dX8_file_39 : decode cX8_file 39 = .ok (.ldc2_w 95, 3) := by decide +kernel
theorem dX8_file_42 : decode cX8_file 42 = .ok (.aload_n 0, 1) := by decide +kernel
theorem dX8_file_43 : decode cX8_file 43 = .ok (.getfield 97, 3) := by decide +kernel
theorem dX8_file_46 : decode cX8_file 46 = .ok (.i2l, 1) := by decide +kernel
theorem dX8_file_47 : decode cX8_file 47 = .ok (.iload_n 2, 1) := by decide +kernel
theorem dX8_file_48 : decode cX8_file 48 = .ok (.i2l, 1) := by decide +kernel
theorem dX8_file_49 : decode cX8_file 49 = .ok (.ladd, 1) := by decide +kernel
theorem dX8_file_50 : decode cX8_file 50 = .ok (.invokestatic 101, 3) := by decide +kernel
theorem dX8_file_53 : decode cX8_file 53 = .ok (.l2i, 1) := by decide +kernel
theorem dX8_file_54 : decode cX8_file 54 = .ok (.putfield 97, 3) := by decide +kernel
theorem dX8_file_57 : decode cX8_file 57 = .ok (.iload_n 2, 1) := by decide +kernel
theorem dX8_file_58 : decode cX8_file 58 = .ok (.ireturn, 1) := by decide +kernel
theorem dX8_fault_0 : decode cX8_fault 0 = .ok (.iload_n 1, 1) := by decide +kernel
theorem dX8_fault_1 : decode cX8_fault 1 = .ok (.ifCond .ne 11, 3) := by decide +kernel
theorem dX8_fault_4 : decode cX8_fault 4 = .ok (.aload_n 0, 1) := by decide +kernel
theorem dX8_fault_5 : decode cX8_fault 5 = .ok (.getfield 23, 3) := by decide +kernel
theorem dX8_fault_8 : decode cX8_fault 8 = .ok (.getfield 107, 3) := by decide +kernel
theorem dX8_fault_11 : decode cX8_fault 11 = .ok (.ireturn, 1) := by decide +kernel
theorem dX8_fault_12 : decode cX8_fault 12 = .ok (.iload_n 1, 1) := by decide +kernel
theorem dX8_fault_13 : decode cX8_fault 13 = .ok (.iconst 1, 1) := by decide +kernel
theorem dX8_fault_14 : decode cX8_fault 14 = .ok (.if_icmp .ne 13, 3) := by decide +kernel
theorem dX8_fault_17 : decode cX8_fault 17 = .ok (.aload_n 0, 1) := by decide +kernel
theorem dX8_fault_18 : decode cX8_fault 18 = .ok (.getfield 23, 3) := by decide +kernel
theorem dX8_fault_21 : decode cX8_fault 21 = .ok (.getfield 110, 3) := by decide +kernel
theorem dX8_fault_24 : decode cX8_fault 24 = .ok (.goto 4, 3) := by decide +kernel
theorem dX8_fault_27 : decode cX8_fault 27 = .ok (.iconst (-1), 1) := by decide +kernel
theorem dX8_fault_28 : decode cX8_fault 28 = .ok (.ireturn, 1) := by decide +kernel
theorem dX8_write_0 : decode cX8_write 0 = .ok (.iload_n 1, 1) := by decide +kernel
theorem dX8_write_1 : decode cX8_write 1 = .ok (.iconst 1, 1) := by decide +kernel
theorem dX8_write_2 : decode cX8_write 2 = .ok (.iconst 2, 1) := by decide +kernel
theorem dX8_write_3 : decode cX8_write 3 = .ok (.invokestatic 87, 3) := by decide +kernel
theorem dX8_write_6 : decode cX8_write 6 = .ok (.ifCond .eq 23, 3) := by decide +kernel
theorem dX8_write_9 : decode cX8_write 9 = .ok (.iload_n 2, 1) := by decide +kernel
theorem dX8_write_10 : decode cX8_write 10 = .ok (.iconst 0, 1) := by decide +kernel
theorem dX8_write_11 : decode cX8_write 11 = .ok (.iload_n 3, 1) := by decide +kernel
theorem dX8_write_12 : decode cX8_write 12 = .ok (.invokestatic 87, 3) := by decide +kernel
theorem dX8_write_15 : decode cX8_write 15 = .ok (.ifCond .eq 14, 3) := by decide +kernel
theorem dX8_write_18 : decode cX8_write 18 = .ok (.iload_n 3, 1) := by decide +kernel
theorem dX8_write_19 : decode cX8_write 19 = .ok (.iload_n 2, 1) := by decide +kernel
theorem dX8_write_20 : decode cX8_write 20 = .ok (.sipush 255, 3) := by decide +kernel
theorem dX8_write_23 : decode cX8_write 23 = .ok (.invokestatic 87, 3) := by decide +kernel
theorem dX8_write_26 : decode cX8_write 26 = .ok (.ifCond .ne 5, 3) := by decide +kernel
theorem dX8_write_29 : decode cX8_write 29 = .ok (.iconst (-1), 1) := by decide +kernel
theorem dX8_write_30 : decode cX8_write 30 = .ok (.ireturn, 1) := by decide +kernel
theorem dX8_write_31 : decode cX8_write 31 = .ok (.aload_n 0, 1) := by decide +kernel
theorem dX8_write_32 : decode cX8_write 32 = .ok (.getfield 41, 3) := by decide +kernel
theorem dX8_write_35 : decode cX8_write 35 = .ok (.iload_n 1, 1) := by decide +kernel
theorem dX8_write_36 : decode cX8_write 36 = .ok (.iload_n 3, 1) := by decide +kernel
theorem dX8_write_37 : decode cX8_write 37 = .ok (.iload_n 2, 1) := by decide +kernel
theorem dX8_write_38 : decode cX8_write 38 = .ok (.isub, 1) := by decide +kernel
theorem dX8_write_39 : decode cX8_write 39 = .ok (.iconst 1, 1) := by decide +kernel
theorem dX8_write_40 : decode cX8_write 40 = .ok (.iadd, 1) := by decide +kernel
theorem dX8_write_41 : decode cX8_write 41 = .ok (.invokevirtual 113, 3) := by decide +kernel
theorem dX8_write_44 : decode cX8_write 44 = .ok (.sipush 400, 3) := by decide +kernel
theorem dX8_write_47 : decode cX8_write 47 = .ok (.if_icmp .le 5, 3) := by decide +kernel
theorem dX8_write_50 : decode cX8_write 50 = .ok (.iconst (-1), 1) := by decide +kernel
theorem dX8_write_51 : decode cX8_write 51 = .ok (.ireturn, 1) := by decide +kernel
theorem dX8_write_52 : decode cX8_write 52 = .ok (.aload_n 0, 1) := by decide +kernel
theorem dX8_write_53 : decode cX8_write 53 = .ok (.getfield 41, 3) := by decide +kernel
theorem dX8_write_56 : decode cX8_write 56 = .ok (.aload_n 0, 1) := by decide +kernel
theorem dX8_write_57 : decode cX8_write 57 = .ok (.getfield 16, 3) := by decide +kernel
theorem dX8_write_60 : decode cX8_write 60 = .ok (.iload_n 1, 1) := by decide +kernel
theorem dX8_write_61 : decode cX8_write 61 = .ok (.iload_n 2, 1) := by decide +kernel
theorem dX8_write_62 : decode cX8_write 62 = .ok (.iload_n 3, 1) := by decide +kernel
theorem dX8_write_63 : decode cX8_write 63 = .ok (.invokevirtual 117, 3) := by decide +kernel
theorem dX8_write_66 : decode cX8_write 66 = .ok (.aload_n 0, 1) := by decide +kernel
theorem dX8_write_67 : decode cX8_write 67 = .ok (.getfield 10, 3) := by decide +kernel
theorem dX8_write_70 : decode cX8_write 70 = .ok (.invokevirtual 75, 3) := by decide +kernel
theorem dX8_write_73 : decode cX8_write 73 = .ok (.ireturn, 1) := by decide +kernel
theorem dX8_tape_0 : decode cX8_tape 0 = .ok (.aload_n 0, 1) := by decide +kernel
theorem dX8_tape_1 : decode cX8_tape 1 = .ok (.getfield 10, 3) := by decide +kernel
theorem dX8_tape_4 : decode cX8_tape 4 = .ok (.iload_n 1, 1) := by decide +kernel
theorem dX8_tape_5 : decode cX8_tape 5 = .ok (.invokevirtual 121, 3) := by decide +kernel
theorem dX8_tape_8 : decode cX8_tape 8 = .ok (.ireturn, 1) := by decide +kernel
theorem dX8_image_0 : decode cX8_image 0 = .ok (.iload_n 1, 1) := by decide +kernel
theorem dX8_image_1 : decode cX8_image 1 = .ok (.iconst 0, 1) := by decide +kernel
theorem dX8_image_2 : decode cX8_image 2 = .ok (.sipush 255, 3) := by decide +kernel
theorem dX8_image_5 : decode cX8_image 5 = .ok (.invokestatic 87, 3) := by decide +kernel
theorem dX8_image_8 : decode cX8_image 8 = .ok (.ifCond .eq 12, 3) := by decide +kernel
theorem dX8_image_11 : decode cX8_image 11 = .ok (.aload_n 0, 1) := by decide +kernel
theorem dX8_image_12 : decode cX8_image 12 = .ok (.getfield 16, 3) := by decide +kernel
theorem dX8_image_15 : decode cX8_image 15 = .ok (.iload_n 1, 1) := by decide +kernel
theorem dX8_image_16 : decode cX8_image 16 = .ok (.iaload, 1) := by decide +kernel
theorem dX8_image_17 : decode cX8_image 17 = .ok (.goto 4, 3) := by decide +kernel
theorem dX8_image_20 : decode cX8_image 20 = .ok (.iconst (-1), 1) := by decide +kernel
theorem dX8_image_21 : decode cX8_image 21 = .ok (.ireturn, 1) := by decide +kernel
theorem dX8_fill_0 : decode cX8_fill 0 = .ok (.iload_n 1, 1) := by decide +kernel
theorem dX8_fill_1 : decode cX8_fill 1 = .ok (.iconst 0, 1) := by decide +kernel
theorem dX8_fill_2 : decode cX8_fill 2 = .ok (.sipush 255, 3) := by decide +kernel
theorem dX8_fill_5 : decode cX8_fill 5 = .ok (.invokestatic 87, 3) := by decide +kernel
theorem dX8_fill_8 : decode cX8_fill 8 = .ok (.ifCond .ne 5, 3) := by decide +kernel
theorem dX8_fill_11 : decode cX8_fill 11 = .ok (.iconst 0, 1) := by decide +kernel
theorem dX8_fill_12 : decode cX8_fill 12 = .ok (.ireturn, 1) := by decide +kernel
theorem dX8_fill_13 : decode cX8_fill 13 = .ok (.aload_n 0, 1) := by decide +kernel
theorem dX8_fill_14 : decode cX8_fill 14 = .ok (.getfield 16, 3) := by decide +kernel
theorem dX8_fill_17 : decode cX8_fill 17 = .ok (.iload_n 1, 1) := by decide +kernel
theorem dX8_fill_18 : decode cX8_fill 18 = .ok (.invokestatic 69, 3) := by decide +kernel
theorem dX8_fill_21 : decode cX8_fill 21 = .ok (.iconst 1, 1) := by decide +kernel
theorem dX8_fill_22 : decode cX8_fill 22 = .ok (.ireturn, 1) := by decide +kernel
theorem dX8_chip_0 : decode cX8_chip 0 = .ok (.iload_n 1, 1) := by decide +kernel
theorem dX8_chip_1 : decode cX8_chip 1 = .ok (.invokestatic 125, 3) := by decide +kernel
theorem dX8_chip_4 : decode cX8_chip 4 = .ok (.ifCond .eq 74, 3) := by decide +kernel
theorem dX8_chip_7 : decode cX8_chip 7 = .ok (.iload_n 2, 1) := by decide +kernel
theorem dX8_chip_8 : decode cX8_chip 8 = .ok (.iconst 0, 1) := by decide +kernel
theorem dX8_chip_9 : decode cX8_chip 9 = .ok (.sipush 255, 3) := by decide +kernel
theorem dX8_chip_12 : decode cX8_chip 12 = .ok (.invokestatic 87, 3) := by decide +kernel
theorem dX8_chip_15 : decode cX8_chip 15 = .ok (.ifCond .eq 63, 3) := by decide +kernel
theorem dX8_chip_18 : decode cX8_chip 18 = .ok (.iload 4, 2) := by decide +kernel
theorem dX8_chip_20 : decode cX8_chip 20 = .ok (.iconst 1, 1) := by decide +kernel
theorem dX8_chip_21 : decode cX8_chip 21 = .ok (.bipush 30, 2) := by decide +kernel
theorem dX8_chip_23 : decode cX8_chip 23 = .ok (.invokestatic 87, 3) := by decide +kernel
theorem dX8_chip_26 : decode cX8_chip 26 = .ok (.ifCond .eq 52, 3) := by decide +kernel
theorem dX8_chip_29 : decode cX8_chip 29 = .ok (.iload 5, 2) := by decide +kernel
theorem dX8_chip_31 : decode cX8_chip 31 = .ok (.iload 4, 2) := by decide +kernel
theorem dX8_chip_33 : decode cX8_chip 33 = .ok (.bipush 30, 2) := by decide +kernel
theorem dX8_chip_35 : decode cX8_chip 35 = .ok (.invokestatic 87, 3) := by decide +kernel
theorem dX8_chip_38 : decode cX8_chip 38 = .ok (.ifCond .eq 40, 3) := by decide +kernel
theorem dX8_chip_41 : decode cX8_chip 41 = .ok (.iload 6, 2) := by decide +kernel
theorem dX8_chip_43 : decode cX8_chip 43 = .ok (.iconst 1, 1) := by decide +kernel
theorem dX8_chip_44 : decode cX8_chip 44 = .ok (.sipush 200, 3) := by decide +kernel
theorem dX8_chip_47 : decode cX8_chip 47 = .ok (.invokestatic 87, 3) := by decide +kernel
theorem dX8_chip_50 : decode cX8_chip 50 = .ok (.ifCond .eq 28, 3) := by decide +kernel
theorem dX8_chip_53 : decode cX8_chip 53 = .ok (.iload 7, 2) := by decide +kernel
theorem dX8_chip_55 : decode cX8_chip 55 = .ok (.iconst 0, 1) := by decide +kernel
theorem dX8_chip_56 : decode cX8_chip 56 = .ok (.iconst 5, 1) := by decide +kernel
theorem dX8_chip_57 : decode cX8_chip 57 = .ok (.invokestatic 87, 3) := by decide +kernel
theorem dX8_chip_60 : decode cX8_chip 60 = .ok (.ifCond .eq 18, 3) := by decide +kernel
theorem dX8_chip_63 : decode cX8_chip 63 = .ok (.iload 8, 2) := by decide +kernel
theorem dX8_chip_65 : decode cX8_chip 65 = .ok (.iconst 0, 1) := by decide +kernel
theorem dX8_chip_66 : decode cX8_chip 66 = .ok (.bipush 50, 2) := by decide +kernel
theorem dX8_chip_68 : decode cX8_chip 68 = .ok (.invokestatic 87, 3) := by decide +kernel
theorem dX8_chip_71 : decode cX8_chip 71 = .ok (.ifCond .eq 7, 3) := by decide +kernel
theorem dX8_chip_74 : decode cX8_chip 74 = .ok (.iconst 1, 1) := by decide +kernel
theorem dX8_chip_75 : decode cX8_chip 75 = .ok (.goto 4, 3) := by decide +kernel
theorem dX8_chip_78 : decode cX8_chip 78 = .ok (.iconst 0, 1) := by decide +kernel
theorem dX8_chip_79 : decode cX8_chip 79 = .ok (.istore 9, 2) := by decide +kernel
theorem dX8_chip_81 : decode cX8_chip 81 = .ok (.iload 9, 2) := by decide +kernel
theorem dX8_chip_83 : decode cX8_chip 83 = .ok (.ifCond .eq 11, 3) := by decide +kernel
theorem dX8_chip_86 : decode cX8_chip 86 = .ok (.aload_n 0, 1) := by decide +kernel
theorem dX8_chip_87 : decode cX8_chip 87 = .ok (.getfield 128, 3) := by decide +kernel
theorem dX8_chip_90 : decode cX8_chip 90 = .ok (.iconst 4, 1) := by decide +kernel
theorem dX8_chip_91 : decode cX8_chip 91 = .ok (.if_icmp .lt 5, 3) := by decide +kernel
theorem dX8_chip_94 : decode cX8_chip 94 = .ok (.iconst (-1), 1) := by decide +kernel
theorem dX8_chip_95 : decode cX8_chip 95 = .ok (.ireturn, 1) := by decide +kernel
theorem dX8_chip_96 : decode cX8_chip 96 = .ok (.new 52, 3) := by decide +kernel
theorem dX8_chip_99 : decode cX8_chip 99 = .ok (.dup, 1) := by decide +kernel
theorem dX8_chip_100 : decode cX8_chip 100 = .ok (.iload_n 1, 1) := by decide +kernel
theorem dX8_chip_101 : decode cX8_chip 101 = .ok (.iload_n 2, 1) := by decide +kernel
theorem dX8_chip_102 : decode cX8_chip 102 = .ok (.iload_n 3, 1) := by decide +kernel
theorem dX8_chip_103 : decode cX8_chip 103 = .ok (.invokespecial 131, 3) := by decide +kernel
theorem dX8_chip_106 : decode cX8_chip 106 = .ok (.astore 10, 2) := by decide +kernel
theorem dX8_chip_108 : decode cX8_chip 108 = .ok (.aload 10, 2) := by decide +kernel
theorem dX8_chip_110 : decode cX8_chip 110 = .ok (.iload 4, 2) := by decide +kernel
theorem dX8_chip_112 : decode cX8_chip 112 = .ok (.iload 5, 2) := by decide +kernel
theorem dX8_chip_114 : decode cX8_chip 114 = .ok (.iload 6, 2) := by decide +kernel
theorem dX8_chip_116 : decode cX8_chip 116 = .ok (.invokevirtual 134, 3) := by decide +kernel
theorem dX8_chip_119 : decode cX8_chip 119 = .ok (.aload 10, 2) := by decide +kernel
theorem dX8_chip_121 : decode cX8_chip 121 = .ok (.iload 7, 2) := by decide +kernel
theorem dX8_chip_123 : decode cX8_chip 123 = .ok (.iload 8, 2) := by decide +kernel
theorem dX8_chip_125 : decode cX8_chip 125 = .ok (.invokevirtual 138, 3) := by decide +kernel
theorem dX8_chip_128 : decode cX8_chip 128 = .ok (.aload_n 0, 1) := by decide +kernel
theorem dX8_chip_129 : decode cX8_chip 129 = .ok (.getfield 54, 3) := by decide +kernel
theorem dX8_chip_132 : decode cX8_chip 132 = .ok (.aload_n 0, 1) := by decide +kernel
theorem dX8_chip_133 : decode cX8_chip 133 = .ok (.getfield 128, 3) := by decide +kernel
theorem dX8_chip_136 : decode cX8_chip 136 = .ok (.aload 10, 2) := by decide +kernel
theorem dX8_chip_138 : decode cX8_chip 138 = .ok (.aastore, 1) := by decide +kernel
theorem dX8_chip_139 : decode cX8_chip 139 = .ok (.aload_n 0, 1) := by decide +kernel
theorem dX8_chip_140 : decode cX8_chip 140 = .ok (.dup, 1) := by decide +kernel
theorem dX8_chip_141 : decode cX8_chip 141 = .ok (.getfield 128, 3) := by decide +kernel
theorem dX8_chip_144 : decode cX8_chip 144 = .ok (.iconst 1, 1) := by decide +kernel
theorem dX8_chip_145 : decode cX8_chip 145 = .ok (.iadd, 1) := by decide +kernel
theorem dX8_chip_146 : decode cX8_chip 146 = .ok (.putfield 128, 3) := by decide +kernel
theorem dX8_chip_149 : decode cX8_chip 149 = .ok (.aload_n 0, 1) := by decide +kernel
theorem dX8_chip_150 : decode cX8_chip 150 = .ok (.getfield 128, 3) := by decide +kernel
theorem dX8_chip_153 : decode cX8_chip 153 = .ok (.iconst 1, 1) := by decide +kernel
theorem dX8_chip_154 : decode cX8_chip 154 = .ok (.isub, 1) := by decide +kernel
theorem dX8_chip_155 : decode cX8_chip 155 = .ok (.ireturn, 1) := by decide +kernel
theorem dX8_need_0 : decode cX8_need 0 = .ok (.aload_n 0, 1) := by decide +kernel
theorem dX8_need_1 : decode cX8_need 1 = .ok (.iload_n 1, 1) := by decide +kernel
theorem dX8_need_2 : decode cX8_need 2 = .ok (.invokevirtual 142, 3) := by decide +kernel
theorem dX8_need_5 : decode cX8_need 5 = .ok (.astore 4, 2) := by decide +kernel
theorem dX8_need_7 : decode cX8_need 7 = .ok (.aload 4, 2) := by decide +kernel
theorem dX8_need_9 : decode cX8_need 9 = .ok (.ifnull 27, 3) := by decide +kernel
theorem dX8_need_12 : decode cX8_need 12 = .ok (.iload_n 3, 1) := by decide +kernel
theorem dX8_need_13 : decode cX8_need 13 = .ok (.iconst 1, 1) := by decide +kernel
theorem dX8_need_14 : decode cX8_need 14 = .ok (.bipush 60, 2) := by decide +kernel
theorem dX8_need_16 : decode cX8_need 16 = .ok (.invokestatic 87, 3) := by decide +kernel
theorem dX8_need_19 : decode cX8_need 19 = .ok (.ifCond .eq 17, 3) := by decide +kernel
theorem dX8_need_22 : decode cX8_need 22 = .ok (.aload 4, 2) := by decide +kernel
theorem dX8_need_24 : decode cX8_need 24 = .ok (.iload_n 2, 1) := by decide +kernel
theorem dX8_need_25 : decode cX8_need 25 = .ok (.iload_n 3, 1) := by decide +kernel
theorem dX8_need_26 : decode cX8_need 26 = .ok (.invokevirtual 146, 3) := by decide +kernel
theorem dX8_need_29 : decode cX8_need 29 = .ok (.ifCond .eq 7, 3) := by decide +kernel
theorem dX8_need_32 : decode cX8_need 32 = .ok (.iconst 1, 1) := by decide +kernel
theorem dX8_need_33 : decode cX8_need 33 = .ok (.goto 4, 3) := by decide +kernel
theorem dX8_need_36 : decode cX8_need 36 = .ok (.iconst 0, 1) := by decide +kernel
theorem dX8_need_37 : decode cX8_need 37 = .ok (.ireturn, 1) := by decide +kernel
theorem dX8_bad_0 : decode cX8_bad 0 = .ok (.aload_n 0, 1) := by decide +kernel
theorem dX8_bad_1 : decode cX8_bad 1 = .ok (.iload_n 1, 1) := by decide +kernel
theorem dX8_bad_2 : decode cX8_bad 2 = .ok (.invokevirtual 142, 3) := by decide +kernel
theorem dX8_bad_5 : decode cX8_bad 5 = .ok (.astore 4, 2) := by decide +kernel
theorem dX8_bad_7 : decode cX8_bad 7 = .ok (.aload 4, 2) := by decide +kernel
theorem dX8_bad_9 : decode cX8_bad 9 = .ok (.ifnull 17, 3) := by decide +kernel
theorem dX8_bad_12 : decode cX8_bad 12 = .ok (.aload 4, 2) := by decide +kernel
theorem dX8_bad_14 : decode cX8_bad 14 = .ok (.iload_n 2, 1) := by decide +kernel
theorem dX8_bad_15 : decode cX8_bad 15 = .ok (.iload_n 3, 1) := by decide +kernel
theorem dX8_bad_16 : decode cX8_bad 16 = .ok (.invokevirtual 150, 3) := by decide +kernel
theorem dX8_bad_19 : decode cX8_bad 19 = .ok (.ifCond .eq 7, 3) := by decide +kernel
theorem dX8_bad_22 : decode cX8_bad 22 = .ok (.iconst 1, 1) := by decide +kernel
theorem dX8_bad_23 : decode cX8_bad 23 = .ok (.goto 4, 3) := by decide +kernel
theorem dX8_bad_26 : decode cX8_bad 26 = .ok (.iconst 0, 1) := by decide +kernel
theorem dX8_bad_27 : decode cX8_bad 27 = .ok (.ireturn, 1) := by decide +kernel
theorem dX8_contact_0 : decode cX8_contact 0 = .ok (.aload_n 0, 1) := by decide +kernel
theorem dX8_contact_1 : decode cX8_contact 1 = .ok (.iload_n 1, 1) := by decide +kernel
theorem dX8_contact_2 : decode cX8_contact 2 = .ok (.invokevirtual 142, 3) := by decide +kernel
theorem dX8_contact_5 : decode cX8_contact 5 = .ok (.astore 4, 2) := by decide +kernel
theorem dX8_contact_7 : decode cX8_contact 7 = .ok (.aload 4, 2) := by decide +kernel
theorem dX8_contact_9 : decode cX8_contact 9 = .ok (.ifnull 17, 3) := by decide +kernel
theorem dX8_contact_12 : decode cX8_contact 12 = .ok (.aload 4, 2) := by decide +kernel
theorem dX8_contact_14 : decode cX8_contact 14 = .ok (.iload_n 2, 1) := by decide +kernel
theorem dX8_contact_15 : decode cX8_contact 15 = .ok (.iload_n 3, 1) := by decide +kernel
theorem dX8_contact_16 : decode cX8_contact 16 = .ok (.invokevirtual 154, 3) := by decide +kernel
theorem dX8_contact_19 : decode cX8_contact 19 = .ok (.ifCond .eq 7, 3) := by decide +kernel
theorem dX8_contact_22 : decode cX8_contact 22 = .ok (.iconst 1, 1) := by decide +kernel
theorem dX8_contact_23 : decode cX8_contact 23 = .ok (.goto 4, 3) := by decide +kernel
theorem dX8_contact_26 : decode cX8_contact 26 = .ok (.iconst 0, 1) := by decide +kernel
theorem dX8_contact_27 : decode cX8_contact 27 = .ok (.ireturn, 1) := by decide +kernel
theorem dX8_erase_0 : decode cX8_erase 0 = .ok (.aload_n 0, 1) := by decide +kernel
theorem dX8_erase_1 : decode cX8_erase 1 = .ok (.iload_n 1, 1) := by decide +kernel
theorem dX8_erase_2 : decode cX8_erase 2 = .ok (.invokevirtual 142, 3) := by decide +kernel
theorem dX8_erase_5 : decode cX8_erase 5 = .ok (.astore_n 2, 1) := by decide +kernel
theorem dX8_erase_6 : decode cX8_erase 6 = .ok (.aload_n 2, 1) := by decide +kernel
theorem dX8_erase_7 : decode cX8_erase 7 = .ok (.ifnull 10, 3) := by decide +kernel
theorem dX8_erase_10 : decode cX8_erase 10 = .ok (.aload_n 2, 1) := by decide +kernel
theorem dX8_erase_11 : decode cX8_erase 11 = .ok (.getfield 157, 3) := by decide +kernel
theorem dX8_erase_14 : decode cX8_erase 14 = .ok (.ifCond .ne 5, 3) := by decide +kernel
theorem dX8_erase_17 : decode cX8_erase 17 = .ok (.iconst (-1), 1) := by decide +kernel
theorem dX8_erase_18 : decode cX8_erase 18 = .ok (.ireturn, 1) := by decide +kernel
theorem dX8_erase_19 : decode cX8_erase 19 = .ok (.aload_n 2, 1) := by decide +kernel
theorem dX8_erase_20 : decode cX8_erase 20 = .ok (.invokevirtual 161, 3) := by decide +kernel
theorem dX8_erase_23 : decode cX8_erase 23 = .ok (.aload_n 2, 1) := by decide +kernel
theorem dX8_erase_24 : decode cX8_erase 24 = .ok (.getfield 164, 3) := by decide +kernel
theorem dX8_erase_27 : decode cX8_erase 27 = .ok (.ireturn, 1) := by decide +kernel
theorem dX8_chipOf_0 : decode cX8_chipOf 0 = .ok (.aload_n 0, 1) := by decide +kernel
theorem dX8_chipOf_1 : decode cX8_chipOf 1 = .ok (.iload_n 1, 1) := by decide +kernel
theorem dX8_chipOf_2 : decode cX8_chipOf 2 = .ok (.invokevirtual 142, 3) := by decide +kernel
theorem dX8_chipOf_5 : decode cX8_chipOf 5 = .ok (.astore_n 3, 1) := by decide +kernel
theorem dX8_chipOf_6 : decode cX8_chipOf 6 = .ok (.aload_n 3, 1) := by decide +kernel
theorem dX8_chipOf_7 : decode cX8_chipOf 7 = .ok (.ifnull 7, 3) := by decide +kernel
theorem dX8_chipOf_10 : decode cX8_chipOf 10 = .ok (.iload_n 2, 1) := by decide +kernel
theorem dX8_chipOf_11 : decode cX8_chipOf 11 = .ok (.ifCond .ge 5, 3) := by decide +kernel
theorem dX8_chipOf_14 : decode cX8_chipOf 14 = .ok (.iconst (-1), 1) := by decide +kernel
theorem dX8_chipOf_15 : decode cX8_chipOf 15 = .ok (.ireturn, 1) := by decide +kernel
theorem dX8_chipOf_16 : decode cX8_chipOf 16 = .ok (.iload_n 2, 1) := by decide +kernel
theorem dX8_chipOf_17 : decode cX8_chipOf 17 = .ok (.bipush 100, 2) := by decide +kernel
theorem dX8_chipOf_19 : decode cX8_chipOf 19 = .ok (.if_icmp .ge 11, 3) := by decide +kernel
theorem dX8_chipOf_22 : decode cX8_chipOf 22 = .ok (.aload_n 3, 1) := by decide +kernel
theorem dX8_chipOf_23 : decode cX8_chipOf 23 = .ok (.iload_n 2, 1) := by decide +kernel
theorem dX8_chipOf_24 : decode cX8_chipOf 24 = .ok (.invokevirtual 167, 3) := by decide +kernel
theorem dX8_chipOf_27 : decode cX8_chipOf 27 = .ok (.goto 15, 3) := by decide +kernel
theorem dX8_chipOf_30 : decode cX8_chipOf 30 = .ok (.aload_n 3, 1) := by decide +kernel
theorem dX8_chipOf_31 : decode cX8_chipOf 31 = .ok (.iload_n 2, 1) := by decide +kernel
theorem dX8_chipOf_32 : decode cX8_chipOf 32 = .ok (.bipush 100, 2) := by decide +kernel
theorem dX8_chipOf_34 : decode cX8_chipOf 34 = .ok (.idiv, 1) := by decide +kernel
theorem dX8_chipOf_35 : decode cX8_chipOf 35 = .ok (.iload_n 2, 1) := by decide +kernel
theorem dX8_chipOf_36 : decode cX8_chipOf 36 = .ok (.bipush 100, 2) := by decide +kernel
theorem dX8_chipOf_38 : decode cX8_chipOf 38 = .ok (.irem, 1) := by decide +kernel
theorem dX8_chipOf_39 : decode cX8_chipOf 39 = .ok (.invokevirtual 170, 3) := by decide +kernel
theorem dX8_chipOf_42 : decode cX8_chipOf 42 = .ok (.ireturn, 1) := by decide +kernel
theorem dX8_recipe_0 : decode cX8_recipe 0 = .ok (.iload_n 1, 1) := by decide +kernel
theorem dX8_recipe_1 : decode cX8_recipe 1 = .ok (.iconst 0, 1) := by decide +kernel
theorem dX8_recipe_2 : decode cX8_recipe 2 = .ok (.iconst 3, 1) := by decide +kernel
theorem dX8_recipe_3 : decode cX8_recipe 3 = .ok (.invokestatic 87, 3) := by decide +kernel
theorem dX8_recipe_6 : decode cX8_recipe 6 = .ok (.ifCond .ne 5, 3) := by decide +kernel
theorem dX8_recipe_9 : decode cX8_recipe 9 = .ok (.iconst (-1), 1) := by decide +kernel
theorem dX8_recipe_10 : decode cX8_recipe 10 = .ok (.ireturn, 1) := by decide +kernel
theorem dX8_recipe_11 : decode cX8_recipe 11 = .ok (.aload_n 0, 1) := by decide +kernel
theorem dX8_recipe_12 : decode cX8_recipe 12 = .ok (.getfield 48, 3) := by decide +kernel
theorem dX8_recipe_15 : decode cX8_recipe 15 = .ok (.aload_n 0, 1) := by decide +kernel
theorem dX8_recipe_16 : decode cX8_recipe 16 = .ok (.getfield 65, 3) := by decide +kernel
theorem dX8_recipe_19 : decode cX8_recipe 19 = .ok (.invokevirtual 173, 3) := by decide +kernel
theorem dX8_recipe_22 : decode cX8_recipe 22 = .ok (.istore_n 2, 1) := by decide +kernel
theorem dX8_recipe_23 : decode cX8_recipe 23 = .ok (.aload_n 0, 1) := by decide +kernel
theorem dX8_recipe_24 : decode cX8_recipe 24 = .ok (.getfield 10, 3) := by decide +kernel
theorem dX8_recipe_27 : decode cX8_recipe 27 = .ok (.iconst 0, 1) := by decide +kernel
theorem dX8_recipe_28 : decode cX8_recipe 28 = .ok (.invokevirtual 83, 3) := by decide +kernel
theorem dX8_recipe_31 : decode cX8_recipe 31 = .ok (.pop, 1) := by decide +kernel
theorem dX8_recipe_32 : decode cX8_recipe 32 = .ok (.iload_n 2, 1) := by decide +kernel
theorem dX8_recipe_33 : decode cX8_recipe 33 = .ok (.ifCond .ne 5, 3) := by decide +kernel
theorem dX8_recipe_36 : decode cX8_recipe 36 = .ok (.iconst (-1), 1) := by decide +kernel
theorem dX8_recipe_37 : decode cX8_recipe 37 = .ok (.ireturn, 1) := by decide +kernel
theorem dX8_recipe_38 : decode cX8_recipe 38 = .ok (.aload_n 0, 1) := by decide +kernel
theorem dX8_recipe_39 : decode cX8_recipe 39 = .ok (.getfield 60, 3) := by decide +kernel
theorem dX8_recipe_42 : decode cX8_recipe 42 = .ok (.iload_n 1, 1) := by decide +kernel
theorem dX8_recipe_43 : decode cX8_recipe 43 = .ok (.aaload, 1) := by decide +kernel
theorem dX8_recipe_44 : decode cX8_recipe 44 = .ok (.astore_n 3, 1) := by decide +kernel
theorem dX8_recipe_45 : decode cX8_recipe 45 = .ok (.aload_n 0, 1) := by decide +kernel
theorem dX8_recipe_46 : decode cX8_recipe 46 = .ok (.getfield 60, 3) := by decide +kernel
theorem dX8_recipe_49 : decode cX8_recipe 49 = .ok (.iload_n 1, 1) := by decide +kernel
theorem dX8_recipe_50 : decode cX8_recipe 50 = .ok (.aload_n 0, 1) := by decide +kernel
theorem dX8_recipe_51 : decode cX8_recipe 51 = .ok (.getfield 65, 3) := by decide +kernel
theorem dX8_recipe_54 : decode cX8_recipe 54 = .ok (.aastore, 1) := by decide +kernel
theorem dX8_recipe_55 : decode cX8_recipe 55 = .ok (.aload_n 0, 1) := by decide +kernel
theorem dX8_recipe_56 : decode cX8_recipe 56 = .ok (.aload_n 3, 1) := by decide +kernel
theorem dX8_recipe_57 : decode cX8_recipe 57 = .ok (.putfield 65, 3) := by decide +kernel
theorem dX8_recipe_60 : decode cX8_recipe 60 = .ok (.aload_n 0, 1) := by decide +kernel
theorem dX8_recipe_61 : decode cX8_recipe 61 = .ok (.getfield 60, 3) := by decide +kernel
theorem dX8_recipe_64 : decode cX8_recipe 64 = .ok (.iload_n 1, 1) := by decide +kernel
theorem dX8_recipe_65 : decode cX8_recipe 65 = .ok (.aaload, 1) := by decide +kernel
theorem dX8_recipe_66 : decode cX8_recipe 66 = .ok (.getfield 176, 3) := by decide +kernel
theorem dX8_recipe_69 : decode cX8_recipe 69 = .ok (.ireturn, 1) := by decide +kernel
theorem dX8_walk_0 : decode cX8_walk 0 = .ok (.aload_n 0, 1) := by decide +kernel
theorem dX8_walk_1 : decode cX8_walk 1 = .ok (.iload_n 1, 1) := by decide +kernel
theorem dX8_walk_2 : decode cX8_walk 2 = .ok (.invokevirtual 179, 3) := by decide +kernel
theorem dX8_walk_5 : decode cX8_walk 5 = .ok (.astore_n 3, 1) := by decide +kernel
theorem dX8_walk_6 : decode cX8_walk 6 = .ok (.aload_n 3, 1) := by decide +kernel
theorem dX8_walk_7 : decode cX8_walk 7 = .ok (.ifnonnull 5, 3) := by decide +kernel
theorem dX8_walk_10 : decode cX8_walk 10 = .ok (.iconst (-1), 1) := by decide +kernel
theorem dX8_walk_11 : decode cX8_walk 11 = .ok (.ireturn, 1) := by decide +kernel
theorem dX8_walk_12 : decode cX8_walk 12 = .ok (.iload_n 2, 1) := by decide +kernel
theorem dX8_walk_13 : decode cX8_walk 13 = .ok (.tableswitch 51 0 3 #[31, 36, 41, 46], 31) := by decide +kernel
theorem dX8_walk_44 : decode cX8_walk 44 = .ok (.aload_n 3, 1) := by decide +kernel
theorem dX8_walk_45 : decode cX8_walk 45 = .ok (.getfield 176, 3) := by decide +kernel
theorem dX8_walk_48 : decode cX8_walk 48 = .ok (.ireturn, 1) := by decide +kernel
theorem dX8_walk_49 : decode cX8_walk 49 = .ok (.aload_n 3, 1) := by decide +kernel
theorem dX8_walk_50 : decode cX8_walk 50 = .ok (.getfield 183, 3) := by decide +kernel
theorem dX8_walk_53 : decode cX8_walk 53 = .ok (.ireturn, 1) := by decide +kernel
theorem dX8_walk_54 : decode cX8_walk 54 = .ok (.aload_n 3, 1) := by decide +kernel
theorem dX8_walk_55 : decode cX8_walk 55 = .ok (.getfield 186, 3) := by decide +kernel
theorem dX8_walk_58 : decode cX8_walk 58 = .ok (.ireturn, 1) := by decide +kernel
theorem dX8_walk_59 : decode cX8_walk 59 = .ok (.aload_n 3, 1) := by decide +kernel
theorem dX8_walk_60 : decode cX8_walk 60 = .ok (.getfield 189, 3) := by decide +kernel
theorem dX8_walk_63 : decode cX8_walk 63 = .ok (.ireturn, 1) := by decide +kernel
theorem dX8_walk_64 : decode cX8_walk 64 = .ok (.iconst (-1), 1) := by decide +kernel
theorem dX8_walk_65 : decode cX8_walk 65 = .ok (.ireturn, 1) := by decide +kernel
theorem dX8_why_0 : decode cX8_why 0 = .ok (.aload_n 0, 1) := by decide +kernel
theorem dX8_why_1 : decode cX8_why 1 = .ok (.iload_n 1, 1) := by decide +kernel
theorem dX8_why_2 : decode cX8_why 2 = .ok (.invokevirtual 142, 3) := by decide +kernel
theorem dX8_why_5 : decode cX8_why 5 = .ok (.astore 6, 2) := by decide +kernel
theorem dX8_why_7 : decode cX8_why 7 = .ok (.aload_n 0, 1) := by decide +kernel
theorem dX8_why_8 : decode cX8_why 8 = .ok (.iload_n 2, 1) := by decide +kernel
theorem dX8_why_9 : decode cX8_why 9 = .ok (.invokevirtual 179, 3) := by decide +kernel
theorem dX8_why_12 : decode cX8_why 12 = .ok (.astore 7, 2) := by decide +kernel
theorem dX8_why_14 : decode cX8_why 14 = .ok (.aload 6, 2) := by decide +kernel
theorem dX8_why_16 : decode cX8_why 16 = .ok (.ifnull 29, 3) := by decide +kernel
theorem dX8_why_19 : decode cX8_why 19 = .ok (.aload 7, 2) := by decide +kernel
theorem dX8_why_21 : decode cX8_why 21 = .ok (.ifnull 24, 3) := by decide +kernel
theorem dX8_why_24 : decode cX8_why 24 = .ok (.iload_n 3, 1) := by decide +kernel
theorem dX8_why_25 : decode cX8_why 25 = .ok (.iconst 0, 1) := by decide +kernel
theorem dX8_why_26 : decode cX8_why 26 = .ok (.sipush 255, 3) := by decide +kernel
theorem dX8_why_29 : decode cX8_why 29 = .ok (.invokestatic 87, 3) := by decide +kernel
theorem dX8_why_32 : decode cX8_why 32 = .ok (.ifCond .eq 13, 3) := by decide +kernel
theorem dX8_why_35 : decode cX8_why 35 = .ok (.iload 4, 2) := by decide +kernel
theorem dX8_why_37 : decode cX8_why 37 = .ok (.iload 5, 2) := by decide +kernel
theorem dX8_why_39 : decode cX8_why 39 = .ok (.invokestatic 192, 3) := by decide +kernel
theorem dX8_why_42 : decode cX8_why 42 = .ok (.ifCond .ne 5, 3) := by decide +kernel
theorem dX8_why_45 : decode cX8_why 45 = .ok (.iconst (-1), 1) := by decide +kernel
theorem dX8_why_46 : decode cX8_why 46 = .ok (.ireturn, 1) := by decide +kernel
theorem dX8_why_47 : decode cX8_why 47 = .ok (.aload_n 0, 1) := by decide +kernel
theorem dX8_why_48 : decode cX8_why 48 = .ok (.aload 6, 2) := by decide +kernel
theorem dX8_why_50 : decode cX8_why 50 = .ok (.aload 7, 2) := by decide +kernel
theorem dX8_why_52 : decode cX8_why 52 = .ok (.iload_n 3, 1) := by decide +kernel
theorem dX8_why_53 : decode cX8_why 53 = .ok (.iload 4, 2) := by decide +kernel
theorem dX8_why_55 : decode cX8_why 55 = .ok (.iload 5, 2) := by decide +kernel
theorem dX8_why_57 : decode cX8_why 57 = .ok (.invokevirtual 195, 3) := by decide +kernel
theorem dX8_why_60 : decode cX8_why 60 = .ok (.ireturn, 1) := by decide +kernel
theorem dX8_burn_0 : decode cX8_burn 0 = .ok (.aload_n 0, 1) := by decide +kernel
theorem dX8_burn_1 : decode cX8_burn 1 = .ok (.iload_n 1, 1) := by decide +kernel
theorem dX8_burn_2 : decode cX8_burn 2 = .ok (.invokevirtual 142, 3) := by decide +kernel
theorem dX8_burn_5 : decode cX8_burn 5 = .ok (.astore 7, 2) := by decide +kernel
theorem dX8_burn_7 : decode cX8_burn 7 = .ok (.aload_n 0, 1) := by decide +kernel
theorem dX8_burn_8 : decode cX8_burn 8 = .ok (.iload_n 2, 1) := by decide +kernel
theorem dX8_burn_9 : decode cX8_burn 9 = .ok (.invokevirtual 179, 3) := by decide +kernel
theorem dX8_burn_12 : decode cX8_burn 12 = .ok (.astore 8, 2) := by decide +kernel
theorem dX8_burn_14 : decode cX8_burn 14 = .ok (.aload 7, 2) := by decide +kernel
theorem dX8_burn_16 : decode cX8_burn 16 = .ok (.ifnull 29, 3) := by decide +kernel
theorem dX8_burn_19 : decode cX8_burn 19 = .ok (.aload 8, 2) := by decide +kernel
theorem dX8_burn_21 : decode cX8_burn 21 = .ok (.ifnull 24, 3) := by decide +kernel
theorem dX8_burn_24 : decode cX8_burn 24 = .ok (.iload_n 3, 1) := by decide +kernel
theorem dX8_burn_25 : decode cX8_burn 25 = .ok (.iconst 0, 1) := by decide +kernel
theorem dX8_burn_26 : decode cX8_burn 26 = .ok (.sipush 255, 3) := by decide +kernel
theorem dX8_burn_29 : decode cX8_burn 29 = .ok (.invokestatic 87, 3) := by decide +kernel
theorem dX8_burn_32 : decode cX8_burn 32 = .ok (.ifCond .eq 13, 3) := by decide +kernel
theorem dX8_burn_35 : decode cX8_burn 35 = .ok (.iload 4, 2) := by decide +kernel
theorem dX8_burn_37 : decode cX8_burn 37 = .ok (.iload 5, 2) := by decide +kernel
theorem dX8_burn_39 : decode cX8_burn 39 = .ok (.invokestatic 192, 3) := by decide +kernel
theorem dX8_burn_42 : decode cX8_burn 42 = .ok (.ifCond .ne 5, 3) := by decide +kernel
theorem dX8_burn_45 : decode cX8_burn 45 = .ok (.iconst (-1), 1) := by decide +kernel
theorem dX8_burn_46 : decode cX8_burn 46 = .ok (.ireturn, 1) := by decide +kernel
theorem dX8_burn_47 : decode cX8_burn 47 = .ok (.iload 6, 2) := by decide +kernel
theorem dX8_burn_49 : decode cX8_burn 49 = .ok (.iconst 0, 1) := by decide +kernel
theorem dX8_burn_50 : decode cX8_burn 50 = .ok (.ldc 199, 2) := by decide +kernel
theorem dX8_burn_52 : decode cX8_burn 52 = .ok (.invokestatic 87, 3) := by decide +kernel
theorem dX8_burn_55 : decode cX8_burn 55 = .ok (.ifCond .eq 19, 3) := by decide +kernel
theorem dX8_burn_58 : decode cX8_burn 58 = .ok (.aload_n 0, 1) := by decide +kernel
theorem dX8_burn_59 : decode cX8_burn 59 = .ok (.aload 7, 2) := by decide +kernel
theorem dX8_burn_61 : decode cX8_burn 61 = .ok (.aload 8, 2) := by decide +kernel
theorem dX8_burn_63 : decode cX8_burn 63 = .ok (.iload_n 3, 1) := by decide +kernel
theorem dX8_burn_64 : decode cX8_burn 64 = .ok (.iload 4, 2) := by decide +kernel
theorem dX8_burn_66 : decode cX8_burn 66 = .ok (.iload 5, 2) := by decide +kernel
theorem dX8_burn_68 : decode cX8_burn 68 = .ok (.invokevirtual 195, 3) := by decide +kernel
theorem dX8_burn_71 : decode cX8_burn 71 = .ok (.ifCond .eq 5, 3) := by decide +kernel
theorem dX8_burn_74 : decode cX8_burn 74 = .ok (.iconst (-1), 1) := by decide +kernel
theorem dX8_burn_75 : decode cX8_burn 75 = .ok (.ireturn, 1) := by decide +kernel
theorem dX8_burn_76 : decode cX8_burn 76 = .ok (.new 200, 3) := by decide +kernel
theorem dX8_burn_79 : decode cX8_burn 79 = .ok (.dup, 1) := by decide +kernel
theorem dX8_burn_80 : decode cX8_burn 80 = .ok (.aload 7, 2) := by decide +kernel
theorem dX8_burn_82 : decode cX8_burn 82 = .ok (.aload 8, 2) := by decide +kernel
theorem dX8_burn_84 : decode cX8_burn 84 = .ok (.iload 6, 2) := by decide +kernel
theorem dX8_burn_86 : decode cX8_burn 86 = .ok (.invokespecial 202, 3) := by decide +kernel
theorem dX8_burn_89 : decode cX8_burn 89 = .ok (.astore 9, 2) := by decide +kernel
theorem dX8_burn_91 : decode cX8_burn 91 = .ok (.aload 7, 2) := by decide +kernel
theorem dX8_burn_93 : decode cX8_burn 93 = .ok (.iload 4, 2) := by decide +kernel
theorem dX8_burn_95 : decode cX8_burn 95 = .ok (.iload 5, 2) := by decide +kernel
theorem dX8_burn_97 : decode cX8_burn 97 = .ok (.invokestatic 205, 3) := by decide +kernel
theorem dX8_burn_100 : decode cX8_burn 100 = .ok (.istore 10, 2) := by decide +kernel
theorem dX8_burn_102 : decode cX8_burn 102 = .ok (.iconst 0, 1) := by decide +kernel
theorem dX8_burn_103 : decode cX8_burn 103 = .ok (.istore 11, 2) := by decide +kernel
theorem dX8_burn_105 : decode cX8_burn 105 = .ok (.iload 11, 2) := by decide +kernel
theorem dX8_burn_107 : decode cX8_burn 107 = .ok (.iload 10, 2) := by decide +kernel
theorem dX8_burn_109 : decode cX8_burn 109 = .ok (.if_icmp .ge 61, 3) := by decide +kernel
theorem dX8_burn_112 : decode cX8_burn 112 = .ok (.aload 9, 2) := by decide +kernel
theorem dX8_burn_114 : decode cX8_burn 114 = .ok (.getfield 209, 3) := by decide +kernel
theorem dX8_burn_117 : decode cX8_burn 117 = .ok (.ifCond .le 53, 3) := by decide +kernel
theorem dX8_burn_120 : decode cX8_burn 120 = .ok (.aload 7, 2) := by decide +kernel
theorem dX8_burn_122 : decode cX8_burn 122 = .ok (.iload 11, 2) := by decide +kernel
theorem dX8_burn_124 : decode cX8_burn 124 = .ok (.invokevirtual 212, 3) := by decide +kernel
theorem dX8_burn_127 : decode cX8_burn 127 = .ok (.istore 12, 2) := by decide +kernel
theorem dX8_burn_129 : decode cX8_burn 129 = .ok (.aload_n 0, 1) := by decide +kernel
theorem dX8_burn_130 : decode cX8_burn 130 = .ok (.iload 4, 2) := by decide +kernel
theorem dX8_burn_132 : decode cX8_burn 132 = .ok (.iload 5, 2) := by decide +kernel
theorem dX8_burn_134 : decode cX8_burn 134 = .ok (.iload 11, 2) := by decide +kernel
theorem dX8_burn_136 : decode cX8_burn 136 = .ok (.imul, 1) := by decide +kernel
theorem dX8_burn_137 : decode cX8_burn 137 = .ok (.iadd, 1) := by decide +kernel
theorem dX8_burn_138 : decode cX8_burn 138 = .ok (.invokevirtual 215, 3) := by decide +kernel
theorem dX8_burn_141 : decode cX8_burn 141 = .ok (.istore 13, 2) := by decide +kernel
theorem dX8_burn_143 : decode cX8_burn 143 = .ok (.aload 7, 2) := by decide +kernel
theorem dX8_burn_145 : decode cX8_burn 145 = .ok (.iload 12, 2) := by decide +kernel
theorem dX8_burn_147 : decode cX8_burn 147 = .ok (.iload 13, 2) := by decide +kernel
theorem dX8_burn_149 : decode cX8_burn 149 = .ok (.invokevirtual 218, 3) := by decide +kernel
theorem dX8_burn_152 : decode cX8_burn 152 = .ok (.ifCond .ne 12, 3) := by decide +kernel
theorem dX8_burn_155 : decode cX8_burn 155 = .ok (.aload 9, 2) := by decide +kernel
theorem dX8_burn_157 : decode cX8_burn 157 = .ok (.iload 12, 2) := by decide +kernel
theorem dX8_burn_159 : decode cX8_burn 159 = .ok (.iload 13, 2) := by decide +kernel
theorem dX8_burn_161 : decode cX8_burn 161 = .ok (.invokevirtual 221, 3) := by decide +kernel
theorem dX8_burn_164 : decode cX8_burn 164 = .ok (.iinc 11 1, 3) := by decide +kernel
theorem dX8_burn_167 : decode cX8_burn 167 = .ok (.goto (-62), 3) := by decide +kernel
theorem dX8_burn_170 : decode cX8_burn 170 = .ok (.iload 6, 2) := by decide +kernel
theorem dX8_burn_172 : decode cX8_burn 172 = .ok (.aload 9, 2) := by decide +kernel
theorem dX8_burn_174 : decode cX8_burn 174 = .ok (.getfield 209, 3) := by decide +kernel
theorem dX8_burn_177 : decode cX8_burn 177 = .ok (.isub, 1) := by decide +kernel
theorem dX8_burn_178 : decode cX8_burn 178 = .ok (.ireturn, 1) := by decide +kernel
theorem dX8_wrong_0 : decode cX8_wrong 0 = .ok (.aload_n 0, 1) := by decide +kernel
theorem dX8_wrong_1 : decode cX8_wrong 1 = .ok (.iload_n 1, 1) := by decide +kernel
theorem dX8_wrong_2 : decode cX8_wrong 2 = .ok (.invokevirtual 142, 3) := by decide +kernel
theorem dX8_wrong_5 : decode cX8_wrong 5 = .ok (.astore 4, 2) := by decide +kernel
theorem dX8_wrong_7 : decode cX8_wrong 7 = .ok (.aload 4, 2) := by decide +kernel
theorem dX8_wrong_9 : decode cX8_wrong 9 = .ok (.ifnull 11, 3) := by decide +kernel
theorem dX8_wrong_12 : decode cX8_wrong 12 = .ok (.iload_n 2, 1) := by decide +kernel
theorem dX8_wrong_13 : decode cX8_wrong 13 = .ok (.iload_n 3, 1) := by decide +kernel
theorem dX8_wrong_14 : decode cX8_wrong 14 = .ok (.invokestatic 192, 3) := by decide +kernel
theorem dX8_wrong_17 : decode cX8_wrong 17 = .ok (.ifCond .ne 5, 3) := by decide +kernel
theorem dX8_wrong_20 : decode cX8_wrong 20 = .ok (.iconst (-1), 1) := by decide +kernel
theorem dX8_wrong_21 : decode cX8_wrong 21 = .ok (.ireturn, 1) := by decide +kernel
theorem dX8_wrong_22 : decode cX8_wrong 22 = .ok (.iconst 0, 1) := by decide +kernel
theorem dX8_wrong_23 : decode cX8_wrong 23 = .ok (.istore 5, 2) := by decide +kernel
theorem dX8_wrong_25 : decode cX8_wrong 25 = .ok (.aload 4, 2) := by decide +kernel
theorem dX8_wrong_27 : decode cX8_wrong 27 = .ok (.iload_n 2, 1) := by decide +kernel
theorem dX8_wrong_28 : decode cX8_wrong 28 = .ok (.iload_n 3, 1) := by decide +kernel
theorem dX8_wrong_29 : decode cX8_wrong 29 = .ok (.invokestatic 205, 3) := by decide +kernel
theorem dX8_wrong_32 : decode cX8_wrong 32 = .ok (.istore 6, 2) := by decide +kernel
theorem dX8_wrong_34 : decode cX8_wrong 34 = .ok (.iconst 0, 1) := by decide +kernel
theorem dX8_wrong_35 : decode cX8_wrong 35 = .ok (.istore 7, 2) := by decide +kernel
theorem dX8_wrong_37 : decode cX8_wrong 37 = .ok (.iload 7, 2) := by decide +kernel
theorem dX8_wrong_39 : decode cX8_wrong 39 = .ok (.iload 6, 2) := by decide +kernel
theorem dX8_wrong_41 : decode cX8_wrong 41 = .ok (.if_icmp .ge 37, 3) := by decide +kernel
theorem dX8_wrong_44 : decode cX8_wrong 44 = .ok (.aload 4, 2) := by decide +kernel
theorem dX8_wrong_46 : decode cX8_wrong 46 = .ok (.aload 4, 2) := by decide +kernel
theorem dX8_wrong_48 : decode cX8_wrong 48 = .ok (.iload 7, 2) := by decide +kernel
theorem dX8_wrong_50 : decode cX8_wrong 50 = .ok (.invokevirtual 212, 3) := by decide +kernel
theorem dX8_wrong_53 : decode cX8_wrong 53 = .ok (.aload_n 0, 1) := by decide +kernel
theorem dX8_wrong_54 : decode cX8_wrong 54 = .ok (.iload_n 2, 1) := by decide +kernel
theorem dX8_wrong_55 : decode cX8_wrong 55 = .ok (.iload_n 3, 1) := by decide +kernel
theorem dX8_wrong_56 : decode cX8_wrong 56 = .ok (.iload 7, 2) := by decide +kernel
theorem dX8_wrong_58 : decode cX8_wrong 58 = .ok (.imul, 1) := by decide +kernel
theorem dX8_wrong_59 : decode cX8_wrong 59 = .ok (.iadd, 1) := by decide +kernel
theorem dX8_wrong_60 : decode cX8_wrong 60 = .ok (.invokevirtual 215, 3) := by decide +kernel
theorem dX8_wrong_63 : decode cX8_wrong 63 = .ok (.invokevirtual 218, 3) := by decide +kernel
theorem dX8_wrong_66 : decode cX8_wrong 66 = .ok (.ifCond .ne 6, 3) := by decide +kernel
theorem dX8_wrong_69 : decode cX8_wrong 69 = .ok (.iinc 5 1, 3) := by decide +kernel
theorem dX8_wrong_72 : decode cX8_wrong 72 = .ok (.iinc 7 1, 3) := by decide +kernel
theorem dX8_wrong_75 : decode cX8_wrong 75 = .ok (.goto (-38), 3) := by decide +kernel
theorem dX8_wrong_78 : decode cX8_wrong 78 = .ok (.iload 5, 2) := by decide +kernel
theorem dX8_wrong_80 : decode cX8_wrong 80 = .ok (.ireturn, 1) := by decide +kernel
theorem dX8_read_0 : decode cX8_read 0 = .ok (.aload_n 0, 1) := by decide +kernel
theorem dX8_read_1 : decode cX8_read 1 = .ok (.iload_n 1, 1) := by decide +kernel
theorem dX8_read_2 : decode cX8_read 2 = .ok (.invokevirtual 142, 3) := by decide +kernel
theorem dX8_read_5 : decode cX8_read 5 = .ok (.astore 5, 2) := by decide +kernel
theorem dX8_read_7 : decode cX8_read 7 = .ok (.aload 5, 2) := by decide +kernel
theorem dX8_read_9 : decode cX8_read 9 = .ok (.ifnull 12, 3) := by decide +kernel
theorem dX8_read_12 : decode cX8_read 12 = .ok (.iload_n 3, 1) := by decide +kernel
theorem dX8_read_13 : decode cX8_read 13 = .ok (.iload 4, 2) := by decide +kernel
theorem dX8_read_15 : decode cX8_read 15 = .ok (.invokestatic 192, 3) := by decide +kernel
theorem dX8_read_18 : decode cX8_read 18 = .ok (.ifCond .ne 5, 3) := by decide +kernel
theorem dX8_read_21 : decode cX8_read 21 = .ok (.iconst (-1), 1) := by decide +kernel
theorem dX8_read_22 : decode cX8_read 22 = .ok (.ireturn, 1) := by decide +kernel
theorem dX8_read_23 : decode cX8_read 23 = .ok (.aload 5, 2) := by decide +kernel
theorem dX8_read_25 : decode cX8_read 25 = .ok (.iload_n 3, 1) := by decide +kernel
theorem dX8_read_26 : decode cX8_read 26 = .ok (.iload 4, 2) := by decide +kernel
theorem dX8_read_28 : decode cX8_read 28 = .ok (.invokestatic 205, 3) := by decide +kernel
theorem dX8_read_31 : decode cX8_read 31 = .ok (.istore 6, 2) := by decide +kernel
theorem dX8_read_33 : decode cX8_read 33 = .ok (.iconst 0, 1) := by decide +kernel
theorem dX8_read_34 : decode cX8_read 34 = .ok (.istore 7, 2) := by decide +kernel
theorem dX8_read_36 : decode cX8_read 36 = .ok (.iload 7, 2) := by decide +kernel
theorem dX8_read_38 : decode cX8_read 38 = .ok (.iload 6, 2) := by decide +kernel
theorem dX8_read_40 : decode cX8_read 40 = .ok (.if_icmp .ge 58, 3) := by decide +kernel
theorem dX8_read_43 : decode cX8_read 43 = .ok (.iload_n 3, 1) := by decide +kernel
theorem dX8_read_44 : decode cX8_read 44 = .ok (.iload 4, 2) := by decide +kernel
theorem dX8_read_46 : decode cX8_read 46 = .ok (.iload 7, 2) := by decide +kernel
theorem dX8_read_48 : decode cX8_read 48 = .ok (.imul, 1) := by decide +kernel
theorem dX8_read_49 : decode cX8_read 49 = .ok (.iadd, 1) := by decide +kernel
theorem dX8_read_50 : decode cX8_read 50 = .ok (.istore 8, 2) := by decide +kernel
theorem dX8_read_52 : decode cX8_read 52 = .ok (.iload 8, 2) := by decide +kernel
theorem dX8_read_54 : decode cX8_read 54 = .ok (.iconst 0, 1) := by decide +kernel
theorem dX8_read_55 : decode cX8_read 55 = .ok (.sipush 255, 3) := by decide +kernel
theorem dX8_read_58 : decode cX8_read 58 = .ok (.invokestatic 87, 3) := by decide +kernel
theorem dX8_read_61 : decode cX8_read 61 = .ok (.ifCond .eq 31, 3) := by decide +kernel
theorem dX8_read_64 : decode cX8_read 64 = .ok (.aload_n 0, 1) := by decide +kernel
theorem dX8_read_65 : decode cX8_read 65 = .ok (.getfield 16, 3) := by decide +kernel
theorem dX8_read_68 : decode cX8_read 68 = .ok (.iload 8, 2) := by decide +kernel
theorem dX8_read_70 : decode cX8_read 70 = .ok (.aload 5, 2) := by decide +kernel
theorem dX8_read_72 : decode cX8_read 72 = .ok (.iload_n 2, 1) := by decide +kernel
theorem dX8_read_73 : decode cX8_read 73 = .ok (.ifCond .eq 7, 3) := by decide +kernel
theorem dX8_read_76 : decode cX8_read 76 = .ok (.iconst 2, 1) := by decide +kernel
theorem dX8_read_77 : decode cX8_read 77 = .ok (.goto 4, 3) := by decide +kernel
theorem dX8_read_80 : decode cX8_read 80 = .ok (.iconst 1, 1) := by decide +kernel
theorem dX8_read_81 : decode cX8_read 81 = .ok (.aload 5, 2) := by decide +kernel
theorem dX8_read_83 : decode cX8_read 83 = .ok (.iload 7, 2) := by decide +kernel
theorem dX8_read_85 : decode cX8_read 85 = .ok (.invokevirtual 212, 3) := by decide +kernel
theorem dX8_read_88 : decode cX8_read 88 = .ok (.invokevirtual 170, 3) := by decide +kernel
theorem dX8_read_91 : decode cX8_read 91 = .ok (.iastore, 1) := by decide +kernel
theorem dX8_read_92 : decode cX8_read 92 = .ok (.iinc 7 1, 3) := by decide +kernel
theorem dX8_read_95 : decode cX8_read 95 = .ok (.goto (-59), 3) := by decide +kernel
theorem dX8_read_98 : decode cX8_read 98 = .ok (.iload 6, 2) := by decide +kernel
theorem dX8_read_100 : decode cX8_read 100 = .ok (.ireturn, 1) := by decide +kernel
theorem dX8_about_0 : decode cX8_about 0 = .ok (.iload_n 1, 1) := by decide +kernel
theorem dX8_about_1 : decode cX8_about 1 = .ok (.tableswitch 45 0 2 #[27, 32, 40], 27) := by decide +kernel
theorem dX8_about_28 : decode cX8_about 28 = .ok (.aload_n 0, 1) := by decide +kernel
theorem dX8_about_29 : decode cX8_about 29 = .ok (.getfield 128, 3) := by decide +kernel
theorem dX8_about_32 : decode cX8_about 32 = .ok (.ireturn, 1) := by decide +kernel
theorem dX8_about_33 : decode cX8_about 33 = .ok (.aload_n 0, 1) := by decide +kernel
theorem dX8_about_34 : decode cX8_about 34 = .ok (.getfield 10, 3) := by decide +kernel
theorem dX8_about_37 : decode cX8_about 37 = .ok (.invokevirtual 75, 3) := by decide +kernel
theorem dX8_about_40 : decode cX8_about 40 = .ok (.ireturn, 1) := by decide +kernel
theorem dX8_about_41 : decode cX8_about 41 = .ok (.aload_n 0, 1) := by decide +kernel
theorem dX8_about_42 : decode cX8_about 42 = .ok (.getfield 97, 3) := by decide +kernel
theorem dX8_about_45 : decode cX8_about 45 = .ok (.ireturn, 1) := by decide +kernel
theorem dX8_about_46 : decode cX8_about 46 = .ok (.iconst (-1), 1) := by decide +kernel
theorem dX8_about_47 : decode cX8_about 47 = .ok (.ireturn, 1) := by decide +kernel
theorem dX8_isWithin_0 : decode cX8_isWithin 0 = .ok (.iload_n 0, 1) := by decide +kernel
theorem dX8_isWithin_1 : decode cX8_isWithin 1 = .ok (.iload_n 1, 1) := by decide +kernel
theorem dX8_isWithin_2 : decode cX8_isWithin 2 = .ok (.if_icmp .lt 12, 3) := by decide +kernel
theorem dX8_isWithin_5 : decode cX8_isWithin 5 = .ok (.iload_n 0, 1) := by decide +kernel
theorem dX8_isWithin_6 : decode cX8_isWithin 6 = .ok (.iload_n 2, 1) := by decide +kernel
theorem dX8_isWithin_7 : decode cX8_isWithin 7 = .ok (.if_icmp .gt 7, 3) := by decide +kernel
theorem dX8_isWithin_10 : decode cX8_isWithin 10 = .ok (.iconst 1, 1) := by decide +kernel
theorem dX8_isWithin_11 : decode cX8_isWithin 11 = .ok (.goto 4, 3) := by decide +kernel
theorem dX8_isWithin_14 : decode cX8_isWithin 14 = .ok (.iconst 0, 1) := by decide +kernel
theorem dX8_isWithin_15 : decode cX8_isWithin 15 = .ok (.ireturn, 1) := by decide +kernel
theorem dX8_isSize_0 : decode cX8_isSize 0 = .ok (.iload_n 0, 1) := by decide +kernel
theorem dX8_isSize_1 : decode cX8_isSize 1 = .ok (.bipush 8, 2) := by decide +kernel
theorem dX8_isSize_3 : decode cX8_isSize 3 = .ok (.bipush 64, 2) := by decide +kernel
theorem dX8_isSize_5 : decode cX8_isSize 5 = .ok (.invokestatic 87, 3) := by decide +kernel
theorem dX8_isSize_8 : decode cX8_isSize 8 = .ok (.ifCond .eq 14, 3) := by decide +kernel
theorem dX8_isSize_11 : decode cX8_isSize 11 = .ok (.iload_n 0, 1) := by decide +kernel
theorem dX8_isSize_12 : decode cX8_isSize 12 = .ok (.bipush 8, 2) := by decide +kernel
theorem dX8_isSize_14 : decode cX8_isSize 14 = .ok (.irem, 1) := by decide +kernel
theorem dX8_isSize_15 : decode cX8_isSize 15 = .ok (.ifCond .ne 7, 3) := by decide +kernel
theorem dX8_isSize_18 : decode cX8_isSize 18 = .ok (.iconst 1, 1) := by decide +kernel
theorem dX8_isSize_19 : decode cX8_isSize 19 = .ok (.goto 4, 3) := by decide +kernel
theorem dX8_isSize_22 : decode cX8_isSize 22 = .ok (.iconst 0, 1) := by decide +kernel
theorem dX8_isSize_23 : decode cX8_isSize 23 = .ok (.ireturn, 1) := by decide +kernel
theorem dX8_isPart_0 : decode cX8_isPart 0 = .ok (.iload_n 0, 1) := by decide +kernel
theorem dX8_isPart_1 : decode cX8_isPart 1 = .ok (.iconst 0, 1) := by decide +kernel
theorem dX8_isPart_2 : decode cX8_isPart 2 = .ok (.sipush 255, 3) := by decide +kernel
theorem dX8_isPart_5 : decode cX8_isPart 5 = .ok (.invokestatic 87, 3) := by decide +kernel
theorem dX8_isPart_8 : decode cX8_isPart 8 = .ok (.ifCond .eq 17, 3) := by decide +kernel
theorem dX8_isPart_11 : decode cX8_isPart 11 = .ok (.iload_n 1, 1) := by decide +kernel
theorem dX8_isPart_12 : decode cX8_isPart 12 = .ok (.iconst 1, 1) := by decide +kernel
theorem dX8_isPart_13 : decode cX8_isPart 13 = .ok (.bipush 8, 2) := by decide +kernel
theorem dX8_isPart_15 : decode cX8_isPart 15 = .ok (.invokestatic 87, 3) := by decide +kernel
theorem dX8_isPart_18 : decode cX8_isPart 18 = .ok (.ifCond .eq 7, 3) := by decide +kernel
theorem dX8_isPart_21 : decode cX8_isPart 21 = .ok (.iconst 1, 1) := by decide +kernel
theorem dX8_isPart_22 : decode cX8_isPart 22 = .ok (.goto 4, 3) := by decide +kernel
theorem dX8_isPart_25 : decode cX8_isPart 25 = .ok (.iconst 0, 1) := by decide +kernel
theorem dX8_isPart_26 : decode cX8_isPart 26 = .ok (.ireturn, 1) := by decide +kernel
theorem dX8_chipAt_0 : decode cX8_chipAt 0 = .ok (.iload_n 1, 1) := by decide +kernel
theorem dX8_chipAt_1 : decode cX8_chipAt 1 = .ok (.ifCond .lt 25, 3) := by decide +kernel
theorem dX8_chipAt_4 : decode cX8_chipAt 4 = .ok (.iload_n 1, 1) := by decide +kernel
theorem dX8_chipAt_5 : decode cX8_chipAt 5 = .ok (.aload_n 0, 1) := by decide +kernel
theorem dX8_chipAt_6 : decode cX8_chipAt 6 = .ok (.getfield 128, 3) := by decide +kernel
theorem dX8_chipAt_9 : decode cX8_chipAt 9 = .ok (.if_icmp .ge 17, 3) := by decide +kernel
theorem dX8_chipAt_12 : decode cX8_chipAt 12 = .ok (.iload_n 1, 1) := by decide +kernel
theorem dX8_chipAt_13 : decode cX8_chipAt 13 = .ok (.iconst 4, 1) := by decide +kernel
theorem dX8_chipAt_14 : decode cX8_chipAt 14 = .ok (.if_icmp .ge 12, 3) := by decide +kernel
theorem dX8_chipAt_17 : decode cX8_chipAt 17 = .ok (.aload_n 0, 1) := by decide +kernel
theorem dX8_chipAt_18 : decode cX8_chipAt 18 = .ok (.getfield 54, 3) := by decide +kernel
theorem dX8_chipAt_21 : decode cX8_chipAt 21 = .ok (.iload_n 1, 1) := by decide +kernel
theorem dX8_chipAt_22 : decode cX8_chipAt 22 = .ok (.aaload, 1) := by decide +kernel
theorem dX8_chipAt_23 : decode cX8_chipAt 23 = .ok (.goto 4, 3) := by decide +kernel
theorem dX8_chipAt_26 : decode cX8_chipAt 26 = .ok (.aconst_null, 1) := by decide +kernel
theorem dX8_chipAt_27 : decode cX8_chipAt 27 = .ok (.areturn, 1) := by decide +kernel
theorem dX8_recipeAt_0 : decode cX8_recipeAt 0 = .ok (.iload_n 1, 1) := by decide +kernel
theorem dX8_recipeAt_1 : decode cX8_recipeAt 1 = .ok (.iconst 0, 1) := by decide +kernel
theorem dX8_recipeAt_2 : decode cX8_recipeAt 2 = .ok (.iconst 3, 1) := by decide +kernel
theorem dX8_recipeAt_3 : decode cX8_recipeAt 3 = .ok (.invokestatic 87, 3) := by decide +kernel
theorem dX8_recipeAt_6 : decode cX8_recipeAt 6 = .ok (.ifCond .eq 12, 3) := by decide +kernel
theorem dX8_recipeAt_9 : decode cX8_recipeAt 9 = .ok (.aload_n 0, 1) := by decide +kernel
theorem dX8_recipeAt_10 : decode cX8_recipeAt 10 = .ok (.getfield 60, 3) := by decide +kernel
theorem dX8_recipeAt_13 : decode cX8_recipeAt 13 = .ok (.iload_n 1, 1) := by decide +kernel
theorem dX8_recipeAt_14 : decode cX8_recipeAt 14 = .ok (.aaload, 1) := by decide +kernel
theorem dX8_recipeAt_15 : decode cX8_recipeAt 15 = .ok (.goto 4, 3) := by decide +kernel
theorem dX8_recipeAt_18 : decode cX8_recipeAt 18 = .ok (.aconst_null, 1) := by decide +kernel
theorem dX8_recipeAt_19 : decode cX8_recipeAt 19 = .ok (.areturn, 1) := by decide +kernel
theorem dX8_reachOf_0 : decode cX8_reachOf 0 = .ok (.iload_n 1, 1) := by decide +kernel
theorem dX8_reachOf_1 : decode cX8_reachOf 1 = .ok (.iload_n 2, 1) := by decide +kernel
theorem dX8_reachOf_2 : decode cX8_reachOf 2 = .ok (.invokestatic 192, 3) := by decide +kernel
theorem dX8_reachOf_5 : decode cX8_reachOf 5 = .ok (.ifCond .ne 5, 3) := by decide +kernel
theorem dX8_reachOf_8 : decode cX8_reachOf 8 = .ok (.iconst 0, 1) := by decide +kernel
theorem dX8_reachOf_9 : decode cX8_reachOf 9 = .ok (.ireturn, 1) := by decide +kernel
theorem dX8_reachOf_10 : decode cX8_reachOf 10 = .ok (.aload_n 0, 1) := by decide +kernel
theorem dX8_reachOf_11 : decode cX8_reachOf 11 = .ok (.invokevirtual 224, 3) := by decide +kernel
theorem dX8_reachOf_14 : decode cX8_reachOf 14 = .ok (.sipush 255, 3) := by decide +kernel
theorem dX8_reachOf_17 : decode cX8_reachOf 17 = .ok (.iload_n 1, 1) := by decide +kernel
theorem dX8_reachOf_18 : decode cX8_reachOf 18 = .ok (.isub, 1) := by decide +kernel
theorem dX8_reachOf_19 : decode cX8_reachOf 19 = .ok (.iload_n 2, 1) := by decide +kernel
theorem dX8_reachOf_20 : decode cX8_reachOf 20 = .ok (.idiv, 1) := by decide +kernel
theorem dX8_reachOf_21 : decode cX8_reachOf 21 = .ok (.iconst 1, 1) := by decide +kernel
theorem dX8_reachOf_22 : decode cX8_reachOf 22 = .ok (.iadd, 1) := by decide +kernel
theorem dX8_reachOf_23 : decode cX8_reachOf 23 = .ok (.invokestatic 227, 3) := by decide +kernel
theorem dX8_reachOf_26 : decode cX8_reachOf 26 = .ok (.ireturn, 1) := by decide +kernel
theorem dX8_hindrance_0 : decode cX8_hindrance 0 = .ok (.aload_n 1, 1) := by decide +kernel
theorem dX8_hindrance_1 : decode cX8_hindrance 1 = .ok (.invokevirtual 229, 3) := by decide +kernel
theorem dX8_hindrance_4 : decode cX8_hindrance 4 = .ok (.iconst (-1), 1) := by decide +kernel
theorem dX8_hindrance_5 : decode cX8_hindrance 5 = .ok (.if_icmp .eq 5, 3) := by decide +kernel
theorem dX8_hindrance_8 : decode cX8_hindrance 8 = .ok (.iconst 1, 1) := by decide +kernel
theorem dX8_hindrance_9 : decode cX8_hindrance 9 = .ok (.ireturn, 1) := by decide +kernel
theorem dX8_hindrance_10 : decode cX8_hindrance 10 = .ok (.aload_n 1, 1) := by decide +kernel
theorem dX8_hindrance_11 : decode cX8_hindrance 11 = .ok (.getfield 232, 3) := by decide +kernel
theorem dX8_hindrance_14 : decode cX8_hindrance 14 = .ok (.iload_n 3, 1) := by decide +kernel
theorem dX8_hindrance_15 : decode cX8_hindrance 15 = .ok (.if_icmp .eq 5, 3) := by decide +kernel
theorem dX8_hindrance_18 : decode cX8_hindrance 18 = .ok (.iconst 2, 1) := by decide +kernel
theorem dX8_hindrance_19 : decode cX8_hindrance 19 = .ok (.ireturn, 1) := by decide +kernel
theorem dX8_hindrance_20 : decode cX8_hindrance 20 = .ok (.aload_n 2, 1) := by decide +kernel
theorem dX8_hindrance_21 : decode cX8_hindrance 21 = .ok (.aload_n 1, 1) := by decide +kernel
theorem dX8_hindrance_22 : decode cX8_hindrance 22 = .ok (.invokevirtual 235, 3) := by decide +kernel
theorem dX8_hindrance_25 : decode cX8_hindrance 25 = .ok (.ifCond .ne 5, 3) := by decide +kernel
theorem dX8_hindrance_28 : decode cX8_hindrance 28 = .ok (.iconst 3, 1) := by decide +kernel
theorem dX8_hindrance_29 : decode cX8_hindrance 29 = .ok (.ireturn, 1) := by decide +kernel
theorem dX8_hindrance_30 : decode cX8_hindrance 30 = .ok (.aload_n 1, 1) := by decide +kernel
theorem dX8_hindrance_31 : decode cX8_hindrance 31 = .ok (.iload 4, 2) := by decide +kernel
theorem dX8_hindrance_33 : decode cX8_hindrance 33 = .ok (.iload 5, 2) := by decide +kernel
theorem dX8_hindrance_35 : decode cX8_hindrance 35 = .ok (.invokestatic 205, 3) := by decide +kernel
theorem dX8_hindrance_38 : decode cX8_hindrance 38 = .ok (.istore 6, 2) := by decide +kernel
theorem dX8_hindrance_40 : decode cX8_hindrance 40 = .ok (.iconst 0, 1) := by decide +kernel
theorem dX8_hindrance_41 : decode cX8_hindrance 41 = .ok (.istore 7, 2) := by decide +kernel
theorem dX8_hindrance_43 : decode cX8_hindrance 43 = .ok (.iload 7, 2) := by decide +kernel
theorem dX8_hindrance_45 : decode cX8_hindrance 45 = .ok (.iload 6, 2) := by decide +kernel
theorem dX8_hindrance_47 : decode cX8_hindrance 47 = .ok (.if_icmp .ge 36, 3) := by decide +kernel
theorem dX8_hindrance_50 : decode cX8_hindrance 50 = .ok (.aload_n 1, 1) := by decide +kernel
theorem dX8_hindrance_51 : decode cX8_hindrance 51 = .ok (.aload_n 1, 1) := by decide +kernel
theorem dX8_hindrance_52 : decode cX8_hindrance 52 = .ok (.iload 7, 2) := by decide +kernel
theorem dX8_hindrance_54 : decode cX8_hindrance 54 = .ok (.invokevirtual 212, 3) := by decide +kernel
theorem dX8_hindrance_57 : decode cX8_hindrance 57 = .ok (.aload_n 0, 1) := by decide +kernel
theorem dX8_hindrance_58 : decode cX8_hindrance 58 = .ok (.iload 4, 2) := by decide +kernel
theorem dX8_hindrance_60 : decode cX8_hindrance 60 = .ok (.iload 5, 2) := by decide +kernel
theorem dX8_hindrance_62 : decode cX8_hindrance 62 = .ok (.iload 7, 2) := by decide +kernel
theorem dX8_hindrance_64 : decode cX8_hindrance 64 = .ok (.imul, 1) := by decide +kernel
theorem dX8_hindrance_65 : decode cX8_hindrance 65 = .ok (.iadd, 1) := by decide +kernel
theorem dX8_hindrance_66 : decode cX8_hindrance 66 = .ok (.invokevirtual 215, 3) := by decide +kernel
theorem dX8_hindrance_69 : decode cX8_hindrance 69 = .ok (.invokevirtual 239, 3) := by decide +kernel
theorem dX8_hindrance_72 : decode cX8_hindrance 72 = .ok (.ifCond .eq 5, 3) := by decide +kernel
theorem dX8_hindrance_75 : decode cX8_hindrance 75 = .ok (.iconst 4, 1) := by decide +kernel
theorem dX8_hindrance_76 : decode cX8_hindrance 76 = .ok (.ireturn, 1) := by decide +kernel
theorem dX8_hindrance_77 : decode cX8_hindrance 77 = .ok (.iinc 7 1, 3) := by decide +kernel
theorem dX8_hindrance_80 : decode cX8_hindrance 80 = .ok (.goto (-37), 3) := by decide +kernel
theorem dX8_hindrance_83 : decode cX8_hindrance 83 = .ok (.iconst 0, 1) := by decide +kernel
theorem dX8_hindrance_84 : decode cX8_hindrance 84 = .ok (.ireturn, 1) := by decide +kernel
