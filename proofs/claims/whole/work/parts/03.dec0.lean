theorem dJ0_length_8abf5_0 : decode cJ0_length_8abf5 0 = .ok (.aload_n 0, 1) := by decide +kernel
theorem dJ0_length_8abf5_1 : decode cJ0_length_8abf5 1 = .ok (.getfield 9, 3) := by decide +kernel
theorem dJ0_length_8abf5_4 : decode cJ0_length_8abf5 4 = .ok (.arraylength, 1) := by decide +kernel
theorem dJ0_length_8abf5_5 : decode cJ0_length_8abf5 5 = .ok (.aload_n 0, 1) := by decide +kernel
theorem dJ0_length_8abf5_6 : decode cJ0_length_8abf5 6 = .ok (.invokevirtual 335, 3) := by decide +kernel
theorem dJ0_length_8abf5_9 : decode cJ0_length_8abf5 9 = .ok (.ishr, 1) := by decide +kernel
theorem dJ0_length_8abf5_10 : decode cJ0_length_8abf5 10 = .ok (.ireturn, 1) := by decide +kernel
theorem dJ0_charAt_5068e_0 : decode cJ0_charAt_5068e 0 = .ok (.aload_n 0, 1) := by decide +kernel
theorem dJ0_charAt_5068e_1 : decode cJ0_charAt_5068e 1 = .ok (.invokevirtual 492, 3) := by decide +kernel
theorem dJ0_charAt_5068e_4 : decode cJ0_charAt_5068e 4 = .ok (.ifCond .eq 12, 3) := by decide +kernel
theorem dJ0_charAt_5068e_7 : decode cJ0_charAt_5068e 7 = .ok (.aload_n 0, 1) := by decide +kernel
theorem dJ0_charAt_5068e_8 : decode cJ0_charAt_5068e 8 = .ok (.getfield 9, 3) := by decide +kernel
theorem dJ0_charAt_5068e_11 : decode cJ0_charAt_5068e 11 = .ok (.iload_n 1, 1) := by decide +kernel
theorem dJ0_charAt_5068e_12 : decode cJ0_charAt_5068e 12 = .ok (.invokestatic 495, 3) := by decide +kernel
theorem dJ0_charAt_5068e_15 : decode cJ0_charAt_5068e 15 = .ok (.ireturn, 1) := by decide +kernel
theorem dJ0_charAt_5068e_16 : decode cJ0_charAt_5068e 16 = .ok (.aload_n 0, 1) := by decide +kernel
theorem dJ0_charAt_5068e_17 : decode cJ0_charAt_5068e 17 = .ok (.getfield 9, 3) := by decide +kernel
theorem dJ0_charAt_5068e_20 : decode cJ0_charAt_5068e 20 = .ok (.iload_n 1, 1) := by decide +kernel
theorem dJ0_charAt_5068e_21 : decode cJ0_charAt_5068e 21 = .ok (.invokestatic 498, 3) := by decide +kernel
theorem dJ0_charAt_5068e_24 : decode cJ0_charAt_5068e 24 = .ok (.ireturn, 1) := by decide +kernel
theorem dJ0_coder_7d493_0 : decode cJ0_coder_7d493 0 = .ok (.getstatic 38, 3) := by decide +kernel
theorem dJ0_coder_7d493_3 : decode cJ0_coder_7d493 3 = .ok (.ifCond .eq 10, 3) := by decide +kernel
theorem dJ0_coder_7d493_6 : decode cJ0_coder_7d493 6 = .ok (.aload_n 0, 1) := by decide +kernel
theorem dJ0_coder_7d493_7 : decode cJ0_coder_7d493 7 = .ok (.getfield 15, 3) := by decide +kernel
theorem dJ0_coder_7d493_10 : decode cJ0_coder_7d493 10 = .ok (.goto 4, 3) := by decide +kernel
theorem dJ0_coder_7d493_13 : decode cJ0_coder_7d493 13 = .ok (.iconst 1, 1) := by decide +kernel
theorem dJ0_coder_7d493_14 : decode cJ0_coder_7d493 14 = .ok (.ireturn, 1) := by decide +kernel
theorem dJ0_isLatin1_aae02_0 : decode cJ0_isLatin1_aae02 0 = .ok (.getstatic 38, 3) := by decide +kernel
theorem dJ0_isLatin1_aae02_3 : decode cJ0_isLatin1_aae02 3 = .ok (.ifCond .eq 14, 3) := by decide +kernel
theorem dJ0_isLatin1_aae02_6 : decode cJ0_isLatin1_aae02 6 = .ok (.aload_n 0, 1) := by decide +kernel
theorem dJ0_isLatin1_aae02_7 : decode cJ0_isLatin1_aae02 7 = .ok (.getfield 15, 3) := by decide +kernel
theorem dJ0_isLatin1_aae02_10 : decode cJ0_isLatin1_aae02 10 = .ok (.ifCond .ne 7, 3) := by decide +kernel
theorem dJ0_isLatin1_aae02_13 : decode cJ0_isLatin1_aae02 13 = .ok (.iconst 1, 1) := by decide +kernel
theorem dJ0_isLatin1_aae02_14 : decode cJ0_isLatin1_aae02 14 = .ok (.goto 4, 3) := by decide +kernel
theorem dJ0_isLatin1_aae02_17 : decode cJ0_isLatin1_aae02 17 = .ok (.iconst 0, 1) := by decide +kernel
theorem dJ0_isLatin1_aae02_18 : decode cJ0_isLatin1_aae02 18 = .ok (.ireturn, 1) := by decide +kernel
theorem dJ0_checkIndex_df160_0 : decode cJ0_checkIndex_df160 0 = .ok (.iload_n 0, 1) := by decide +kernel
theorem dJ0_checkIndex_df160_1 : decode cJ0_checkIndex_df160 1 = .ok (.iload_n 1, 1) := by decide +kernel
theorem dJ0_checkIndex_df160_2 : decode cJ0_checkIndex_df160 2 = .ok (.getstatic 1053, 3) := by decide +kernel
theorem dJ0_checkIndex_df160_5 : decode cJ0_checkIndex_df160 5 = .ok (.invokestatic 1059, 3) := by decide +kernel
theorem dJ0_checkIndex_df160_8 : decode cJ0_checkIndex_df160 8 = .ok (.pop, 1) := by decide +kernel
theorem dJ0_checkIndex_df160_9 : decode cJ0_checkIndex_df160 9 = .ok (.return_, 1) := by decide +kernel
theorem dJ1_charAt_3b067_0 : decode cJ1_charAt_3b067 0 = .ok (.iload_n 1, 1) := by decide +kernel
theorem dJ1_charAt_3b067_1 : decode cJ1_charAt_3b067 1 = .ok (.aload_n 0, 1) := by decide +kernel
theorem dJ1_charAt_3b067_2 : decode cJ1_charAt_3b067 2 = .ok (.arraylength, 1) := by decide +kernel
theorem dJ1_charAt_3b067_3 : decode cJ1_charAt_3b067 3 = .ok (.invokestatic 9, 3) := by decide +kernel
theorem dJ1_charAt_3b067_6 : decode cJ1_charAt_3b067 6 = .ok (.aload_n 0, 1) := by decide +kernel
theorem dJ1_charAt_3b067_7 : decode cJ1_charAt_3b067 7 = .ok (.iload_n 1, 1) := by decide +kernel
theorem dJ1_charAt_3b067_8 : decode cJ1_charAt_3b067 8 = .ok (.baload, 1) := by decide +kernel
theorem dJ1_charAt_3b067_9 : decode cJ1_charAt_3b067 9 = .ok (.sipush 255, 3) := by decide +kernel
theorem dJ1_charAt_3b067_12 : decode cJ1_charAt_3b067 12 = .ok (.iand, 1) := by decide +kernel
theorem dJ1_charAt_3b067_13 : decode cJ1_charAt_3b067 13 = .ok (.i2c, 1) := by decide +kernel
theorem dJ1_charAt_3b067_14 : decode cJ1_charAt_3b067 14 = .ok (.ireturn, 1) := by decide +kernel
theorem dJ2_getChar_3b067_0 : decode cJ2_getChar_3b067 0 = .ok (.getstatic 44, 3) := by decide +kernel
theorem dJ2_getChar_3b067_3 : decode cJ2_getChar_3b067 3 = .ok (.ifCond .ne 25, 3) := by decide +kernel
theorem dJ2_getChar_3b067_6 : decode cJ2_getChar_3b067 6 = .ok (.iload_n 1, 1) := by decide +kernel
theorem dJ2_getChar_3b067_7 : decode cJ2_getChar_3b067 7 = .ok (.ifCond .lt 11, 3) := by decide +kernel
theorem dJ2_getChar_3b067_10 : decode cJ2_getChar_3b067 10 = .ok (.iload_n 1, 1) := by decide +kernel
theorem dJ2_getChar_3b067_11 : decode cJ2_getChar_3b067 11 = .ok (.aload_n 0, 1) := by decide +kernel
theorem dJ2_getChar_3b067_12 : decode cJ2_getChar_3b067 12 = .ok (.invokestatic 48, 3) := by decide +kernel
theorem dJ2_getChar_3b067_15 : decode cJ2_getChar_3b067 15 = .ok (.if_icmp .lt 13, 3) := by decide +kernel
theorem dJ2_getChar_3b067_18 : decode cJ2_getChar_3b067 18 = .ok (.new 52, 3) := by decide +kernel
theorem dJ2_getChar_3b067_21 : decode cJ2_getChar_3b067 21 = .ok (.dup, 1) := by decide +kernel
theorem dJ2_getChar_3b067_22 : decode cJ2_getChar_3b067 22 = .ok (.ldc 54, 2) := by decide +kernel
theorem dJ2_getChar_3b067_24 : decode cJ2_getChar_3b067 24 = .ok (.invokespecial 56, 3) := by decide +kernel
theorem dJ2_getChar_3b067_27 : decode cJ2_getChar_3b067 27 = .ok (.athrow, 1) := by decide +kernel
theorem dJ2_getChar_3b067_28 : decode cJ2_getChar_3b067 28 = .ok (.iload_n 1, 1) := by decide +kernel
theorem dJ2_getChar_3b067_29 : decode cJ2_getChar_3b067 29 = .ok (.iconst 1, 1) := by decide +kernel
theorem dJ2_getChar_3b067_30 : decode cJ2_getChar_3b067 30 = .ok (.ishl, 1) := by decide +kernel
theorem dJ2_getChar_3b067_31 : decode cJ2_getChar_3b067 31 = .ok (.istore_n 1, 1) := by decide +kernel
theorem dJ2_getChar_3b067_32 : decode cJ2_getChar_3b067 32 = .ok (.aload_n 0, 1) := by decide +kernel
theorem dJ2_getChar_3b067_33 : decode cJ2_getChar_3b067 33 = .ok (.iload_n 1, 1) := by decide +kernel
theorem dJ2_getChar_3b067_34 : decode cJ2_getChar_3b067 34 = .ok (.iinc 1 1, 3) := by decide +kernel
theorem dJ2_getChar_3b067_37 : decode cJ2_getChar_3b067 37 = .ok (.baload, 1) := by decide +kernel
theorem dJ2_getChar_3b067_38 : decode cJ2_getChar_3b067 38 = .ok (.sipush 255, 3) := by decide +kernel
theorem dJ2_getChar_3b067_41 : decode cJ2_getChar_3b067 41 = .ok (.iand, 1) := by decide +kernel
theorem dJ2_getChar_3b067_42 : decode cJ2_getChar_3b067 42 = .ok (.getstatic 59, 3) := by decide +kernel
theorem dJ2_getChar_3b067_45 : decode cJ2_getChar_3b067 45 = .ok (.ishl, 1) := by decide +kernel
theorem dJ2_getChar_3b067_46 : decode cJ2_getChar_3b067 46 = .ok (.aload_n 0, 1) := by decide +kernel
theorem dJ2_getChar_3b067_47 : decode cJ2_getChar_3b067 47 = .ok (.iload_n 1, 1) := by decide +kernel
theorem dJ2_getChar_3b067_48 : decode cJ2_getChar_3b067 48 = .ok (.baload, 1) := by decide +kernel
theorem dJ2_getChar_3b067_49 : decode cJ2_getChar_3b067 49 = .ok (.sipush 255, 3) := by decide +kernel
theorem dJ2_getChar_3b067_52 : decode cJ2_getChar_3b067 52 = .ok (.iand, 1) := by decide +kernel
theorem dJ2_getChar_3b067_53 : decode cJ2_getChar_3b067 53 = .ok (.getstatic 63, 3) := by decide +kernel
theorem dJ2_getChar_3b067_56 : decode cJ2_getChar_3b067 56 = .ok (.ishl, 1) := by decide +kernel
theorem dJ2_getChar_3b067_57 : decode cJ2_getChar_3b067 57 = .ok (.ior, 1) := by decide +kernel
theorem dJ2_getChar_3b067_58 : decode cJ2_getChar_3b067 58 = .ok (.i2c, 1) := by decide +kernel
theorem dJ2_getChar_3b067_59 : decode cJ2_getChar_3b067 59 = .ok (.ireturn, 1) := by decide +kernel
theorem dJ2_length_9d52b_0 : decode cJ2_length_9d52b 0 = .ok (.aload_n 0, 1) := by decide +kernel
theorem dJ2_length_9d52b_1 : decode cJ2_length_9d52b 1 = .ok (.arraylength, 1) := by decide +kernel
theorem dJ2_length_9d52b_2 : decode cJ2_length_9d52b 2 = .ok (.iconst 1, 1) := by decide +kernel
theorem dJ2_length_9d52b_3 : decode cJ2_length_9d52b 3 = .ok (.ishr, 1) := by decide +kernel
theorem dJ2_length_9d52b_4 : decode cJ2_length_9d52b 4 = .ok (.ireturn, 1) := by decide +kernel
theorem dJ2_charAt_3b067_0 : decode cJ2_charAt_3b067 0 = .ok (.iload_n 1, 1) := by decide +kernel
theorem dJ2_charAt_3b067_1 : decode cJ2_charAt_3b067 1 = .ok (.aload_n 0, 1) := by decide +kernel
theorem dJ2_charAt_3b067_2 : decode cJ2_charAt_3b067 2 = .ok (.invokestatic 67, 3) := by decide +kernel
theorem dJ2_charAt_3b067_5 : decode cJ2_charAt_3b067 5 = .ok (.aload_n 0, 1) := by decide +kernel
theorem dJ2_charAt_3b067_6 : decode cJ2_charAt_3b067 6 = .ok (.iload_n 1, 1) := by decide +kernel
theorem dJ2_charAt_3b067_7 : decode cJ2_charAt_3b067 7 = .ok (.invokestatic 71, 3) := by decide +kernel
theorem dJ2_charAt_3b067_10 : decode cJ2_charAt_3b067 10 = .ok (.ireturn, 1) := by decide +kernel
theorem dJ2_checkIndex_2214a_0 : decode cJ2_checkIndex_2214a 0 = .ok (.iload_n 0, 1) := by decide +kernel
theorem dJ2_checkIndex_2214a_1 : decode cJ2_checkIndex_2214a 1 = .ok (.aload_n 1, 1) := by decide +kernel
theorem dJ2_checkIndex_2214a_2 : decode cJ2_checkIndex_2214a 2 = .ok (.invokestatic 48, 3) := by decide +kernel
theorem dJ2_checkIndex_2214a_5 : decode cJ2_checkIndex_2214a 5 = .ok (.invokestatic 414, 3) := by decide +kernel
theorem dJ2_checkIndex_2214a_8 : decode cJ2_checkIndex_2214a 8 = .ok (.return_, 1) := by decide +kernel
theorem dJ3_checkIndex_8e157_0 : decode cJ3_checkIndex_8e157 0 = .ok (.iload_n 0, 1) := by decide +kernel
theorem dJ3_checkIndex_8e157_1 : decode cJ3_checkIndex_8e157 1 = .ok (.ifCond .lt 8, 3) := by decide +kernel
theorem dJ3_checkIndex_8e157_4 : decode cJ3_checkIndex_8e157 4 = .ok (.iload_n 0, 1) := by decide +kernel
theorem dJ3_checkIndex_8e157_5 : decode cJ3_checkIndex_8e157 5 = .ok (.iload_n 1, 1) := by decide +kernel
theorem dJ3_checkIndex_8e157_6 : decode cJ3_checkIndex_8e157 6 = .ok (.if_icmp .lt 10, 3) := by decide +kernel
theorem dJ3_checkIndex_8e157_9 : decode cJ3_checkIndex_8e157 9 = .ok (.aload_n 2, 1) := by decide +kernel
theorem dJ3_checkIndex_8e157_10 : decode cJ3_checkIndex_8e157 10 = .ok (.iload_n 0, 1) := by decide +kernel
theorem dJ3_checkIndex_8e157_11 : decode cJ3_checkIndex_8e157 11 = .ok (.iload_n 1, 1) := by decide +kernel
theorem dJ3_checkIndex_8e157_12 : decode cJ3_checkIndex_8e157 12 = .ok (.invokestatic 95, 3) := by decide +kernel
theorem dJ3_checkIndex_8e157_15 : decode cJ3_checkIndex_8e157 15 = .ok (.athrow, 1) := by decide +kernel
theorem dJ3_checkIndex_8e157_16 : decode cJ3_checkIndex_8e157 16 = .ok (.iload_n 0, 1) := by decide +kernel
theorem dJ3_checkIndex_8e157_17 : decode cJ3_checkIndex_8e157 17 = .ok (.ireturn, 1) := by decide +kernel
theorem dJ6_bitCount_0f7a4_0 : decode cJ6_bitCount_0f7a4 0 = .ok (.iload_n 0, 1) := by decide +kernel
theorem dJ6_bitCount_0f7a4_1 : decode cJ6_bitCount_0f7a4 1 = .ok (.iload_n 0, 1) := by decide +kernel
theorem dJ6_bitCount_0f7a4_2 : decode cJ6_bitCount_0f7a4 2 = .ok (.iconst 1, 1) := by decide +kernel
theorem dJ6_bitCount_0f7a4_3 : decode cJ6_bitCount_0f7a4 3 = .ok (.iushr, 1) := by decide +kernel
theorem dJ6_bitCount_0f7a4_4 : decode cJ6_bitCount_0f7a4 4 = .ok (.ldc_w 265, 3) := by decide +kernel
theorem dJ6_bitCount_0f7a4_7 : decode cJ6_bitCount_0f7a4 7 = .ok (.iand, 1) := by decide +kernel
theorem dJ6_bitCount_0f7a4_8 : decode cJ6_bitCount_0f7a4 8 = .ok (.isub, 1) := by decide +kernel
theorem dJ6_bitCount_0f7a4_9 : decode cJ6_bitCount_0f7a4 9 = .ok (.istore_n 0, 1) := by decide +kernel
theorem dJ6_bitCount_0f7a4_10 : decode cJ6_bitCount_0f7a4 10 = .ok (.iload_n 0, 1) := by decide +kernel
theorem dJ6_bitCount_0f7a4_11 : decode cJ6_bitCount_0f7a4 11 = .ok (.ldc_w 266, 3) := by decide +kernel
theorem dJ6_bitCount_0f7a4_14 : decode cJ6_bitCount_0f7a4 14 = .ok (.iand, 1) := by decide +kernel
theorem dJ6_bitCount_0f7a4_15 : decode cJ6_bitCount_0f7a4 15 = .ok (.iload_n 0, 1) := by decide +kernel
theorem dJ6_bitCount_0f7a4_16 : decode cJ6_bitCount_0f7a4 16 = .ok (.iconst 2, 1) := by decide +kernel
theorem dJ6_bitCount_0f7a4_17 : decode cJ6_bitCount_0f7a4 17 = .ok (.iushr, 1) := by decide +kernel
theorem dJ6_bitCount_0f7a4_18 : decode cJ6_bitCount_0f7a4 18 = .ok (.ldc_w 266, 3) := by decide +kernel
theorem dJ6_bitCount_0f7a4_21 : decode cJ6_bitCount_0f7a4 21 = .ok (.iand, 1) := by decide +kernel
theorem dJ6_bitCount_0f7a4_22 : decode cJ6_bitCount_0f7a4 22 = .ok (.iadd, 1) := by decide +kernel
theorem dJ6_bitCount_0f7a4_23 : decode cJ6_bitCount_0f7a4 23 = .ok (.istore_n 0, 1) := by decide +kernel
theorem dJ6_bitCount_0f7a4_24 : decode cJ6_bitCount_0f7a4 24 = .ok (.iload_n 0, 1) := by decide +kernel
theorem dJ6_bitCount_0f7a4_25 : decode cJ6_bitCount_0f7a4 25 = .ok (.iload_n 0, 1) := by decide +kernel
theorem dJ6_bitCount_0f7a4_26 : decode cJ6_bitCount_0f7a4 26 = .ok (.iconst 4, 1) := by decide +kernel
theorem dJ6_bitCount_0f7a4_27 : decode cJ6_bitCount_0f7a4 27 = .ok (.iushr, 1) := by decide +kernel
theorem dJ6_bitCount_0f7a4_28 : decode cJ6_bitCount_0f7a4 28 = .ok (.iadd, 1) := by decide +kernel
theorem dJ6_bitCount_0f7a4_29 : decode cJ6_bitCount_0f7a4 29 = .ok (.ldc_w 267, 3) := by decide +kernel
theorem dJ6_bitCount_0f7a4_32 : decode cJ6_bitCount_0f7a4 32 = .ok (.iand, 1) := by decide +kernel
theorem dJ6_bitCount_0f7a4_33 : decode cJ6_bitCount_0f7a4 33 = .ok (.istore_n 0, 1) := by decide +kernel
theorem dJ6_bitCount_0f7a4_34 : decode cJ6_bitCount_0f7a4 34 = .ok (.iload_n 0, 1) := by decide +kernel
theorem dJ6_bitCount_0f7a4_35 : decode cJ6_bitCount_0f7a4 35 = .ok (.iload_n 0, 1) := by decide +kernel
theorem dJ6_bitCount_0f7a4_36 : decode cJ6_bitCount_0f7a4 36 = .ok (.bipush 8, 2) := by decide +kernel
theorem dJ6_bitCount_0f7a4_38 : decode cJ6_bitCount_0f7a4 38 = .ok (.iushr, 1) := by decide +kernel
theorem dJ6_bitCount_0f7a4_39 : decode cJ6_bitCount_0f7a4 39 = .ok (.iadd, 1) := by decide +kernel
theorem dJ6_bitCount_0f7a4_40 : decode cJ6_bitCount_0f7a4 40 = .ok (.istore_n 0, 1) := by decide +kernel
theorem dJ6_bitCount_0f7a4_41 : decode cJ6_bitCount_0f7a4 41 = .ok (.iload_n 0, 1) := by decide +kernel
theorem dJ6_bitCount_0f7a4_42 : decode cJ6_bitCount_0f7a4 42 = .ok (.iload_n 0, 1) := by decide +kernel
theorem dJ6_bitCount_0f7a4_43 : decode cJ6_bitCount_0f7a4 43 = .ok (.bipush 16, 2) := by decide +kernel
theorem dJ6_bitCount_0f7a4_45 : decode cJ6_bitCount_0f7a4 45 = .ok (.iushr, 1) := by decide +kernel
theorem dJ6_bitCount_0f7a4_46 : decode cJ6_bitCount_0f7a4 46 = .ok (.iadd, 1) := by decide +kernel
theorem dJ6_bitCount_0f7a4_47 : decode cJ6_bitCount_0f7a4 47 = .ok (.istore_n 0, 1) := by decide +kernel
theorem dJ6_bitCount_0f7a4_48 : decode cJ6_bitCount_0f7a4 48 = .ok (.iload_n 0, 1) := by decide +kernel
theorem dJ6_bitCount_0f7a4_49 : decode cJ6_bitCount_0f7a4 49 = .ok (.bipush 63, 2) := by decide +kernel
theorem dJ6_bitCount_0f7a4_51 : decode cJ6_bitCount_0f7a4 51 = .ok (.iand, 1) := by decide +kernel
theorem dJ6_bitCount_0f7a4_52 : decode cJ6_bitCount_0f7a4 52 = .ok (.ireturn, 1) := by decide +kernel
theorem dJ9_abs_0f7a4_0 : decode cJ9_abs_0f7a4 0 = .ok (.iload_n 0, 1) := by decide +kernel
theorem dJ9_abs_0f7a4_1 : decode cJ9_abs_0f7a4 1 = .ok (.ifCond .ge 8, 3) := by decide +kernel
theorem dJ9_abs_0f7a4_4 : decode cJ9_abs_0f7a4 4 = .ok (.iload_n 0, 1) := by decide +kernel
theorem dJ9_abs_0f7a4_5 : decode cJ9_abs_0f7a4 5 = .ok (.ineg, 1) := by decide +kernel
theorem dJ9_abs_0f7a4_6 : decode cJ9_abs_0f7a4 6 = .ok (.goto 4, 3) := by decide +kernel
theorem dJ9_abs_0f7a4_9 : decode cJ9_abs_0f7a4 9 = .ok (.iload_n 0, 1) := by decide +kernel
theorem dJ9_abs_0f7a4_10 : decode cJ9_abs_0f7a4 10 = .ok (.ireturn, 1) := by decide +kernel
theorem dJ9_max_7cf53_0 : decode cJ9_max_7cf53 0 = .ok (.iload_n 0, 1) := by decide +kernel
theorem dJ9_max_7cf53_1 : decode cJ9_max_7cf53 1 = .ok (.iload_n 1, 1) := by decide +kernel
theorem dJ9_max_7cf53_2 : decode cJ9_max_7cf53 2 = .ok (.if_icmp .lt 7, 3) := by decide +kernel
theorem dJ9_max_7cf53_5 : decode cJ9_max_7cf53 5 = .ok (.iload_n 0, 1) := by decide +kernel
theorem dJ9_max_7cf53_6 : decode cJ9_max_7cf53 6 = .ok (.goto 4, 3) := by decide +kernel
theorem dJ9_max_7cf53_9 : decode cJ9_max_7cf53 9 = .ok (.iload_n 1, 1) := by decide +kernel
theorem dJ9_max_7cf53_10 : decode cJ9_max_7cf53 10 = .ok (.ireturn, 1) := by decide +kernel
theorem dJ9_min_7cf53_0 : decode cJ9_min_7cf53 0 = .ok (.iload_n 0, 1) := by decide +kernel
theorem dJ9_min_7cf53_1 : decode cJ9_min_7cf53 1 = .ok (.iload_n 1, 1) := by decide +kernel
theorem dJ9_min_7cf53_2 : decode cJ9_min_7cf53 2 = .ok (.if_icmp .gt 7, 3) := by decide +kernel
theorem dJ9_min_7cf53_5 : decode cJ9_min_7cf53 5 = .ok (.iload_n 0, 1) := by decide +kernel
theorem dJ9_min_7cf53_6 : decode cJ9_min_7cf53 6 = .ok (.goto 4, 3) := by decide +kernel
theorem dJ9_min_7cf53_9 : decode cJ9_min_7cf53 9 = .ok (.iload_n 1, 1) := by decide +kernel
theorem dJ9_min_7cf53_10 : decode cJ9_min_7cf53 10 = .ok (.ireturn, 1) := by decide +kernel
theorem dL_law_0 : decode cL_law 0 = .ok (.new 7, 3) := by decide +kernel
theorem dL_law_3 : decode cL_law 3 = .ok (.dup, 1) := by decide +kernel
theorem dL_law_4 : decode cL_law 4 = .ok (.invokespecial 9, 3) := by decide +kernel
theorem dL_law_7 : decode cL_law 7 = .ok (.astore_n 1, 1) := by decide +kernel
theorem dL_law_8 : decode cL_law 8 = .ok (.new 10, 3) := by decide +kernel
theorem dL_law_11 : decode cL_law 11 = .ok (.dup, 1) := by decide +kernel
theorem dL_law_12 : decode cL_law 12 = .ok (.invokespecial 12, 3) := by decide +kernel
theorem dL_law_15 : decode cL_law 15 = .ok (.astore_n 2, 1) := by decide +kernel
theorem dL_law_16 : decode cL_law 16 = .ok (.iconst 0, 1) := by decide +kernel
theorem dL_law_17 : decode cL_law 17 = .ok (.istore_n 3, 1) := by decide +kernel
theorem dL_law_18 : decode cL_law 18 = .ok (.iload_n 3, 1) := by decide +kernel
theorem dL_law_19 : decode cL_law 19 = .ok (.aload_n 0, 1) := by decide +kernel
theorem dL_law_20 : decode cL_law 20 = .ok (.arraylength, 1) := by decide +kernel
theorem dL_law_21 : decode cL_law 21 = .ok (.iconst 4, 1) := by decide +kernel
theorem dL_law_22 : decode cL_law 22 = .ok (.isub, 1) := by decide +kernel
theorem dL_law_23 : decode cL_law 23 = .ok (.if_icmp .gt 887, 3) := by decide +kernel
theorem dL_law_26 : decode cL_law 26 = .ok (.aload_n 0, 1) := by decide +kernel
theorem dL_law_27 : decode cL_law 27 = .ok (.iload_n 3, 1) := by decide +kernel
theorem dL_law_28 : decode cL_law 28 = .ok (.iaload, 1) := by decide +kernel
theorem dL_law_29 : decode cL_law 29 = .ok (.bipush 31, 2) := by decide +kernel
theorem dL_law_31 : decode cL_law 31 = .ok (.iand, 1) := by decide +kernel
theorem dL_law_32 : decode cL_law 32 = .ok (.tableswitch 872 0 27 #[128, 191, 204, 217, 240, 273, 306, 339, 362, 395, 428, 461, 484, 507, 530, 563, 586, 619, 652, 685, 698, 721, 744, 777, 790, 803, 826, 849], 128) := by decide +kernel
theorem dL_law_160 : decode cL_law 160 = .ok (.aload_n 1, 1) := by decide +kernel
theorem dL_law_161 : decode cL_law 161 = .ok (.aload_n 0, 1) := by decide +kernel
theorem dL_law_162 : decode cL_law 162 = .ok (.iload_n 3, 1) := by decide +kernel
theorem dL_law_163 : decode cL_law 163 = .ok (.iconst 1, 1) := by decide +kernel
theorem dL_law_164 : decode cL_law 164 = .ok (.iadd, 1) := by decide +kernel
theorem dL_law_165 : decode cL_law 165 = .ok (.iaload, 1) := by decide +kernel
theorem dL_law_166 : decode cL_law 166 = .ok (.aload_n 0, 1) := by decide +kernel
theorem dL_law_167 : decode cL_law 167 = .ok (.iload_n 3, 1) := by decide +kernel
theorem dL_law_168 : decode cL_law 168 = .ok (.iconst 2, 1) := by decide +kernel
theorem dL_law_169 : decode cL_law 169 = .ok (.iadd, 1) := by decide +kernel
theorem dL_law_170 : decode cL_law 170 = .ok (.iaload, 1) := by decide +kernel
theorem dL_law_171 : decode cL_law 171 = .ok (.i2l, 1) := by decide +kernel
theorem dL_law_172 : decode cL_law 172 = .ok (.bipush 32, 2) := by decide +kernel
theorem dL_law_174 : decode cL_law 174 = .ok (.lshl, 1) := by decide +kernel
theorem dL_law_175 : decode cL_law 175 = .ok (.aload_n 0, 1) := by decide +kernel
theorem dL_law_176 : decode cL_law 176 = .ok (.iload_n 3, 1) := by decide +kernel
theorem dL_law_177 : decode cL_law 177 = .ok (.iconst 3, 1) := by decide +kernel
theorem dL_law_178 : decode cL_law 178 = .ok (.iadd, 1) := by decide +kernel
theorem dL_law_179 : decode cL_law 179 = .ok (.iaload, 1) := by decide +kernel
theorem dL_law_180 : decode cL_law 180 = .ok (.i2l, 1) := by decide +kernel
theorem dL_law_181 : decode cL_law 181 = .ok (.ldc2_w 13, 3) := by decide +kernel
theorem dL_law_184 : decode cL_law 184 = .ok (.land, 1) := by decide +kernel
theorem dL_law_185 : decode cL_law 185 = .ok (.lor, 1) := by decide +kernel
theorem dL_law_186 : decode cL_law 186 = .ok (.invokevirtual 15, 3) := by decide +kernel
theorem dL_law_189 : decode cL_law 189 = .ok (.aload_n 2, 1) := by decide +kernel
theorem dL_law_190 : decode cL_law 190 = .ok (.aload_n 0, 1) := by decide +kernel
theorem dL_law_191 : decode cL_law 191 = .ok (.iload_n 3, 1) := by decide +kernel
theorem dL_law_192 : decode cL_law 192 = .ok (.iconst 1, 1) := by decide +kernel
theorem dL_law_193 : decode cL_law 193 = .ok (.iadd, 1) := by decide +kernel
theorem dL_law_194 : decode cL_law 194 = .ok (.iaload, 1) := by decide +kernel
theorem dL_law_195 : decode cL_law 195 = .ok (.aload_n 0, 1) := by decide +kernel
theorem dL_law_196 : decode cL_law 196 = .ok (.iload_n 3, 1) := by decide +kernel
theorem dL_law_197 : decode cL_law 197 = .ok (.iconst 2, 1) := by decide +kernel
theorem dL_law_198 : decode cL_law 198 = .ok (.iadd, 1) := by decide +kernel
theorem dL_law_199 : decode cL_law 199 = .ok (.iaload, 1) := by decide +kernel
theorem dL_law_200 : decode cL_law 200 = .ok (.i2l, 1) := by decide +kernel
theorem dL_law_201 : decode cL_law 201 = .ok (.bipush 32, 2) := by decide +kernel
theorem dL_law_203 : decode cL_law 203 = .ok (.lshl, 1) := by decide +kernel
theorem dL_law_204 : decode cL_law 204 = .ok (.aload_n 0, 1) := by decide +kernel
theorem dL_law_205 : decode cL_law 205 = .ok (.iload_n 3, 1) := by decide +kernel
theorem dL_law_206 : decode cL_law 206 = .ok (.iconst 3, 1) := by decide +kernel
theorem dL_law_207 : decode cL_law 207 = .ok (.iadd, 1) := by decide +kernel
theorem dL_law_208 : decode cL_law 208 = .ok (.iaload, 1) := by decide +kernel
theorem dL_law_209 : decode cL_law 209 = .ok (.i2l, 1) := by decide +kernel
theorem dL_law_210 : decode cL_law 210 = .ok (.ldc2_w 13, 3) := by decide +kernel
theorem dL_law_213 : decode cL_law 213 = .ok (.land, 1) := by decide +kernel
theorem dL_law_214 : decode cL_law 214 = .ok (.lor, 1) := by decide +kernel
theorem dL_law_215 : decode cL_law 215 = .ok (.invokevirtual 19, 3) := by decide +kernel
theorem dL_law_218 : decode cL_law 218 = .ok (.if_icmp .eq 686, 3) := by decide +kernel
theorem dL_law_221 : decode cL_law 221 = .ok (.iconst 0, 1) := by decide +kernel
theorem dL_law_222 : decode cL_law 222 = .ok (.ireturn, 1) := by decide +kernel
theorem dL_law_223 : decode cL_law 223 = .ok (.aload_n 1, 1) := by decide +kernel
theorem dL_law_224 : decode cL_law 224 = .ok (.invokevirtual 20, 3) := by decide +kernel
theorem dL_law_227 : decode cL_law 227 = .ok (.aload_n 2, 1) := by decide +kernel
theorem dL_law_228 : decode cL_law 228 = .ok (.invokevirtual 24, 3) := by decide +kernel
theorem dL_law_231 : decode cL_law 231 = .ok (.if_icmp .eq 673, 3) := by decide +kernel
theorem dL_law_234 : decode cL_law 234 = .ok (.iconst 0, 1) := by decide +kernel
theorem dL_law_235 : decode cL_law 235 = .ok (.ireturn, 1) := by decide +kernel
theorem dL_law_236 : decode cL_law 236 = .ok (.aload_n 1, 1) := by decide +kernel
theorem dL_law_237 : decode cL_law 237 = .ok (.invokevirtual 25, 3) := by decide +kernel
theorem dL_law_240 : decode cL_law 240 = .ok (.aload_n 2, 1) := by decide +kernel
theorem dL_law_241 : decode cL_law 241 = .ok (.invokevirtual 28, 3) := by decide +kernel
theorem dL_law_244 : decode cL_law 244 = .ok (.if_icmp .eq 660, 3) := by decide +kernel
theorem dL_law_247 : decode cL_law 247 = .ok (.iconst 0, 1) := by decide +kernel
theorem dL_law_248 : decode cL_law 248 = .ok (.ireturn, 1) := by decide +kernel
theorem dL_law_249 : decode cL_law 249 = .ok (.aload_n 1, 1) := by decide +kernel
theorem dL_law_250 : decode cL_law 250 = .ok (.aload_n 0, 1) := by decide +kernel
theorem dL_law_251 : decode cL_law 251 = .ok (.iload_n 3, 1) := by decide +kernel
theorem dL_law_252 : decode cL_law 252 = .ok (.iconst 1, 1) := by decide +kernel
theorem dL_law_253 : decode cL_law 253 = .ok (.iadd, 1) := by decide +kernel
theorem dL_law_254 : decode cL_law 254 = .ok (.iaload, 1) := by decide +kernel
theorem dL_law_255 : decode cL_law 255 = .ok (.invokevirtual 29, 3) := by decide +kernel
theorem dL_law_258 : decode cL_law 258 = .ok (.aload_n 2, 1) := by decide +kernel
theorem dL_law_259 : decode cL_law 259 = .ok (.aload_n 0, 1) := by decide +kernel
theorem dL_law_260 : decode cL_law 260 = .ok (.iload_n 3, 1) := by decide +kernel
theorem dL_law_261 : decode cL_law 261 = .ok (.iconst 1, 1) := by decide +kernel
theorem dL_law_262 : decode cL_law 262 = .ok (.iadd, 1) := by decide +kernel
theorem dL_law_263 : decode cL_law 263 = .ok (.iaload, 1) := by decide +kernel
theorem dL_law_264 : decode cL_law 264 = .ok (.invokevirtual 33, 3) := by decide +kernel
theorem dL_law_267 : decode cL_law 267 = .ok (.if_icmp .eq 637, 3) := by decide +kernel
theorem dL_law_270 : decode cL_law 270 = .ok (.iconst 0, 1) := by decide +kernel
theorem dL_law_271 : decode cL_law 271 = .ok (.ireturn, 1) := by decide +kernel
theorem dL_law_272 : decode cL_law 272 = .ok (.aload_n 1, 1) := by decide +kernel
theorem dL_law_273 : decode cL_law 273 = .ok (.aload_n 0, 1) := by decide +kernel
theorem dL_law_274 : decode cL_law 274 = .ok (.iload_n 3, 1) := by decide +kernel
theorem dL_law_275 : decode cL_law 275 = .ok (.iconst 1, 1) := by decide +kernel
theorem dL_law_276 : decode cL_law 276 = .ok (.iadd, 1) := by decide +kernel
theorem dL_law_277 : decode cL_law 277 = .ok (.iaload, 1) := by decide +kernel
theorem dL_law_278 : decode cL_law 278 = .ok (.aload_n 0, 1) := by decide +kernel
theorem dL_law_279 : decode cL_law 279 = .ok (.iload_n 3, 1) := by decide +kernel
theorem dL_law_280 : decode cL_law 280 = .ok (.iconst 2, 1) := by decide +kernel
theorem dL_law_281 : decode cL_law 281 = .ok (.iadd, 1) := by decide +kernel
theorem dL_law_282 : decode cL_law 282 = .ok (.iaload, 1) := by decide +kernel
theorem dL_law_283 : decode cL_law 283 = .ok (.invokevirtual 34, 3) := by decide +kernel
theorem dL_law_286 : decode cL_law 286 = .ok (.aload_n 2, 1) := by decide +kernel
theorem dL_law_287 : decode cL_law 287 = .ok (.aload_n 0, 1) := by decide +kernel
theorem dL_law_288 : decode cL_law 288 = .ok (.iload_n 3, 1) := by decide +kernel
theorem dL_law_289 : decode cL_law 289 = .ok (.iconst 1, 1) := by decide +kernel
theorem dL_law_290 : decode cL_law 290 = .ok (.iadd, 1) := by decide +kernel
theorem dL_law_291 : decode cL_law 291 = .ok (.iaload, 1) := by decide +kernel
theorem dL_law_292 : decode cL_law 292 = .ok (.aload_n 0, 1) := by decide +kernel
theorem dL_law_293 : decode cL_law 293 = .ok (.iload_n 3, 1) := by decide +kernel
theorem dL_law_294 : decode cL_law 294 = .ok (.iconst 2, 1) := by decide +kernel
theorem dL_law_295 : decode cL_law 295 = .ok (.iadd, 1) := by decide +kernel
theorem dL_law_296 : decode cL_law 296 = .ok (.iaload, 1) := by decide +kernel
theorem dL_law_297 : decode cL_law 297 = .ok (.invokevirtual 38, 3) := by decide +kernel
theorem dL_law_300 : decode cL_law 300 = .ok (.if_icmp .eq 604, 3) := by decide +kernel
theorem dL_law_303 : decode cL_law 303 = .ok (.iconst 0, 1) := by decide +kernel
theorem dL_law_304 : decode cL_law 304 = .ok (.ireturn, 1) := by decide +kernel
theorem dL_law_305 : decode cL_law 305 = .ok (.aload_n 1, 1) := by decide +kernel
theorem dL_law_306 : decode cL_law 306 = .ok (.aload_n 0, 1) := by decide +kernel
theorem dL_law_307 : decode cL_law 307 = .ok (.iload_n 3, 1) := by decide +kernel
theorem dL_law_308 : decode cL_law 308 = .ok (.iconst 1, 1) := by decide +kernel
theorem dL_law_309 : decode cL_law 309 = .ok (.iadd, 1) := by decide +kernel
theorem dL_law_310 : decode cL_law 310 = .ok (.iaload, 1) := by decide +kernel
theorem dL_law_311 : decode cL_law 311 = .ok (.aload_n 0, 1) := by decide +kernel
theorem dL_law_312 : decode cL_law 312 = .ok (.iload_n 3, 1) := by decide +kernel
theorem dL_law_313 : decode cL_law 313 = .ok (.iconst 2, 1) := by decide +kernel
theorem dL_law_314 : decode cL_law 314 = .ok (.iadd, 1) := by decide +kernel
theorem dL_law_315 : decode cL_law 315 = .ok (.iaload, 1) := by decide +kernel
theorem dL_law_316 : decode cL_law 316 = .ok (.invokevirtual 39, 3) := by decide +kernel
theorem dL_law_319 : decode cL_law 319 = .ok (.aload_n 2, 1) := by decide +kernel
theorem dL_law_320 : decode cL_law 320 = .ok (.aload_n 0, 1) := by decide +kernel
theorem dL_law_321 : decode cL_law 321 = .ok (.iload_n 3, 1) := by decide +kernel
theorem dL_law_322 : decode cL_law 322 = .ok (.iconst 1, 1) := by decide +kernel
theorem dL_law_323 : decode cL_law 323 = .ok (.iadd, 1) := by decide +kernel
theorem dL_law_324 : decode cL_law 324 = .ok (.iaload, 1) := by decide +kernel
theorem dL_law_325 : decode cL_law 325 = .ok (.aload_n 0, 1) := by decide +kernel
theorem dL_law_326 : decode cL_law 326 = .ok (.iload_n 3, 1) := by decide +kernel
theorem dL_law_327 : decode cL_law 327 = .ok (.iconst 2, 1) := by decide +kernel
theorem dL_law_328 : decode cL_law 328 = .ok (.iadd, 1) := by decide +kernel
theorem dL_law_329 : decode cL_law 329 = .ok (.iaload, 1) := by decide +kernel
theorem dL_law_330 : decode cL_law 330 = .ok (.invokevirtual 42, 3) := by decide +kernel
theorem dL_law_333 : decode cL_law 333 = .ok (.if_icmp .eq 571, 3) := by decide +kernel
theorem dL_law_336 : decode cL_law 336 = .ok (.iconst 0, 1) := by decide +kernel
theorem dL_law_337 : decode cL_law 337 = .ok (.ireturn, 1) := by decide +kernel
theorem dL_law_338 : decode cL_law 338 = .ok (.aload_n 1, 1) := by decide +kernel
theorem dL_law_339 : decode cL_law 339 = .ok (.aload_n 0, 1) := by decide +kernel
theorem dL_law_340 : decode cL_law 340 = .ok (.iload_n 3, 1) := by decide +kernel
theorem dL_law_341 : decode cL_law 341 = .ok (.iconst 1, 1) := by decide +kernel
theorem dL_law_342 : decode cL_law 342 = .ok (.iadd, 1) := by decide +kernel
theorem dL_law_343 : decode cL_law 343 = .ok (.iaload, 1) := by decide +kernel
theorem dL_law_344 : decode cL_law 344 = .ok (.aload_n 0, 1) := by decide +kernel
theorem dL_law_345 : decode cL_law 345 = .ok (.iload_n 3, 1) := by decide +kernel
theorem dL_law_346 : decode cL_law 346 = .ok (.iconst 2, 1) := by decide +kernel
theorem dL_law_347 : decode cL_law 347 = .ok (.iadd, 1) := by decide +kernel
theorem dL_law_348 : decode cL_law 348 = .ok (.iaload, 1) := by decide +kernel
theorem dL_law_349 : decode cL_law 349 = .ok (.invokevirtual 43, 3) := by decide +kernel
theorem dL_law_352 : decode cL_law 352 = .ok (.aload_n 2, 1) := by decide +kernel
theorem dL_law_353 : decode cL_law 353 = .ok (.aload_n 0, 1) := by decide +kernel
theorem dL_law_354 : decode cL_law 354 = .ok (.iload_n 3, 1) := by decide +kernel
theorem dL_law_355 : decode cL_law 355 = .ok (.iconst 1, 1) := by decide +kernel
theorem dL_law_356 : decode cL_law 356 = .ok (.iadd, 1) := by decide +kernel
theorem dL_law_357 : decode cL_law 357 = .ok (.iaload, 1) := by decide +kernel
theorem dL_law_358 : decode cL_law 358 = .ok (.aload_n 0, 1) := by decide +kernel
theorem dL_law_359 : decode cL_law 359 = .ok (.iload_n 3, 1) := by decide +kernel
theorem dL_law_360 : decode cL_law 360 = .ok (.iconst 2, 1) := by decide +kernel
theorem dL_law_361 : decode cL_law 361 = .ok (.iadd, 1) := by decide +kernel
theorem dL_law_362 : decode cL_law 362 = .ok (.iaload, 1) := by decide +kernel
theorem dL_law_363 : decode cL_law 363 = .ok (.invokevirtual 46, 3) := by decide +kernel
theorem dL_law_366 : decode cL_law 366 = .ok (.if_icmp .eq 538, 3) := by decide +kernel
theorem dL_law_369 : decode cL_law 369 = .ok (.iconst 0, 1) := by decide +kernel
theorem dL_law_370 : decode cL_law 370 = .ok (.ireturn, 1) := by decide +kernel
theorem dL_law_371 : decode cL_law 371 = .ok (.aload_n 1, 1) := by decide +kernel
theorem dL_law_372 : decode cL_law 372 = .ok (.aload_n 0, 1) := by decide +kernel
theorem dL_law_373 : decode cL_law 373 = .ok (.iload_n 3, 1) := by decide +kernel
theorem dL_law_374 : decode cL_law 374 = .ok (.iconst 1, 1) := by decide +kernel
theorem dL_law_375 : decode cL_law 375 = .ok (.iadd, 1) := by decide +kernel
theorem dL_law_376 : decode cL_law 376 = .ok (.iaload, 1) := by decide +kernel
theorem dL_law_377 : decode cL_law 377 = .ok (.invokevirtual 47, 3) := by decide +kernel
theorem dL_law_380 : decode cL_law 380 = .ok (.aload_n 2, 1) := by decide +kernel
theorem dL_law_381 : decode cL_law 381 = .ok (.aload_n 0, 1) := by decide +kernel
theorem dL_law_382 : decode cL_law 382 = .ok (.iload_n 3, 1) := by decide +kernel
theorem dL_law_383 : decode cL_law 383 = .ok (.iconst 1, 1) := by decide +kernel
theorem dL_law_384 : decode cL_law 384 = .ok (.iadd, 1) := by decide +kernel
theorem dL_law_385 : decode cL_law 385 = .ok (.iaload, 1) := by decide +kernel
theorem dL_law_386 : decode cL_law 386 = .ok (.invokevirtual 50, 3) := by decide +kernel
theorem dL_law_389 : decode cL_law 389 = .ok (.if_icmp .eq 515, 3) := by decide +kernel
theorem dL_law_392 : decode cL_law 392 = .ok (.iconst 0, 1) := by decide +kernel
theorem dL_law_393 : decode cL_law 393 = .ok (.ireturn, 1) := by decide +kernel
theorem dL_law_394 : decode cL_law 394 = .ok (.aload_n 1, 1) := by decide +kernel
theorem dL_law_395 : decode cL_law 395 = .ok (.aload_n 0, 1) := by decide +kernel
theorem dL_law_396 : decode cL_law 396 = .ok (.iload_n 3, 1) := by decide +kernel
theorem dL_law_397 : decode cL_law 397 = .ok (.iconst 1, 1) := by decide +kernel
theorem dL_law_398 : decode cL_law 398 = .ok (.iadd, 1) := by decide +kernel
theorem dL_law_399 : decode cL_law 399 = .ok (.iaload, 1) := by decide +kernel
theorem dL_law_400 : decode cL_law 400 = .ok (.aload_n 0, 1) := by decide +kernel
theorem dL_law_401 : decode cL_law 401 = .ok (.iload_n 3, 1) := by decide +kernel
theorem dL_law_402 : decode cL_law 402 = .ok (.iconst 2, 1) := by decide +kernel
theorem dL_law_403 : decode cL_law 403 = .ok (.iadd, 1) := by decide +kernel
theorem dL_law_404 : decode cL_law 404 = .ok (.iaload, 1) := by decide +kernel
theorem dL_law_405 : decode cL_law 405 = .ok (.invokevirtual 51, 3) := by decide +kernel
theorem dL_law_408 : decode cL_law 408 = .ok (.aload_n 2, 1) := by decide +kernel
theorem dL_law_409 : decode cL_law 409 = .ok (.aload_n 0, 1) := by decide +kernel
theorem dL_law_410 : decode cL_law 410 = .ok (.iload_n 3, 1) := by decide +kernel
theorem dL_law_411 : decode cL_law 411 = .ok (.iconst 1, 1) := by decide +kernel
theorem dL_law_412 : decode cL_law 412 = .ok (.iadd, 1) := by decide +kernel
theorem dL_law_413 : decode cL_law 413 = .ok (.iaload, 1) := by decide +kernel
theorem dL_law_414 : decode cL_law 414 = .ok (.aload_n 0, 1) := by decide +kernel
theorem dL_law_415 : decode cL_law 415 = .ok (.iload_n 3, 1) := by decide +kernel
theorem dL_law_416 : decode cL_law 416 = .ok (.iconst 2, 1) := by decide +kernel
theorem dL_law_417 : decode cL_law 417 = .ok (.iadd, 1) := by decide +kernel
theorem dL_law_418 : decode cL_law 418 = .ok (.iaload, 1) := by decide +kernel
theorem dL_law_419 : decode cL_law 419 = .ok (.invokevirtual 54, 3) := by decide +kernel
theorem dL_law_422 : decode cL_law 422 = .ok (.if_icmp .eq 482, 3) := by decide +kernel
theorem dL_law_425 : decode cL_law 425 = .ok (.iconst 0, 1) := by decide +kernel
theorem dL_law_426 : decode cL_law 426 = .ok (.ireturn, 1) := by decide +kernel
theorem dL_law_427 : decode cL_law 427 = .ok (.aload_n 1, 1) := by decide +kernel
theorem dL_law_428 : decode cL_law 428 = .ok (.aload_n 0, 1) := by decide +kernel
theorem dL_law_429 : decode cL_law 429 = .ok (.iload_n 3, 1) := by decide +kernel
theorem dL_law_430 : decode cL_law 430 = .ok (.iconst 1, 1) := by decide +kernel
theorem dL_law_431 : decode cL_law 431 = .ok (.iadd, 1) := by decide +kernel
theorem dL_law_432 : decode cL_law 432 = .ok (.iaload, 1) := by decide +kernel
theorem dL_law_433 : decode cL_law 433 = .ok (.aload_n 0, 1) := by decide +kernel
theorem dL_law_434 : decode cL_law 434 = .ok (.iload_n 3, 1) := by decide +kernel
theorem dL_law_435 : decode cL_law 435 = .ok (.iconst 2, 1) := by decide +kernel
theorem dL_law_436 : decode cL_law 436 = .ok (.iadd, 1) := by decide +kernel
theorem dL_law_437 : decode cL_law 437 = .ok (.iaload, 1) := by decide +kernel
theorem dL_law_438 : decode cL_law 438 = .ok (.invokevirtual 55, 3) := by decide +kernel
theorem dL_law_441 : decode cL_law 441 = .ok (.aload_n 2, 1) := by decide +kernel
theorem dL_law_442 : decode cL_law 442 = .ok (.aload_n 0, 1) := by decide +kernel
theorem dL_law_443 : decode cL_law 443 = .ok (.iload_n 3, 1) := by decide +kernel
theorem dL_law_444 : decode cL_law 444 = .ok (.iconst 1, 1) := by decide +kernel
theorem dL_law_445 : decode cL_law 445 = .ok (.iadd, 1) := by decide +kernel
theorem dL_law_446 : decode cL_law 446 = .ok (.iaload, 1) := by decide +kernel
theorem dL_law_447 : decode cL_law 447 = .ok (.aload_n 0, 1) := by decide +kernel
theorem dL_law_448 : decode cL_law 448 = .ok (.iload_n 3, 1) := by decide +kernel
theorem dL_law_449 : decode cL_law 449 = .ok (.iconst 2, 1) := by decide +kernel
theorem dL_law_450 : decode cL_law 450 = .ok (.iadd, 1) := by decide +kernel
theorem dL_law_451 : decode cL_law 451 = .ok (.iaload, 1) := by decide +kernel
theorem dL_law_452 : decode cL_law 452 = .ok (.invokevirtual 58, 3) := by decide +kernel
theorem dL_law_455 : decode cL_law 455 = .ok (.if_icmp .eq 449, 3) := by decide +kernel
theorem dL_law_458 : decode cL_law 458 = .ok (.iconst 0, 1) := by decide +kernel
theorem dL_law_459 : decode cL_law 459 = .ok (.ireturn, 1) := by decide +kernel
theorem dL_law_460 : decode cL_law 460 = .ok (.aload_n 1, 1) := by decide +kernel
theorem dL_law_461 : decode cL_law 461 = .ok (.aload_n 0, 1) := by decide +kernel
theorem dL_law_462 : decode cL_law 462 = .ok (.iload_n 3, 1) := by decide +kernel
theorem dL_law_463 : decode cL_law 463 = .ok (.iconst 1, 1) := by decide +kernel
theorem dL_law_464 : decode cL_law 464 = .ok (.iadd, 1) := by decide +kernel
theorem dL_law_465 : decode cL_law 465 = .ok (.iaload, 1) := by decide +kernel
theorem dL_law_466 : decode cL_law 466 = .ok (.aload_n 0, 1) := by decide +kernel
theorem dL_law_467 : decode cL_law 467 = .ok (.iload_n 3, 1) := by decide +kernel
theorem dL_law_468 : decode cL_law 468 = .ok (.iconst 2, 1) := by decide +kernel
theorem dL_law_469 : decode cL_law 469 = .ok (.iadd, 1) := by decide +kernel
theorem dL_law_470 : decode cL_law 470 = .ok (.iaload, 1) := by decide +kernel
theorem dL_law_471 : decode cL_law 471 = .ok (.invokevirtual 59, 3) := by decide +kernel
theorem dL_law_474 : decode cL_law 474 = .ok (.aload_n 2, 1) := by decide +kernel
theorem dL_law_475 : decode cL_law 475 = .ok (.aload_n 0, 1) := by decide +kernel
theorem dL_law_476 : decode cL_law 476 = .ok (.iload_n 3, 1) := by decide +kernel
theorem dL_law_477 : decode cL_law 477 = .ok (.iconst 1, 1) := by decide +kernel
theorem dL_law_478 : decode cL_law 478 = .ok (.iadd, 1) := by decide +kernel
theorem dL_law_479 : decode cL_law 479 = .ok (.iaload, 1) := by decide +kernel
theorem dL_law_480 : decode cL_law 480 = .ok (.aload_n 0, 1) := by decide +kernel
theorem dL_law_481 : decode cL_law 481 = .ok (.iload_n 3, 1) := by decide +kernel
theorem dL_law_482 : decode cL_law 482 = .ok (.iconst 2, 1) := by decide +kernel
theorem dL_law_483 : decode cL_law 483 = .ok (.iadd, 1) := by decide +kernel
theorem dL_law_484 : decode cL_law 484 = .ok (.iaload, 1) := by decide +kernel
theorem dL_law_485 : decode cL_law 485 = .ok (.invokevirtual 62, 3) := by decide +kernel
theorem dL_law_488 : decode cL_law 488 = .ok (.if_icmp .eq 416, 3) := by decide +kernel
theorem dL_law_491 : decode cL_law 491 = .ok (.iconst 0, 1) := by decide +kernel
theorem dL_law_492 : decode cL_law 492 = .ok (.ireturn, 1) := by decide +kernel
theorem dL_law_493 : decode cL_law 493 = .ok (.aload_n 1, 1) := by decide +kernel
theorem dL_law_494 : decode cL_law 494 = .ok (.aload_n 0, 1) := by decide +kernel
theorem dL_law_495 : decode cL_law 495 = .ok (.iload_n 3, 1) := by decide +kernel
theorem dL_law_496 : decode cL_law 496 = .ok (.iconst 1, 1) := by decide +kernel
theorem dL_law_497 : decode cL_law 497 = .ok (.iadd, 1) := by decide +kernel
theorem dL_law_498 : decode cL_law 498 = .ok (.iaload, 1) := by decide +kernel
theorem dL_law_499 : decode cL_law 499 = .ok (.invokevirtual 63, 3) := by decide +kernel
theorem dL_law_502 : decode cL_law 502 = .ok (.aload_n 2, 1) := by decide +kernel
theorem dL_law_503 : decode cL_law 503 = .ok (.aload_n 0, 1) := by decide +kernel
theorem dL_law_504 : decode cL_law 504 = .ok (.iload_n 3, 1) := by decide +kernel
theorem dL_law_505 : decode cL_law 505 = .ok (.iconst 1, 1) := by decide +kernel
theorem dL_law_506 : decode cL_law 506 = .ok (.iadd, 1) := by decide +kernel
theorem dL_law_507 : decode cL_law 507 = .ok (.iaload, 1) := by decide +kernel
theorem dL_law_508 : decode cL_law 508 = .ok (.invokevirtual 66, 3) := by decide +kernel
theorem dL_law_511 : decode cL_law 511 = .ok (.if_icmp .eq 393, 3) := by decide +kernel
theorem dL_law_514 : decode cL_law 514 = .ok (.iconst 0, 1) := by decide +kernel
theorem dL_law_515 : decode cL_law 515 = .ok (.ireturn, 1) := by decide +kernel
theorem dL_law_516 : decode cL_law 516 = .ok (.aload_n 1, 1) := by decide +kernel
theorem dL_law_517 : decode cL_law 517 = .ok (.aload_n 0, 1) := by decide +kernel
theorem dL_law_518 : decode cL_law 518 = .ok (.iload_n 3, 1) := by decide +kernel
theorem dL_law_519 : decode cL_law 519 = .ok (.iconst 1, 1) := by decide +kernel
theorem dL_law_520 : decode cL_law 520 = .ok (.iadd, 1) := by decide +kernel
theorem dL_law_521 : decode cL_law 521 = .ok (.iaload, 1) := by decide +kernel
theorem dL_law_522 : decode cL_law 522 = .ok (.invokevirtual 67, 3) := by decide +kernel
theorem dL_law_525 : decode cL_law 525 = .ok (.aload_n 2, 1) := by decide +kernel
theorem dL_law_526 : decode cL_law 526 = .ok (.aload_n 0, 1) := by decide +kernel
theorem dL_law_527 : decode cL_law 527 = .ok (.iload_n 3, 1) := by decide +kernel
theorem dL_law_528 : decode cL_law 528 = .ok (.iconst 1, 1) := by decide +kernel
theorem dL_law_529 : decode cL_law 529 = .ok (.iadd, 1) := by decide +kernel
theorem dL_law_530 : decode cL_law 530 = .ok (.iaload, 1) := by decide +kernel
theorem dL_law_531 : decode cL_law 531 = .ok (.invokevirtual 70, 3) := by decide +kernel
theorem dL_law_534 : decode cL_law 534 = .ok (.if_icmp .eq 370, 3) := by decide +kernel
theorem dL_law_537 : decode cL_law 537 = .ok (.iconst 0, 1) := by decide +kernel
theorem dL_law_538 : decode cL_law 538 = .ok (.ireturn, 1) := by decide +kernel
theorem dL_law_539 : decode cL_law 539 = .ok (.aload_n 1, 1) := by decide +kernel
theorem dL_law_540 : decode cL_law 540 = .ok (.aload_n 0, 1) := by decide +kernel
theorem dL_law_541 : decode cL_law 541 = .ok (.iload_n 3, 1) := by decide +kernel
theorem dL_law_542 : decode cL_law 542 = .ok (.iconst 1, 1) := by decide +kernel
theorem dL_law_543 : decode cL_law 543 = .ok (.iadd, 1) := by decide +kernel
theorem dL_law_544 : decode cL_law 544 = .ok (.iaload, 1) := by decide +kernel
theorem dL_law_545 : decode cL_law 545 = .ok (.invokevirtual 71, 3) := by decide +kernel
theorem dL_law_548 : decode cL_law 548 = .ok (.aload_n 2, 1) := by decide +kernel
theorem dL_law_549 : decode cL_law 549 = .ok (.aload_n 0, 1) := by decide +kernel
theorem dL_law_550 : decode cL_law 550 = .ok (.iload_n 3, 1) := by decide +kernel
theorem dL_law_551 : decode cL_law 551 = .ok (.iconst 1, 1) := by decide +kernel
theorem dL_law_552 : decode cL_law 552 = .ok (.iadd, 1) := by decide +kernel
theorem dL_law_553 : decode cL_law 553 = .ok (.iaload, 1) := by decide +kernel
theorem dL_law_554 : decode cL_law 554 = .ok (.invokevirtual 74, 3) := by decide +kernel
theorem dL_law_557 : decode cL_law 557 = .ok (.if_icmp .eq 347, 3) := by decide +kernel
theorem dL_law_560 : decode cL_law 560 = .ok (.iconst 0, 1) := by decide +kernel
theorem dL_law_561 : decode cL_law 561 = .ok (.ireturn, 1) := by decide +kernel
theorem dL_law_562 : decode cL_law 562 = .ok (.aload_n 1, 1) := by decide +kernel
theorem dL_law_563 : decode cL_law 563 = .ok (.aload_n 0, 1) := by decide +kernel
theorem dL_law_564 : decode cL_law 564 = .ok (.iload_n 3, 1) := by decide +kernel
theorem dL_law_565 : decode cL_law 565 = .ok (.iconst 1, 1) := by decide +kernel
theorem dL_law_566 : decode cL_law 566 = .ok (.iadd, 1) := by decide +kernel
theorem dL_law_567 : decode cL_law 567 = .ok (.iaload, 1) := by decide +kernel
theorem dL_law_568 : decode cL_law 568 = .ok (.aload_n 0, 1) := by decide +kernel
theorem dL_law_569 : decode cL_law 569 = .ok (.iload_n 3, 1) := by decide +kernel
theorem dL_law_570 : decode cL_law 570 = .ok (.iconst 2, 1) := by decide +kernel
theorem dL_law_571 : decode cL_law 571 = .ok (.iadd, 1) := by decide +kernel
theorem dL_law_572 : decode cL_law 572 = .ok (.iaload, 1) := by decide +kernel
theorem dL_law_573 : decode cL_law 573 = .ok (.invokevirtual 75, 3) := by decide +kernel
theorem dL_law_576 : decode cL_law 576 = .ok (.aload_n 2, 1) := by decide +kernel
theorem dL_law_577 : decode cL_law 577 = .ok (.aload_n 0, 1) := by decide +kernel
theorem dL_law_578 : decode cL_law 578 = .ok (.iload_n 3, 1) := by decide +kernel
theorem dL_law_579 : decode cL_law 579 = .ok (.iconst 1, 1) := by decide +kernel
theorem dL_law_580 : decode cL_law 580 = .ok (.iadd, 1) := by decide +kernel
theorem dL_law_581 : decode cL_law 581 = .ok (.iaload, 1) := by decide +kernel
theorem dL_law_582 : decode cL_law 582 = .ok (.aload_n 0, 1) := by decide +kernel
theorem dL_law_583 : decode cL_law 583 = .ok (.iload_n 3, 1) := by decide +kernel
theorem dL_law_584 : decode cL_law 584 = .ok (.iconst 2, 1) := by decide +kernel
theorem dL_law_585 : decode cL_law 585 = .ok (.iadd, 1) := by decide +kernel
theorem dL_law_586 : decode cL_law 586 = .ok (.iaload, 1) := by decide +kernel
theorem dL_law_587 : decode cL_law 587 = .ok (.invokevirtual 78, 3) := by decide +kernel
theorem dL_law_590 : decode cL_law 590 = .ok (.if_icmp .eq 314, 3) := by decide +kernel
theorem dL_law_593 : decode cL_law 593 = .ok (.iconst 0, 1) := by decide +kernel
theorem dL_law_594 : decode cL_law 594 = .ok (.ireturn, 1) := by decide +kernel
theorem dL_law_595 : decode cL_law 595 = .ok (.aload_n 1, 1) := by decide +kernel
theorem dL_law_596 : decode cL_law 596 = .ok (.aload_n 0, 1) := by decide +kernel
theorem dL_law_597 : decode cL_law 597 = .ok (.iload_n 3, 1) := by decide +kernel
theorem dL_law_598 : decode cL_law 598 = .ok (.iconst 1, 1) := by decide +kernel
theorem dL_law_599 : decode cL_law 599 = .ok (.iadd, 1) := by decide +kernel
theorem dL_law_600 : decode cL_law 600 = .ok (.iaload, 1) := by decide +kernel
theorem dL_law_601 : decode cL_law 601 = .ok (.invokevirtual 79, 3) := by decide +kernel
theorem dL_law_604 : decode cL_law 604 = .ok (.aload_n 2, 1) := by decide +kernel
theorem dL_law_605 : decode cL_law 605 = .ok (.aload_n 0, 1) := by decide +kernel
theorem dL_law_606 : decode cL_law 606 = .ok (.iload_n 3, 1) := by decide +kernel
theorem dL_law_607 : decode cL_law 607 = .ok (.iconst 1, 1) := by decide +kernel
theorem dL_law_608 : decode cL_law 608 = .ok (.iadd, 1) := by decide +kernel
theorem dL_law_609 : decode cL_law 609 = .ok (.iaload, 1) := by decide +kernel
theorem dL_law_610 : decode cL_law 610 = .ok (.invokevirtual 82, 3) := by decide +kernel
theorem dL_law_613 : decode cL_law 613 = .ok (.if_icmp .eq 291, 3) := by decide +kernel
theorem dL_law_616 : decode cL_law 616 = .ok (.iconst 0, 1) := by decide +kernel
theorem dL_law_617 : decode cL_law 617 = .ok (.ireturn, 1) := by decide +kernel
theorem dL_law_618 : decode cL_law 618 = .ok (.aload_n 1, 1) := by decide +kernel
theorem dL_law_619 : decode cL_law 619 = .ok (.aload_n 0, 1) := by decide +kernel
theorem dL_law_620 : decode cL_law 620 = .ok (.iload_n 3, 1) := by decide +kernel
theorem dL_law_621 : decode cL_law 621 = .ok (.iconst 1, 1) := by decide +kernel
theorem dL_law_622 : decode cL_law 622 = .ok (.iadd, 1) := by decide +kernel
theorem dL_law_623 : decode cL_law 623 = .ok (.iaload, 1) := by decide +kernel
theorem dL_law_624 : decode cL_law 624 = .ok (.aload_n 0, 1) := by decide +kernel
theorem dL_law_625 : decode cL_law 625 = .ok (.iload_n 3, 1) := by decide +kernel
theorem dL_law_626 : decode cL_law 626 = .ok (.iconst 2, 1) := by decide +kernel
theorem dL_law_627 : decode cL_law 627 = .ok (.iadd, 1) := by decide +kernel
theorem dL_law_628 : decode cL_law 628 = .ok (.iaload, 1) := by decide +kernel
theorem dL_law_629 : decode cL_law 629 = .ok (.invokevirtual 83, 3) := by decide +kernel
theorem dL_law_632 : decode cL_law 632 = .ok (.aload_n 2, 1) := by decide +kernel
theorem dL_law_633 : decode cL_law 633 = .ok (.aload_n 0, 1) := by decide +kernel
theorem dL_law_634 : decode cL_law 634 = .ok (.iload_n 3, 1) := by decide +kernel
theorem dL_law_635 : decode cL_law 635 = .ok (.iconst 1, 1) := by decide +kernel
theorem dL_law_636 : decode cL_law 636 = .ok (.iadd, 1) := by decide +kernel
theorem dL_law_637 : decode cL_law 637 = .ok (.iaload, 1) := by decide +kernel
theorem dL_law_638 : decode cL_law 638 = .ok (.aload_n 0, 1) := by decide +kernel
theorem dL_law_639 : decode cL_law 639 = .ok (.iload_n 3, 1) := by decide +kernel
theorem dL_law_640 : decode cL_law 640 = .ok (.iconst 2, 1) := by decide +kernel
theorem dL_law_641 : decode cL_law 641 = .ok (.iadd, 1) := by decide +kernel
theorem dL_law_642 : decode cL_law 642 = .ok (.iaload, 1) := by decide +kernel
theorem dL_law_643 : decode cL_law 643 = .ok (.invokevirtual 86, 3) := by decide +kernel
theorem dL_law_646 : decode cL_law 646 = .ok (.if_icmp .eq 258, 3) := by decide +kernel
theorem dL_law_649 : decode cL_law 649 = .ok (.iconst 0, 1) := by decide +kernel
theorem dL_law_650 : decode cL_law 650 = .ok (.ireturn, 1) := by decide +kernel
theorem dL_law_651 : decode cL_law 651 = .ok (.aload_n 1, 1) := by decide +kernel
theorem dL_law_652 : decode cL_law 652 = .ok (.aload_n 0, 1) := by decide +kernel
theorem dL_law_653 : decode cL_law 653 = .ok (.iload_n 3, 1) := by decide +kernel
theorem dL_law_654 : decode cL_law 654 = .ok (.iconst 1, 1) := by decide +kernel
theorem dL_law_655 : decode cL_law 655 = .ok (.iadd, 1) := by decide +kernel
theorem dL_law_656 : decode cL_law 656 = .ok (.iaload, 1) := by decide +kernel
theorem dL_law_657 : decode cL_law 657 = .ok (.aload_n 0, 1) := by decide +kernel
theorem dL_law_658 : decode cL_law 658 = .ok (.iload_n 3, 1) := by decide +kernel
theorem dL_law_659 : decode cL_law 659 = .ok (.iconst 2, 1) := by decide +kernel
theorem dL_law_660 : decode cL_law 660 = .ok (.iadd, 1) := by decide +kernel
theorem dL_law_661 : decode cL_law 661 = .ok (.iaload, 1) := by decide +kernel
theorem dL_law_662 : decode cL_law 662 = .ok (.invokevirtual 87, 3) := by decide +kernel
theorem dL_law_665 : decode cL_law 665 = .ok (.aload_n 2, 1) := by decide +kernel
theorem dL_law_666 : decode cL_law 666 = .ok (.aload_n 0, 1) := by decide +kernel
theorem dL_law_667 : decode cL_law 667 = .ok (.iload_n 3, 1) := by decide +kernel
theorem dL_law_668 : decode cL_law 668 = .ok (.iconst 1, 1) := by decide +kernel
theorem dL_law_669 : decode cL_law 669 = .ok (.iadd, 1) := by decide +kernel
theorem dL_law_670 : decode cL_law 670 = .ok (.iaload, 1) := by decide +kernel
theorem dL_law_671 : decode cL_law 671 = .ok (.aload_n 0, 1) := by decide +kernel
theorem dL_law_672 : decode cL_law 672 = .ok (.iload_n 3, 1) := by decide +kernel
theorem dL_law_673 : decode cL_law 673 = .ok (.iconst 2, 1) := by decide +kernel
theorem dL_law_674 : decode cL_law 674 = .ok (.iadd, 1) := by decide +kernel
theorem dL_law_675 : decode cL_law 675 = .ok (.iaload, 1) := by decide +kernel
theorem dL_law_676 : decode cL_law 676 = .ok (.invokevirtual 90, 3) := by decide +kernel
theorem dL_law_679 : decode cL_law 679 = .ok (.if_icmp .eq 225, 3) := by decide +kernel
theorem dL_law_682 : decode cL_law 682 = .ok (.iconst 0, 1) := by decide +kernel
theorem dL_law_683 : decode cL_law 683 = .ok (.ireturn, 1) := by decide +kernel
theorem dL_law_684 : decode cL_law 684 = .ok (.aload_n 1, 1) := by decide +kernel
theorem dL_law_685 : decode cL_law 685 = .ok (.aload_n 0, 1) := by decide +kernel
theorem dL_law_686 : decode cL_law 686 = .ok (.iload_n 3, 1) := by decide +kernel
theorem dL_law_687 : decode cL_law 687 = .ok (.iconst 1, 1) := by decide +kernel
theorem dL_law_688 : decode cL_law 688 = .ok (.iadd, 1) := by decide +kernel
theorem dL_law_689 : decode cL_law 689 = .ok (.iaload, 1) := by decide +kernel
theorem dL_law_690 : decode cL_law 690 = .ok (.aload_n 0, 1) := by decide +kernel
theorem dL_law_691 : decode cL_law 691 = .ok (.iload_n 3, 1) := by decide +kernel
theorem dL_law_692 : decode cL_law 692 = .ok (.iconst 2, 1) := by decide +kernel
theorem dL_law_693 : decode cL_law 693 = .ok (.iadd, 1) := by decide +kernel
theorem dL_law_694 : decode cL_law 694 = .ok (.iaload, 1) := by decide +kernel
theorem dL_law_695 : decode cL_law 695 = .ok (.invokevirtual 91, 3) := by decide +kernel
theorem dL_law_698 : decode cL_law 698 = .ok (.aload_n 2, 1) := by decide +kernel
theorem dL_law_699 : decode cL_law 699 = .ok (.aload_n 0, 1) := by decide +kernel
theorem dL_law_700 : decode cL_law 700 = .ok (.iload_n 3, 1) := by decide +kernel
theorem dL_law_701 : decode cL_law 701 = .ok (.iconst 1, 1) := by decide +kernel
theorem dL_law_702 : decode cL_law 702 = .ok (.iadd, 1) := by decide +kernel
theorem dL_law_703 : decode cL_law 703 = .ok (.iaload, 1) := by decide +kernel
theorem dL_law_704 : decode cL_law 704 = .ok (.aload_n 0, 1) := by decide +kernel
theorem dL_law_705 : decode cL_law 705 = .ok (.iload_n 3, 1) := by decide +kernel
theorem dL_law_706 : decode cL_law 706 = .ok (.iconst 2, 1) := by decide +kernel
theorem dL_law_707 : decode cL_law 707 = .ok (.iadd, 1) := by decide +kernel
theorem dL_law_708 : decode cL_law 708 = .ok (.iaload, 1) := by decide +kernel
theorem dL_law_709 : decode cL_law 709 = .ok (.invokevirtual 94, 3) := by decide +kernel
theorem dL_law_712 : decode cL_law 712 = .ok (.if_icmp .eq 192, 3) := by decide +kernel
theorem dL_law_715 : decode cL_law 715 = .ok (.iconst 0, 1) := by decide +kernel
theorem dL_law_716 : decode cL_law 716 = .ok (.ireturn, 1) := by decide +kernel
theorem dL_law_717 : decode cL_law 717 = .ok (.aload_n 1, 1) := by decide +kernel
theorem dL_law_718 : decode cL_law 718 = .ok (.invokevirtual 95, 3) := by decide +kernel
theorem dL_law_721 : decode cL_law 721 = .ok (.aload_n 2, 1) := by decide +kernel
theorem dL_law_722 : decode cL_law 722 = .ok (.invokevirtual 98, 3) := by decide +kernel
theorem dL_law_725 : decode cL_law 725 = .ok (.if_icmp .eq 179, 3) := by decide +kernel
theorem dL_law_728 : decode cL_law 728 = .ok (.iconst 0, 1) := by decide +kernel
theorem dL_law_729 : decode cL_law 729 = .ok (.ireturn, 1) := by decide +kernel
theorem dL_law_730 : decode cL_law 730 = .ok (.aload_n 1, 1) := by decide +kernel
theorem dL_law_731 : decode cL_law 731 = .ok (.aload_n 0, 1) := by decide +kernel
theorem dL_law_732 : decode cL_law 732 = .ok (.iload_n 3, 1) := by decide +kernel
theorem dL_law_733 : decode cL_law 733 = .ok (.iconst 1, 1) := by decide +kernel
theorem dL_law_734 : decode cL_law 734 = .ok (.iadd, 1) := by decide +kernel
theorem dL_law_735 : decode cL_law 735 = .ok (.iaload, 1) := by decide +kernel
theorem dL_law_736 : decode cL_law 736 = .ok (.invokevirtual 99, 3) := by decide +kernel
theorem dL_law_739 : decode cL_law 739 = .ok (.aload_n 2, 1) := by decide +kernel
theorem dL_law_740 : decode cL_law 740 = .ok (.aload_n 0, 1) := by decide +kernel
theorem dL_law_741 : decode cL_law 741 = .ok (.iload_n 3, 1) := by decide +kernel
theorem dL_law_742 : decode cL_law 742 = .ok (.iconst 1, 1) := by decide +kernel
theorem dL_law_743 : decode cL_law 743 = .ok (.iadd, 1) := by decide +kernel
theorem dL_law_744 : decode cL_law 744 = .ok (.iaload, 1) := by decide +kernel
theorem dL_law_745 : decode cL_law 745 = .ok (.invokevirtual 102, 3) := by decide +kernel
theorem dL_law_748 : decode cL_law 748 = .ok (.if_icmp .eq 156, 3) := by decide +kernel
theorem dL_law_751 : decode cL_law 751 = .ok (.iconst 0, 1) := by decide +kernel
theorem dL_law_752 : decode cL_law 752 = .ok (.ireturn, 1) := by decide +kernel
theorem dL_law_753 : decode cL_law 753 = .ok (.aload_n 1, 1) := by decide +kernel
theorem dL_law_754 : decode cL_law 754 = .ok (.aload_n 0, 1) := by decide +kernel
theorem dL_law_755 : decode cL_law 755 = .ok (.iload_n 3, 1) := by decide +kernel
theorem dL_law_756 : decode cL_law 756 = .ok (.iconst 1, 1) := by decide +kernel
theorem dL_law_757 : decode cL_law 757 = .ok (.iadd, 1) := by decide +kernel
theorem dL_law_758 : decode cL_law 758 = .ok (.iaload, 1) := by decide +kernel
theorem dL_law_759 : decode cL_law 759 = .ok (.invokevirtual 103, 3) := by decide +kernel
theorem dL_law_762 : decode cL_law 762 = .ok (.aload_n 2, 1) := by decide +kernel
theorem dL_law_763 : decode cL_law 763 = .ok (.aload_n 0, 1) := by decide +kernel
theorem dL_law_764 : decode cL_law 764 = .ok (.iload_n 3, 1) := by decide +kernel
theorem dL_law_765 : decode cL_law 765 = .ok (.iconst 1, 1) := by decide +kernel
theorem dL_law_766 : decode cL_law 766 = .ok (.iadd, 1) := by decide +kernel
theorem dL_law_767 : decode cL_law 767 = .ok (.iaload, 1) := by decide +kernel
theorem dL_law_768 : decode cL_law 768 = .ok (.invokevirtual 106, 3) := by decide +kernel
theorem dL_law_771 : decode cL_law 771 = .ok (.if_icmp .eq 133, 3) := by decide +kernel
theorem dL_law_774 : decode cL_law 774 = .ok (.iconst 0, 1) := by decide +kernel
theorem dL_law_775 : decode cL_law 775 = .ok (.ireturn, 1) := by decide +kernel
theorem dL_law_776 : decode cL_law 776 = .ok (.aload_n 1, 1) := by decide +kernel
theorem dL_law_777 : decode cL_law 777 = .ok (.aload_n 0, 1) := by decide +kernel
theorem dL_law_778 : decode cL_law 778 = .ok (.iload_n 3, 1) := by decide +kernel
theorem dL_law_779 : decode cL_law 779 = .ok (.iconst 1, 1) := by decide +kernel
theorem dL_law_780 : decode cL_law 780 = .ok (.iadd, 1) := by decide +kernel
theorem dL_law_781 : decode cL_law 781 = .ok (.iaload, 1) := by decide +kernel
theorem dL_law_782 : decode cL_law 782 = .ok (.aload_n 0, 1) := by decide +kernel
theorem dL_law_783 : decode cL_law 783 = .ok (.iload_n 3, 1) := by decide +kernel
theorem dL_law_784 : decode cL_law 784 = .ok (.iconst 2, 1) := by decide +kernel
theorem dL_law_785 : decode cL_law 785 = .ok (.iadd, 1) := by decide +kernel
theorem dL_law_786 : decode cL_law 786 = .ok (.iaload, 1) := by decide +kernel
theorem dL_law_787 : decode cL_law 787 = .ok (.invokevirtual 107, 3) := by decide +kernel
theorem dL_law_790 : decode cL_law 790 = .ok (.aload_n 2, 1) := by decide +kernel
theorem dL_law_791 : decode cL_law 791 = .ok (.aload_n 0, 1) := by decide +kernel
theorem dL_law_792 : decode cL_law 792 = .ok (.iload_n 3, 1) := by decide +kernel
theorem dL_law_793 : decode cL_law 793 = .ok (.iconst 1, 1) := by decide +kernel
theorem dL_law_794 : decode cL_law 794 = .ok (.iadd, 1) := by decide +kernel
theorem dL_law_795 : decode cL_law 795 = .ok (.iaload, 1) := by decide +kernel
theorem dL_law_796 : decode cL_law 796 = .ok (.aload_n 0, 1) := by decide +kernel
theorem dL_law_797 : decode cL_law 797 = .ok (.iload_n 3, 1) := by decide +kernel
theorem dL_law_798 : decode cL_law 798 = .ok (.iconst 2, 1) := by decide +kernel
theorem dL_law_799 : decode cL_law 799 = .ok (.iadd, 1) := by decide +kernel
theorem dL_law_800 : decode cL_law 800 = .ok (.iaload, 1) := by decide +kernel
theorem dL_law_801 : decode cL_law 801 = .ok (.invokevirtual 110, 3) := by decide +kernel
theorem dL_law_804 : decode cL_law 804 = .ok (.if_icmp .eq 100, 3) := by decide +kernel
theorem dL_law_807 : decode cL_law 807 = .ok (.iconst 0, 1) := by decide +kernel
theorem dL_law_808 : decode cL_law 808 = .ok (.ireturn, 1) := by decide +kernel
theorem dL_law_809 : decode cL_law 809 = .ok (.aload_n 1, 1) := by decide +kernel
theorem dL_law_810 : decode cL_law 810 = .ok (.invokevirtual 111, 3) := by decide +kernel
theorem dL_law_813 : decode cL_law 813 = .ok (.aload_n 2, 1) := by decide +kernel
theorem dL_law_814 : decode cL_law 814 = .ok (.invokevirtual 114, 3) := by decide +kernel
theorem dL_law_817 : decode cL_law 817 = .ok (.if_icmp .eq 87, 3) := by decide +kernel
theorem dL_law_820 : decode cL_law 820 = .ok (.iconst 0, 1) := by decide +kernel
theorem dL_law_821 : decode cL_law 821 = .ok (.ireturn, 1) := by decide +kernel
theorem dL_law_822 : decode cL_law 822 = .ok (.aload_n 1, 1) := by decide +kernel
theorem dL_law_823 : decode cL_law 823 = .ok (.invokevirtual 115, 3) := by decide +kernel
theorem dL_law_826 : decode cL_law 826 = .ok (.aload_n 2, 1) := by decide +kernel
theorem dL_law_827 : decode cL_law 827 = .ok (.invokevirtual 118, 3) := by decide +kernel
theorem dL_law_830 : decode cL_law 830 = .ok (.if_icmp .eq 74, 3) := by decide +kernel
theorem dL_law_833 : decode cL_law 833 = .ok (.iconst 0, 1) := by decide +kernel
theorem dL_law_834 : decode cL_law 834 = .ok (.ireturn, 1) := by decide +kernel
theorem dL_law_835 : decode cL_law 835 = .ok (.aload_n 1, 1) := by decide +kernel
theorem dL_law_836 : decode cL_law 836 = .ok (.aload_n 0, 1) := by decide +kernel
theorem dL_law_837 : decode cL_law 837 = .ok (.iload_n 3, 1) := by decide +kernel
theorem dL_law_838 : decode cL_law 838 = .ok (.iconst 1, 1) := by decide +kernel
theorem dL_law_839 : decode cL_law 839 = .ok (.iadd, 1) := by decide +kernel
theorem dL_law_840 : decode cL_law 840 = .ok (.iaload, 1) := by decide +kernel
theorem dL_law_841 : decode cL_law 841 = .ok (.invokevirtual 119, 3) := by decide +kernel
theorem dL_law_844 : decode cL_law 844 = .ok (.aload_n 2, 1) := by decide +kernel
theorem dL_law_845 : decode cL_law 845 = .ok (.aload_n 0, 1) := by decide +kernel
theorem dL_law_846 : decode cL_law 846 = .ok (.iload_n 3, 1) := by decide +kernel
theorem dL_law_847 : decode cL_law 847 = .ok (.iconst 1, 1) := by decide +kernel
theorem dL_law_848 : decode cL_law 848 = .ok (.iadd, 1) := by decide +kernel
theorem dL_law_849 : decode cL_law 849 = .ok (.iaload, 1) := by decide +kernel
theorem dL_law_850 : decode cL_law 850 = .ok (.invokevirtual 122, 3) := by decide +kernel
theorem dL_law_853 : decode cL_law 853 = .ok (.if_icmp .eq 51, 3) := by decide +kernel
theorem dL_law_856 : decode cL_law 856 = .ok (.iconst 0, 1) := by decide +kernel
theorem dL_law_857 : decode cL_law 857 = .ok (.ireturn, 1) := by decide +kernel
theorem dL_law_858 : decode cL_law 858 = .ok (.aload_n 1, 1) := by decide +kernel
theorem dL_law_859 : decode cL_law 859 = .ok (.aload_n 0, 1) := by decide +kernel
theorem dL_law_860 : decode cL_law 860 = .ok (.iload_n 3, 1) := by decide +kernel
theorem dL_law_861 : decode cL_law 861 = .ok (.iconst 1, 1) := by decide +kernel
theorem dL_law_862 : decode cL_law 862 = .ok (.iadd, 1) := by decide +kernel
theorem dL_law_863 : decode cL_law 863 = .ok (.iaload, 1) := by decide +kernel
theorem dL_law_864 : decode cL_law 864 = .ok (.invokevirtual 123, 3) := by decide +kernel
theorem dL_law_867 : decode cL_law 867 = .ok (.aload_n 2, 1) := by decide +kernel
theorem dL_law_868 : decode cL_law 868 = .ok (.aload_n 0, 1) := by decide +kernel
theorem dL_law_869 : decode cL_law 869 = .ok (.iload_n 3, 1) := by decide +kernel
theorem dL_law_870 : decode cL_law 870 = .ok (.iconst 1, 1) := by decide +kernel
theorem dL_law_871 : decode cL_law 871 = .ok (.iadd, 1) := by decide +kernel
theorem dL_law_872 : decode cL_law 872 = .ok (.iaload, 1) := by decide +kernel
theorem dL_law_873 : decode cL_law 873 = .ok (.invokevirtual 126, 3) := by decide +kernel
theorem dL_law_876 : decode cL_law 876 = .ok (.if_icmp .eq 28, 3) := by decide +kernel
theorem dL_law_879 : decode cL_law 879 = .ok (.iconst 0, 1) := by decide +kernel
theorem dL_law_880 : decode cL_law 880 = .ok (.ireturn, 1) := by decide +kernel
theorem dL_law_881 : decode cL_law 881 = .ok (.aload_n 1, 1) := by decide +kernel
theorem dL_law_882 : decode cL_law 882 = .ok (.aload_n 0, 1) := by decide +kernel
theorem dL_law_883 : decode cL_law 883 = .ok (.iload_n 3, 1) := by decide +kernel
theorem dL_law_884 : decode cL_law 884 = .ok (.iconst 1, 1) := by decide +kernel
theorem dL_law_885 : decode cL_law 885 = .ok (.iadd, 1) := by decide +kernel
theorem dL_law_886 : decode cL_law 886 = .ok (.iaload, 1) := by decide +kernel
theorem dL_law_887 : decode cL_law 887 = .ok (.invokevirtual 127, 3) := by decide +kernel
theorem dL_law_890 : decode cL_law 890 = .ok (.aload_n 2, 1) := by decide +kernel
theorem dL_law_891 : decode cL_law 891 = .ok (.aload_n 0, 1) := by decide +kernel
theorem dL_law_892 : decode cL_law 892 = .ok (.iload_n 3, 1) := by decide +kernel
theorem dL_law_893 : decode cL_law 893 = .ok (.iconst 1, 1) := by decide +kernel
theorem dL_law_894 : decode cL_law 894 = .ok (.iadd, 1) := by decide +kernel
theorem dL_law_895 : decode cL_law 895 = .ok (.iaload, 1) := by decide +kernel
theorem dL_law_896 : decode cL_law 896 = .ok (.invokevirtual 130, 3) := by decide +kernel
theorem dL_law_899 : decode cL_law 899 = .ok (.if_icmp .eq 5, 3) := by decide +kernel
theorem dL_law_902 : decode cL_law 902 = .ok (.iconst 0, 1) := by decide +kernel
theorem dL_law_903 : decode cL_law 903 = .ok (.ireturn, 1) := by decide +kernel
theorem dL_law_904 : decode cL_law 904 = .ok (.iinc 3 4, 3) := by decide +kernel
theorem dL_law_907 : decode cL_law 907 = .ok (.goto (-889), 3) := by decide +kernel
theorem dL_law_910 : decode cL_law 910 = .ok (.iconst 1, 1) := by decide +kernel
theorem dL_law_911 : decode cL_law 911 = .ok (.ireturn, 1) := by decide +kernel
theorem dX0_init_0 : decode cX0_init 0 = .ok (.aload_n 0, 1) := by decide +kernel
theorem dX0_init_1 : decode cX0_init 1 = .ok (.invokespecial 3, 3) := by decide +kernel
theorem dX0_init_4 : decode cX0_init 4 = .ok (.aload_n 0, 1) := by decide +kernel
theorem dX0_init_5 : decode cX0_init 5 = .ok (.bipush 40, 2) := by decide +kernel
theorem dX0_init_7 : decode cX0_init 7 = .ok (.newarray .int, 2) := by decide +kernel
theorem dX0_init_9 : decode cX0_init 9 = .ok (.putfield 9, 3) := by decide +kernel
theorem dX0_init_12 : decode cX0_init 12 = .ok (.aload_n 0, 1) := by decide +kernel
theorem dX0_init_13 : decode cX0_init 13 = .ok (.bipush 40, 2) := by decide +kernel
theorem dX0_init_15 : decode cX0_init 15 = .ok (.newarray .int, 2) := by decide +kernel
theorem dX0_init_17 : decode cX0_init 17 = .ok (.putfield 15, 3) := by decide +kernel
theorem dX0_init_20 : decode cX0_init 20 = .ok (.aload_n 0, 1) := by decide +kernel
theorem dX0_init_21 : decode cX0_init 21 = .ok (.aload_n 1, 1) := by decide +kernel
theorem dX0_init_22 : decode cX0_init 22 = .ok (.putfield 18, 3) := by decide +kernel
theorem dX0_init_25 : decode cX0_init 25 = .ok (.return_, 1) := by decide +kernel
theorem dX0_add_0 : decode cX0_add 0 = .ok (.aload_n 0, 1) := by decide +kernel
theorem dX0_add_1 : decode cX0_add 1 = .ok (.getfield 22, 3) := by decide +kernel
theorem dX0_add_4 : decode cX0_add 4 = .ok (.bipush 40, 2) := by decide +kernel
theorem dX0_add_6 : decode cX0_add 6 = .ok (.if_icmp .lt 5, 3) := by decide +kernel
theorem dX0_add_9 : decode cX0_add 9 = .ok (.iconst 0, 1) := by decide +kernel
theorem dX0_add_10 : decode cX0_add 10 = .ok (.ireturn, 1) := by decide +kernel
theorem dX0_add_11 : decode cX0_add 11 = .ok (.aload_n 0, 1) := by decide +kernel
theorem dX0_add_12 : decode cX0_add 12 = .ok (.getfield 9, 3) := by decide +kernel
theorem dX0_add_15 : decode cX0_add 15 = .ok (.aload_n 0, 1) := by decide +kernel
theorem dX0_add_16 : decode cX0_add 16 = .ok (.getfield 22, 3) := by decide +kernel
theorem dX0_add_19 : decode cX0_add 19 = .ok (.iload_n 1, 1) := by decide +kernel
theorem dX0_add_20 : decode cX0_add 20 = .ok (.iastore, 1) := by decide +kernel
theorem dX0_add_21 : decode cX0_add 21 = .ok (.aload_n 0, 1) := by decide +kernel
theorem dX0_add_22 : decode cX0_add 22 = .ok (.getfield 15, 3) := by decide +kernel
theorem dX0_add_25 : decode cX0_add 25 = .ok (.aload_n 0, 1) := by decide +kernel
theorem dX0_add_26 : decode cX0_add 26 = .ok (.getfield 22, 3) := by decide +kernel
theorem dX0_add_29 : decode cX0_add 29 = .ok (.iload_n 2, 1) := by decide +kernel
theorem dX0_add_30 : decode cX0_add 30 = .ok (.iastore, 1) := by decide +kernel
theorem dX0_add_31 : decode cX0_add 31 = .ok (.aload_n 0, 1) := by decide +kernel
theorem dX0_add_32 : decode cX0_add 32 = .ok (.dup, 1) := by decide +kernel
theorem dX0_add_33 : decode cX0_add 33 = .ok (.getfield 22, 3) := by decide +kernel
theorem dX0_add_36 : decode cX0_add 36 = .ok (.iconst 1, 1) := by decide +kernel
theorem dX0_add_37 : decode cX0_add 37 = .ok (.iadd, 1) := by decide +kernel
theorem dX0_add_38 : decode cX0_add 38 = .ok (.putfield 22, 3) := by decide +kernel
theorem dX0_add_41 : decode cX0_add 41 = .ok (.iconst 1, 1) := by decide +kernel
theorem dX0_add_42 : decode cX0_add 42 = .ok (.ireturn, 1) := by decide +kernel
theorem dX0_firstWrong_0 : decode cX0_firstWrong 0 = .ok (.iconst 0, 1) := by decide +kernel
theorem dX0_firstWrong_1 : decode cX0_firstWrong 1 = .ok (.istore_n 2, 1) := by decide +kernel
theorem dX0_firstWrong_2 : decode cX0_firstWrong 2 = .ok (.iload_n 2, 1) := by decide +kernel
theorem dX0_firstWrong_3 : decode cX0_firstWrong 3 = .ok (.aload_n 0, 1) := by decide +kernel
theorem dX0_firstWrong_4 : decode cX0_firstWrong 4 = .ok (.getfield 22, 3) := by decide +kernel
theorem dX0_firstWrong_7 : decode cX0_firstWrong 7 = .ok (.if_icmp .ge 42, 3) := by decide +kernel
theorem dX0_firstWrong_10 : decode cX0_firstWrong 10 = .ok (.aload_n 0, 1) := by decide +kernel
theorem dX0_firstWrong_11 : decode cX0_firstWrong 11 = .ok (.getfield 18, 3) := by decide +kernel
theorem dX0_firstWrong_14 : decode cX0_firstWrong 14 = .ok (.aload_n 0, 1) := by decide +kernel
theorem dX0_firstWrong_15 : decode cX0_firstWrong 15 = .ok (.getfield 15, 3) := by decide +kernel
theorem dX0_firstWrong_18 : decode cX0_firstWrong 18 = .ok (.iload_n 2, 1) := by decide +kernel
theorem dX0_firstWrong_19 : decode cX0_firstWrong 19 = .ok (.iaload, 1) := by decide +kernel
theorem dX0_firstWrong_20 : decode cX0_firstWrong 20 = .ok (.aload_n 0, 1) := by decide +kernel
theorem dX0_firstWrong_21 : decode cX0_firstWrong 21 = .ok (.getfield 9, 3) := by decide +kernel
theorem dX0_firstWrong_24 : decode cX0_firstWrong 24 = .ok (.iload_n 2, 1) := by decide +kernel
theorem dX0_firstWrong_25 : decode cX0_firstWrong 25 = .ok (.iaload, 1) := by decide +kernel
theorem dX0_firstWrong_26 : decode cX0_firstWrong 26 = .ok (.invokevirtual 26, 3) := by decide +kernel
theorem dX0_firstWrong_29 : decode cX0_firstWrong 29 = .ok (.ifCond .eq 12, 3) := by decide +kernel
theorem dX0_firstWrong_32 : decode cX0_firstWrong 32 = .ok (.aload_n 0, 1) := by decide +kernel
theorem dX0_firstWrong_33 : decode cX0_firstWrong 33 = .ok (.iload_n 2, 1) := by decide +kernel
theorem dX0_firstWrong_34 : decode cX0_firstWrong 34 = .ok (.iload_n 1, 1) := by decide +kernel
theorem dX0_firstWrong_35 : decode cX0_firstWrong 35 = .ok (.invokevirtual 32, 3) := by decide +kernel
theorem dX0_firstWrong_38 : decode cX0_firstWrong 38 = .ok (.ifCond .eq 5, 3) := by decide +kernel
theorem dX0_firstWrong_41 : decode cX0_firstWrong 41 = .ok (.iload_n 2, 1) := by decide +kernel
theorem dX0_firstWrong_42 : decode cX0_firstWrong 42 = .ok (.ireturn, 1) := by decide +kernel
theorem dX0_firstWrong_43 : decode cX0_firstWrong 43 = .ok (.iinc 2 1, 3) := by decide +kernel
theorem dX0_firstWrong_46 : decode cX0_firstWrong 46 = .ok (.goto (-44), 3) := by decide +kernel
theorem dX0_firstWrong_49 : decode cX0_firstWrong 49 = .ok (.iconst (-1), 1) := by decide +kernel
theorem dX0_firstWrong_50 : decode cX0_firstWrong 50 = .ok (.ireturn, 1) := by decide +kernel
theorem dX0_wasToldAhead_0 : decode cX0_wasToldAhead 0 = .ok (.iconst 0, 1) := by decide +kernel
theorem dX0_wasToldAhead_1 : decode cX0_wasToldAhead 1 = .ok (.istore_n 3, 1) := by decide +kernel
theorem dX0_wasToldAhead_2 : decode cX0_wasToldAhead 2 = .ok (.iload_n 3, 1) := by decide +kernel
theorem dX0_wasToldAhead_3 : decode cX0_wasToldAhead 3 = .ok (.iload_n 1, 1) := by decide +kernel
theorem dX0_wasToldAhead_4 : decode cX0_wasToldAhead 4 = .ok (.if_icmp .ge 46, 3) := by decide +kernel
theorem dX0_wasToldAhead_7 : decode cX0_wasToldAhead 7 = .ok (.aload_n 0, 1) := by decide +kernel
theorem dX0_wasToldAhead_8 : decode cX0_wasToldAhead 8 = .ok (.getfield 15, 3) := by decide +kernel
theorem dX0_wasToldAhead_11 : decode cX0_wasToldAhead 11 = .ok (.iload_n 3, 1) := by decide +kernel
theorem dX0_wasToldAhead_12 : decode cX0_wasToldAhead 12 = .ok (.iaload, 1) := by decide +kernel
theorem dX0_wasToldAhead_13 : decode cX0_wasToldAhead 13 = .ok (.aload_n 0, 1) := by decide +kernel
theorem dX0_wasToldAhead_14 : decode cX0_wasToldAhead 14 = .ok (.getfield 15, 3) := by decide +kernel
theorem dX0_wasToldAhead_17 : decode cX0_wasToldAhead 17 = .ok (.iload_n 1, 1) := by decide +kernel
theorem dX0_wasToldAhead_18 : decode cX0_wasToldAhead 18 = .ok (.iaload, 1) := by decide +kernel
theorem dX0_wasToldAhead_19 : decode cX0_wasToldAhead 19 = .ok (.if_icmp .ne 25, 3) := by decide +kernel
theorem dX0_wasToldAhead_22 : decode cX0_wasToldAhead 22 = .ok (.aload_n 0, 1) := by decide +kernel
theorem dX0_wasToldAhead_23 : decode cX0_wasToldAhead 23 = .ok (.getfield 9, 3) := by decide +kernel
theorem dX0_wasToldAhead_26 : decode cX0_wasToldAhead 26 = .ok (.iload_n 3, 1) := by decide +kernel
theorem dX0_wasToldAhead_27 : decode cX0_wasToldAhead 27 = .ok (.iaload, 1) := by decide +kernel
theorem dX0_wasToldAhead_28 : decode cX0_wasToldAhead 28 = .ok (.aload_n 0, 1) := by decide +kernel
theorem dX0_wasToldAhead_29 : decode cX0_wasToldAhead 29 = .ok (.getfield 9, 3) := by decide +kernel
theorem dX0_wasToldAhead_32 : decode cX0_wasToldAhead 32 = .ok (.iload_n 1, 1) := by decide +kernel
theorem dX0_wasToldAhead_33 : decode cX0_wasToldAhead 33 = .ok (.iaload, 1) := by decide +kernel
theorem dX0_wasToldAhead_34 : decode cX0_wasToldAhead 34 = .ok (.isub, 1) := by decide +kernel
theorem dX0_wasToldAhead_35 : decode cX0_wasToldAhead 35 = .ok (.invokestatic 35, 3) := by decide +kernel
theorem dX0_wasToldAhead_38 : decode cX0_wasToldAhead 38 = .ok (.iload_n 2, 1) := by decide +kernel
theorem dX0_wasToldAhead_39 : decode cX0_wasToldAhead 39 = .ok (.if_icmp .gt 5, 3) := by decide +kernel
theorem dX0_wasToldAhead_42 : decode cX0_wasToldAhead 42 = .ok (.iconst 1, 1) := by decide +kernel
theorem dX0_wasToldAhead_43 : decode cX0_wasToldAhead 43 = .ok (.ireturn, 1) := by decide +kernel
theorem dX0_wasToldAhead_44 : decode cX0_wasToldAhead 44 = .ok (.iinc 3 1, 3) := by decide +kernel
theorem dX0_wasToldAhead_47 : decode cX0_wasToldAhead 47 = .ok (.goto (-45), 3) := by decide +kernel
theorem dX0_wasToldAhead_50 : decode cX0_wasToldAhead 50 = .ok (.iconst 0, 1) := by decide +kernel
theorem dX0_wasToldAhead_51 : decode cX0_wasToldAhead 51 = .ok (.ireturn, 1) := by decide +kernel
theorem dX1_init_0 : decode cX1_init 0 = .ok (.aload_n 0, 1) := by decide +kernel
theorem dX1_init_1 : decode cX1_init 1 = .ok (.invokespecial 3, 3) := by decide +kernel
theorem dX1_init_4 : decode cX1_init 4 = .ok (.aload_n 0, 1) := by decide +kernel
theorem dX1_init_5 : decode cX1_init 5 = .ok (.bipush 13, 2) := by decide +kernel
theorem dX1_init_7 : decode cX1_init 7 = .ok (.newarray .int, 2) := by decide +kernel
theorem dX1_init_9 : decode cX1_init 9 = .ok (.putfield 9, 3) := by decide +kernel
theorem dX1_init_12 : decode cX1_init 12 = .ok (.aload_n 0, 1) := by decide +kernel
theorem dX1_init_13 : decode cX1_init 13 = .ok (.bipush 13, 2) := by decide +kernel
theorem dX1_init_15 : decode cX1_init 15 = .ok (.bipush 64, 2) := by decide +kernel
theorem dX1_init_17 : decode cX1_init 17 = .ok (.multianewarray 15 2, 4) := by decide +kernel
theorem dX1_init_21 : decode cX1_init 21 = .ok (.putfield 17, 3) := by decide +kernel
theorem dX1_init_24 : decode cX1_init 24 = .ok (.aload_n 0, 1) := by decide +kernel
theorem dX1_init_25 : decode cX1_init 25 = .ok (.bipush 13, 2) := by decide +kernel
theorem dX1_init_27 : decode cX1_init 27 = .ok (.bipush 64, 2) := by decide +kernel
theorem dX1_init_29 : decode cX1_init 29 = .ok (.multianewarray 15 2, 4) := by decide +kernel
theorem dX1_init_33 : decode cX1_init 33 = .ok (.putfield 20, 3) := by decide +kernel
theorem dX1_init_36 : decode cX1_init 36 = .ok (.aload_n 0, 1) := by decide +kernel
theorem dX1_init_37 : decode cX1_init 37 = .ok (.bipush 12, 2) := by decide +kernel
theorem dX1_init_39 : decode cX1_init 39 = .ok (.bipush 64, 2) := by decide +kernel
theorem dX1_init_41 : decode cX1_init 41 = .ok (.multianewarray 15 2, 4) := by decide +kernel
theorem dX1_init_45 : decode cX1_init 45 = .ok (.putfield 23, 3) := by decide +kernel
theorem dX1_init_48 : decode cX1_init 48 = .ok (.aload_n 0, 1) := by decide +kernel
theorem dX1_init_49 : decode cX1_init 49 = .ok (.bipush 12, 2) := by decide +kernel
theorem dX1_init_51 : decode cX1_init 51 = .ok (.newarray .int, 2) := by decide +kernel
theorem dX1_init_53 : decode cX1_init 53 = .ok (.putfield 26, 3) := by decide +kernel
theorem dX1_init_56 : decode cX1_init 56 = .ok (.aload_n 0, 1) := by decide +kernel
theorem dX1_init_57 : decode cX1_init 57 = .ok (.bipush 8, 2) := by decide +kernel
theorem dX1_init_59 : decode cX1_init 59 = .ok (.newarray .int, 2) := by decide +kernel
theorem dX1_init_61 : decode cX1_init 61 = .ok (.putfield 29, 3) := by decide +kernel
theorem dX1_init_64 : decode cX1_init 64 = .ok (.aload_n 0, 1) := by decide +kernel
theorem dX1_init_65 : decode cX1_init 65 = .ok (.aload_n 1, 1) := by decide +kernel
theorem dX1_init_66 : decode cX1_init 66 = .ok (.putfield 32, 3) := by decide +kernel
theorem dX1_init_69 : decode cX1_init 69 = .ok (.aload_n 0, 1) := by decide +kernel
theorem dX1_init_70 : decode cX1_init 70 = .ok (.aload_n 2, 1) := by decide +kernel
theorem dX1_init_71 : decode cX1_init 71 = .ok (.putfield 36, 3) := by decide +kernel
theorem dX1_init_74 : decode cX1_init 74 = .ok (.return_, 1) := by decide +kernel
theorem dX1_gather_0 : decode cX1_gather 0 = .ok (.iconst 0, 1) := by decide +kernel
theorem dX1_gather_1 : decode cX1_gather 1 = .ok (.istore_n 2, 1) := by decide +kernel
theorem dX1_gather_2 : decode cX1_gather 2 = .ok (.iload_n 2, 1) := by decide +kernel
theorem dX1_gather_3 : decode cX1_gather 3 = .ok (.bipush 12, 2) := by decide +kernel
theorem dX1_gather_5 : decode cX1_gather 5 = .ok (.if_icmp .ge 23, 3) := by decide +kernel
theorem dX1_gather_8 : decode cX1_gather 8 = .ok (.aload_n 0, 1) := by decide +kernel
theorem dX1_gather_9 : decode cX1_gather 9 = .ok (.getfield 9, 3) := by decide +kernel
theorem dX1_gather_12 : decode cX1_gather 12 = .ok (.iload_n 2, 1) := by decide +kernel
theorem dX1_gather_13 : decode cX1_gather 13 = .ok (.iconst 0, 1) := by decide +kernel
theorem dX1_gather_14 : decode cX1_gather 14 = .ok (.iastore, 1) := by decide +kernel
theorem dX1_gather_15 : decode cX1_gather 15 = .ok (.aload_n 0, 1) := by decide +kernel
theorem dX1_gather_16 : decode cX1_gather 16 = .ok (.iload_n 2, 1) := by decide +kernel
theorem dX1_gather_17 : decode cX1_gather 17 = .ok (.iconst 0, 1) := by decide +kernel
theorem dX1_gather_18 : decode cX1_gather 18 = .ok (.iconst 0, 1) := by decide +kernel
theorem dX1_gather_19 : decode cX1_gather 19 = .ok (.invokevirtual 40, 3) := by decide +kernel
theorem dX1_gather_22 : decode cX1_gather 22 = .ok (.iinc 2 1, 3) := by decide +kernel
theorem dX1_gather_25 : decode cX1_gather 25 = .ok (.goto (-23), 3) := by decide +kernel
theorem dX1_gather_28 : decode cX1_gather 28 = .ok (.iconst 0, 1) := by decide +kernel
theorem dX1_gather_29 : decode cX1_gather 29 = .ok (.istore_n 2, 1) := by decide +kernel
theorem dX1_gather_30 : decode cX1_gather 30 = .ok (.iload_n 2, 1) := by decide +kernel
theorem dX1_gather_31 : decode cX1_gather 31 = .ok (.aload_n 0, 1) := by decide +kernel
theorem dX1_gather_32 : decode cX1_gather 32 = .ok (.getfield 32, 3) := by decide +kernel
theorem dX1_gather_35 : decode cX1_gather 35 = .ok (.getfield 44, 3) := by decide +kernel
theorem dX1_gather_38 : decode cX1_gather 38 = .ok (.if_icmp .ge 43, 3) := by decide +kernel
theorem dX1_gather_41 : decode cX1_gather 41 = .ok (.aload_n 0, 1) := by decide +kernel
theorem dX1_gather_42 : decode cX1_gather 42 = .ok (.aload_n 0, 1) := by decide +kernel
theorem dX1_gather_43 : decode cX1_gather 43 = .ok (.getfield 32, 3) := by decide +kernel
theorem dX1_gather_46 : decode cX1_gather 46 = .ok (.getfield 50, 3) := by decide +kernel
theorem dX1_gather_49 : decode cX1_gather 49 = .ok (.iload_n 2, 1) := by decide +kernel
theorem dX1_gather_50 : decode cX1_gather 50 = .ok (.iaload, 1) := by decide +kernel
theorem dX1_gather_51 : decode cX1_gather 51 = .ok (.iload_n 2, 1) := by decide +kernel
theorem dX1_gather_52 : decode cX1_gather 52 = .ok (.aload_n 0, 1) := by decide +kernel
theorem dX1_gather_53 : decode cX1_gather 53 = .ok (.getfield 32, 3) := by decide +kernel
theorem dX1_gather_56 : decode cX1_gather 56 = .ok (.aload_n 0, 1) := by decide +kernel
theorem dX1_gather_57 : decode cX1_gather 57 = .ok (.getfield 32, 3) := by decide +kernel
theorem dX1_gather_60 : decode cX1_gather 60 = .ok (.getfield 50, 3) := by decide +kernel
theorem dX1_gather_63 : decode cX1_gather 63 = .ok (.iload_n 2, 1) := by decide +kernel
theorem dX1_gather_64 : decode cX1_gather 64 = .ok (.iaload, 1) := by decide +kernel
theorem dX1_gather_65 : decode cX1_gather 65 = .ok (.invokevirtual 53, 3) := by decide +kernel
theorem dX1_gather_68 : decode cX1_gather 68 = .ok (.iload_n 1, 1) := by decide +kernel
theorem dX1_gather_69 : decode cX1_gather 69 = .ok (.iconst (-1), 1) := by decide +kernel
theorem dX1_gather_70 : decode cX1_gather 70 = .ok (.ixor, 1) := by decide +kernel
theorem dX1_gather_71 : decode cX1_gather 71 = .ok (.iand, 1) := by decide +kernel
theorem dX1_gather_72 : decode cX1_gather 72 = .ok (.invokevirtual 57, 3) := by decide +kernel
theorem dX1_gather_75 : decode cX1_gather 75 = .ok (.iinc 2 1, 3) := by decide +kernel
theorem dX1_gather_78 : decode cX1_gather 78 = .ok (.goto (-48), 3) := by decide +kernel
theorem dX1_gather_81 : decode cX1_gather 81 = .ok (.return_, 1) := by decide +kernel
theorem dX1_dressOneMore_0 : decode cX1_dressOneMore 0 = .ok (.iload_n 1, 1) := by decide +kernel
theorem dX1_dressOneMore_1 : decode cX1_dressOneMore 1 = .ok (.ifCond .lt 9, 3) := by decide +kernel
theorem dX1_dressOneMore_4 : decode cX1_dressOneMore 4 = .ok (.iload_n 1, 1) := by decide +kernel
theorem dX1_dressOneMore_5 : decode cX1_dressOneMore 5 = .ok (.bipush 12, 2) := by decide +kernel
theorem dX1_dressOneMore_7 : decode cX1_dressOneMore 7 = .ok (.if_icmp .lt 4, 3) := by decide +kernel
theorem dX1_dressOneMore_10 : decode cX1_dressOneMore 10 = .ok (.return_, 1) := by decide +kernel
theorem dX1_dressOneMore_11 : decode cX1_dressOneMore 11 = .ok (.aload_n 0, 1) := by decide +kernel
theorem dX1_dressOneMore_12 : decode cX1_dressOneMore 12 = .ok (.getfield 17, 3) := by decide +kernel
theorem dX1_dressOneMore_15 : decode cX1_dressOneMore 15 = .ok (.iload_n 1, 1) := by decide +kernel
theorem dX1_dressOneMore_16 : decode cX1_dressOneMore 16 = .ok (.aaload, 1) := by decide +kernel
theorem dX1_dressOneMore_17 : decode cX1_dressOneMore 17 = .ok (.aload_n 0, 1) := by decide +kernel
theorem dX1_dressOneMore_18 : decode cX1_dressOneMore 18 = .ok (.getfield 17, 3) := by decide +kernel
theorem dX1_dressOneMore_21 : decode cX1_dressOneMore 21 = .ok (.bipush 12, 2) := by decide +kernel
theorem dX1_dressOneMore_23 : decode cX1_dressOneMore 23 = .ok (.aaload, 1) := by decide +kernel
theorem dX1_dressOneMore_24 : decode cX1_dressOneMore 24 = .ok (.invokestatic 60, 3) := by decide +kernel
theorem dX1_dressOneMore_27 : decode cX1_dressOneMore 27 = .ok (.aload_n 0, 1) := by decide +kernel
theorem dX1_dressOneMore_28 : decode cX1_dressOneMore 28 = .ok (.getfield 20, 3) := by decide +kernel
theorem dX1_dressOneMore_31 : decode cX1_dressOneMore 31 = .ok (.iload_n 1, 1) := by decide +kernel
theorem dX1_dressOneMore_32 : decode cX1_dressOneMore 32 = .ok (.aaload, 1) := by decide +kernel
theorem dX1_dressOneMore_33 : decode cX1_dressOneMore 33 = .ok (.aload_n 0, 1) := by decide +kernel
theorem dX1_dressOneMore_34 : decode cX1_dressOneMore 34 = .ok (.getfield 20, 3) := by decide +kernel
theorem dX1_dressOneMore_37 : decode cX1_dressOneMore 37 = .ok (.bipush 12, 2) := by decide +kernel
theorem dX1_dressOneMore_39 : decode cX1_dressOneMore 39 = .ok (.aaload, 1) := by decide +kernel
theorem dX1_dressOneMore_40 : decode cX1_dressOneMore 40 = .ok (.invokestatic 60, 3) := by decide +kernel
theorem dX1_dressOneMore_43 : decode cX1_dressOneMore 43 = .ok (.aload_n 0, 1) := by decide +kernel
theorem dX1_dressOneMore_44 : decode cX1_dressOneMore 44 = .ok (.getfield 9, 3) := by decide +kernel
theorem dX1_dressOneMore_47 : decode cX1_dressOneMore 47 = .ok (.bipush 12, 2) := by decide +kernel
theorem dX1_dressOneMore_49 : decode cX1_dressOneMore 49 = .ok (.aload_n 0, 1) := by decide +kernel
theorem dX1_dressOneMore_50 : decode cX1_dressOneMore 50 = .ok (.getfield 9, 3) := by decide +kernel
theorem dX1_dressOneMore_53 : decode cX1_dressOneMore 53 = .ok (.iload_n 1, 1) := by decide +kernel
theorem dX1_dressOneMore_54 : decode cX1_dressOneMore 54 = .ok (.iaload, 1) := by decide +kernel
theorem dX1_dressOneMore_55 : decode cX1_dressOneMore 55 = .ok (.iastore, 1) := by decide +kernel
theorem dX1_dressOneMore_56 : decode cX1_dressOneMore 56 = .ok (.aload_n 0, 1) := by decide +kernel
theorem dX1_dressOneMore_57 : decode cX1_dressOneMore 57 = .ok (.getfield 9, 3) := by decide +kernel
theorem dX1_dressOneMore_60 : decode cX1_dressOneMore 60 = .ok (.iload_n 1, 1) := by decide +kernel
theorem dX1_dressOneMore_61 : decode cX1_dressOneMore 61 = .ok (.iconst 0, 1) := by decide +kernel
theorem dX1_dressOneMore_62 : decode cX1_dressOneMore 62 = .ok (.iastore, 1) := by decide +kernel
theorem dX1_dressOneMore_63 : decode cX1_dressOneMore 63 = .ok (.iconst 0, 1) := by decide +kernel
theorem dX1_dressOneMore_64 : decode cX1_dressOneMore 64 = .ok (.istore 4, 2) := by decide +kernel
theorem dX1_dressOneMore_66 : decode cX1_dressOneMore 66 = .ok (.iload 4, 2) := by decide +kernel
theorem dX1_dressOneMore_68 : decode cX1_dressOneMore 68 = .ok (.aload_n 0, 1) := by decide +kernel
theorem dX1_dressOneMore_69 : decode cX1_dressOneMore 69 = .ok (.getfield 36, 3) := by decide +kernel
theorem dX1_dressOneMore_72 : decode cX1_dressOneMore 72 = .ok (.getfield 64, 3) := by decide +kernel
theorem dX1_dressOneMore_75 : decode cX1_dressOneMore 75 = .ok (.if_icmp .ge 101, 3) := by decide +kernel
theorem dX1_dressOneMore_78 : decode cX1_dressOneMore 78 = .ok (.aload_n 0, 1) := by decide +kernel
theorem dX1_dressOneMore_79 : decode cX1_dressOneMore 79 = .ok (.getfield 36, 3) := by decide +kernel
theorem dX1_dressOneMore_82 : decode cX1_dressOneMore 82 = .ok (.iload 4, 2) := by decide +kernel
theorem dX1_dressOneMore_84 : decode cX1_dressOneMore 84 = .ok (.iload_n 2, 1) := by decide +kernel
theorem dX1_dressOneMore_85 : decode cX1_dressOneMore 85 = .ok (.iload_n 3, 1) := by decide +kernel
theorem dX1_dressOneMore_86 : decode cX1_dressOneMore 86 = .ok (.invokevirtual 69, 3) := by decide +kernel
theorem dX1_dressOneMore_89 : decode cX1_dressOneMore 89 = .ok (.ifCond .eq 81, 3) := by decide +kernel
theorem dX1_dressOneMore_92 : decode cX1_dressOneMore 92 = .ok (.aload_n 0, 1) := by decide +kernel
theorem dX1_dressOneMore_93 : decode cX1_dressOneMore 93 = .ok (.getfield 36, 3) := by decide +kernel
theorem dX1_dressOneMore_96 : decode cX1_dressOneMore 96 = .ok (.iload 4, 2) := by decide +kernel
theorem dX1_dressOneMore_98 : decode cX1_dressOneMore 98 = .ok (.invokevirtual 73, 3) := by decide +kernel
theorem dX1_dressOneMore_101 : decode cX1_dressOneMore 101 = .ok (.istore 5, 2) := by decide +kernel
theorem dX1_dressOneMore_103 : decode cX1_dressOneMore 103 = .ok (.iconst 0, 1) := by decide +kernel
theorem dX1_dressOneMore_104 : decode cX1_dressOneMore 104 = .ok (.istore 6, 2) := by decide +kernel
theorem dX1_dressOneMore_106 : decode cX1_dressOneMore 106 = .ok (.iload 6, 2) := by decide +kernel
theorem dX1_dressOneMore_108 : decode cX1_dressOneMore 108 = .ok (.aload_n 0, 1) := by decide +kernel
theorem dX1_dressOneMore_109 : decode cX1_dressOneMore 109 = .ok (.getfield 9, 3) := by decide +kernel
theorem dX1_dressOneMore_112 : decode cX1_dressOneMore 112 = .ok (.bipush 12, 2) := by decide +kernel
theorem dX1_dressOneMore_114 : decode cX1_dressOneMore 114 = .ok (.iaload, 1) := by decide +kernel
theorem dX1_dressOneMore_115 : decode cX1_dressOneMore 115 = .ok (.if_icmp .ge 55, 3) := by decide +kernel
theorem dX1_dressOneMore_118 : decode cX1_dressOneMore 118 = .ok (.aload_n 0, 1) := by decide +kernel
theorem dX1_dressOneMore_119 : decode cX1_dressOneMore 119 = .ok (.getfield 17, 3) := by decide +kernel
theorem dX1_dressOneMore_122 : decode cX1_dressOneMore 122 = .ok (.bipush 12, 2) := by decide +kernel
theorem dX1_dressOneMore_124 : decode cX1_dressOneMore 124 = .ok (.aaload, 1) := by decide +kernel
theorem dX1_dressOneMore_125 : decode cX1_dressOneMore 125 = .ok (.iload 6, 2) := by decide +kernel
theorem dX1_dressOneMore_127 : decode cX1_dressOneMore 127 = .ok (.iaload, 1) := by decide +kernel
theorem dX1_dressOneMore_128 : decode cX1_dressOneMore 128 = .ok (.istore 7, 2) := by decide +kernel
theorem dX1_dressOneMore_130 : decode cX1_dressOneMore 130 = .ok (.iload 7, 2) := by decide +kernel
theorem dX1_dressOneMore_132 : decode cX1_dressOneMore 132 = .ok (.iload 5, 2) := by decide +kernel
theorem dX1_dressOneMore_134 : decode cX1_dressOneMore 134 = .ok (.iand, 1) := by decide +kernel
theorem dX1_dressOneMore_135 : decode cX1_dressOneMore 135 = .ok (.ifCond .ne 29, 3) := by decide +kernel
theorem dX1_dressOneMore_138 : decode cX1_dressOneMore 138 = .ok (.aload_n 0, 1) := by decide +kernel
theorem dX1_dressOneMore_139 : decode cX1_dressOneMore 139 = .ok (.iload_n 1, 1) := by decide +kernel
theorem dX1_dressOneMore_140 : decode cX1_dressOneMore 140 = .ok (.iload 7, 2) := by decide +kernel
theorem dX1_dressOneMore_142 : decode cX1_dressOneMore 142 = .ok (.iload 5, 2) := by decide +kernel
theorem dX1_dressOneMore_144 : decode cX1_dressOneMore 144 = .ok (.ior, 1) := by decide +kernel
theorem dX1_dressOneMore_145 : decode cX1_dressOneMore 145 = .ok (.aload_n 0, 1) := by decide +kernel
theorem dX1_dressOneMore_146 : decode cX1_dressOneMore 146 = .ok (.getfield 20, 3) := by decide +kernel
theorem dX1_dressOneMore_149 : decode cX1_dressOneMore 149 = .ok (.bipush 12, 2) := by decide +kernel
theorem dX1_dressOneMore_151 : decode cX1_dressOneMore 151 = .ok (.aaload, 1) := by decide +kernel
theorem dX1_dressOneMore_152 : decode cX1_dressOneMore 152 = .ok (.iload 6, 2) := by decide +kernel
theorem dX1_dressOneMore_154 : decode cX1_dressOneMore 154 = .ok (.iaload, 1) := by decide +kernel
theorem dX1_dressOneMore_155 : decode cX1_dressOneMore 155 = .ok (.bipush 64, 2) := by decide +kernel
theorem dX1_dressOneMore_157 : decode cX1_dressOneMore 157 = .ok (.imul, 1) := by decide +kernel
theorem dX1_dressOneMore_158 : decode cX1_dressOneMore 158 = .ok (.iload 4, 2) := by decide +kernel
theorem dX1_dressOneMore_160 : decode cX1_dressOneMore 160 = .ok (.iadd, 1) := by decide +kernel
theorem dX1_dressOneMore_161 : decode cX1_dressOneMore 161 = .ok (.invokevirtual 40, 3) := by decide +kernel
theorem dX1_dressOneMore_164 : decode cX1_dressOneMore 164 = .ok (.iinc 6 1, 3) := by decide +kernel
theorem dX1_dressOneMore_167 : decode cX1_dressOneMore 167 = .ok (.goto (-61), 3) := by decide +kernel
theorem dX1_dressOneMore_170 : decode cX1_dressOneMore 170 = .ok (.iinc 4 1, 3) := by decide +kernel
theorem dX1_dressOneMore_173 : decode cX1_dressOneMore 173 = .ok (.goto (-107), 3) := by decide +kernel
theorem dX1_dressOneMore_176 : decode cX1_dressOneMore 176 = .ok (.return_, 1) := by decide +kernel
theorem dX1_addSet_0 : decode cX1_addSet 0 = .ok (.aload_n 0, 1) := by decide +kernel
theorem dX1_addSet_1 : decode cX1_addSet 1 = .ok (.getfield 17, 3) := by decide +kernel
theorem dX1_addSet_4 : decode cX1_addSet 4 = .ok (.iload_n 1, 1) := by decide +kernel
theorem dX1_addSet_5 : decode cX1_addSet 5 = .ok (.aaload, 1) := by decide +kernel
theorem dX1_addSet_6 : decode cX1_addSet 6 = .ok (.astore 4, 2) := by decide +kernel
theorem dX1_addSet_8 : decode cX1_addSet 8 = .ok (.aload_n 0, 1) := by decide +kernel
theorem dX1_addSet_9 : decode cX1_addSet 9 = .ok (.getfield 9, 3) := by decide +kernel
theorem dX1_addSet_12 : decode cX1_addSet 12 = .ok (.iload_n 1, 1) := by decide +kernel
theorem dX1_addSet_13 : decode cX1_addSet 13 = .ok (.iaload, 1) := by decide +kernel
theorem dX1_addSet_14 : decode cX1_addSet 14 = .ok (.istore 5, 2) := by decide +kernel
theorem dX1_addSet_16 : decode cX1_addSet 16 = .ok (.iload 5, 2) := by decide +kernel
theorem dX1_addSet_18 : decode cX1_addSet 18 = .ok (.istore 6, 2) := by decide +kernel
theorem dX1_addSet_20 : decode cX1_addSet 20 = .ok (.iload 6, 2) := by decide +kernel
theorem dX1_addSet_22 : decode cX1_addSet 22 = .ok (.ifCond .le 20, 3) := by decide +kernel
theorem dX1_addSet_25 : decode cX1_addSet 25 = .ok (.aload 4, 2) := by decide +kernel
theorem dX1_addSet_27 : decode cX1_addSet 27 = .ok (.iload 6, 2) := by decide +kernel
theorem dX1_addSet_29 : decode cX1_addSet 29 = .ok (.iconst 1, 1) := by decide +kernel
theorem dX1_addSet_30 : decode cX1_addSet 30 = .ok (.isub, 1) := by decide +kernel
theorem dX1_addSet_31 : decode cX1_addSet 31 = .ok (.iaload, 1) := by decide +kernel
theorem dX1_addSet_32 : decode cX1_addSet 32 = .ok (.iload_n 2, 1) := by decide +kernel
theorem dX1_addSet_33 : decode cX1_addSet 33 = .ok (.if_icmp .lt 9, 3) := by decide +kernel
theorem dX1_addSet_36 : decode cX1_addSet 36 = .ok (.iinc 6 (-1), 3) := by decide +kernel
theorem dX1_addSet_39 : decode cX1_addSet 39 = .ok (.goto (-19), 3) := by decide +kernel
theorem dX1_addSet_42 : decode cX1_addSet 42 = .ok (.iload 6, 2) := by decide +kernel
theorem dX1_addSet_44 : decode cX1_addSet 44 = .ok (.iload 5, 2) := by decide +kernel
theorem dX1_addSet_46 : decode cX1_addSet 46 = .ok (.if_icmp .ge 35, 3) := by decide +kernel
theorem dX1_addSet_49 : decode cX1_addSet 49 = .ok (.aload 4, 2) := by decide +kernel
theorem dX1_addSet_51 : decode cX1_addSet 51 = .ok (.iload 6, 2) := by decide +kernel
theorem dX1_addSet_53 : decode cX1_addSet 53 = .ok (.iaload, 1) := by decide +kernel
theorem dX1_addSet_54 : decode cX1_addSet 54 = .ok (.iload_n 2, 1) := by decide +kernel
theorem dX1_addSet_55 : decode cX1_addSet 55 = .ok (.if_icmp .ne 26, 3) := by decide +kernel
theorem dX1_addSet_58 : decode cX1_addSet 58 = .ok (.aload_n 0, 1) := by decide +kernel
theorem dX1_addSet_59 : decode cX1_addSet 59 = .ok (.getfield 20, 3) := by decide +kernel
theorem dX1_addSet_62 : decode cX1_addSet 62 = .ok (.iload_n 1, 1) := by decide +kernel
theorem dX1_addSet_63 : decode cX1_addSet 63 = .ok (.aaload, 1) := by decide +kernel
theorem dX1_addSet_64 : decode cX1_addSet 64 = .ok (.iload 6, 2) := by decide +kernel
theorem dX1_addSet_66 : decode cX1_addSet 66 = .ok (.aload_n 0, 1) := by decide +kernel
theorem dX1_addSet_67 : decode cX1_addSet 67 = .ok (.getfield 20, 3) := by decide +kernel
theorem dX1_addSet_70 : decode cX1_addSet 70 = .ok (.iload_n 1, 1) := by decide +kernel
theorem dX1_addSet_71 : decode cX1_addSet 71 = .ok (.aaload, 1) := by decide +kernel
theorem dX1_addSet_72 : decode cX1_addSet 72 = .ok (.iload 6, 2) := by decide +kernel
theorem dX1_addSet_74 : decode cX1_addSet 74 = .ok (.iaload, 1) := by decide +kernel
theorem dX1_addSet_75 : decode cX1_addSet 75 = .ok (.iload_n 3, 1) := by decide +kernel
theorem dX1_addSet_76 : decode cX1_addSet 76 = .ok (.invokestatic 76, 3) := by decide +kernel
theorem dX1_addSet_79 : decode cX1_addSet 79 = .ok (.iastore, 1) := by decide +kernel
theorem dX1_addSet_80 : decode cX1_addSet 80 = .ok (.return_, 1) := by decide +kernel
theorem dX1_addSet_81 : decode cX1_addSet 81 = .ok (.iload 5, 2) := by decide +kernel
theorem dX1_addSet_83 : decode cX1_addSet 83 = .ok (.bipush 64, 2) := by decide +kernel
theorem dX1_addSet_85 : decode cX1_addSet 85 = .ok (.if_icmp .lt 4, 3) := by decide +kernel
theorem dX1_addSet_88 : decode cX1_addSet 88 = .ok (.return_, 1) := by decide +kernel
theorem dX1_addSet_89 : decode cX1_addSet 89 = .ok (.iload 5, 2) := by decide +kernel
theorem dX1_addSet_91 : decode cX1_addSet 91 = .ok (.istore 7, 2) := by decide +kernel
theorem dX1_addSet_93 : decode cX1_addSet 93 = .ok (.iload 7, 2) := by decide +kernel
theorem dX1_addSet_95 : decode cX1_addSet 95 = .ok (.iload 6, 2) := by decide +kernel
theorem dX1_addSet_97 : decode cX1_addSet 97 = .ok (.if_icmp .le 41, 3) := by decide +kernel
theorem dX1_addSet_100 : decode cX1_addSet 100 = .ok (.aload 4, 2) := by decide +kernel
theorem dX1_addSet_102 : decode cX1_addSet 102 = .ok (.iload 7, 2) := by decide +kernel
theorem dX1_addSet_104 : decode cX1_addSet 104 = .ok (.aload 4, 2) := by decide +kernel
theorem dX1_addSet_106 : decode cX1_addSet 106 = .ok (.iload 7, 2) := by decide +kernel
theorem dX1_addSet_108 : decode cX1_addSet 108 = .ok (.iconst 1, 1) := by decide +kernel
theorem dX1_addSet_109 : decode cX1_addSet 109 = .ok (.isub, 1) := by decide +kernel
theorem dX1_addSet_110 : decode cX1_addSet 110 = .ok (.iaload, 1) := by decide +kernel
theorem dX1_addSet_111 : decode cX1_addSet 111 = .ok (.iastore, 1) := by decide +kernel
theorem dX1_addSet_112 : decode cX1_addSet 112 = .ok (.aload_n 0, 1) := by decide +kernel
theorem dX1_addSet_113 : decode cX1_addSet 113 = .ok (.getfield 20, 3) := by decide +kernel
theorem dX1_addSet_116 : decode cX1_addSet 116 = .ok (.iload_n 1, 1) := by decide +kernel
theorem dX1_addSet_117 : decode cX1_addSet 117 = .ok (.aaload, 1) := by decide +kernel
theorem dX1_addSet_118 : decode cX1_addSet 118 = .ok (.iload 7, 2) := by decide +kernel
theorem dX1_addSet_120 : decode cX1_addSet 120 = .ok (.aload_n 0, 1) := by decide +kernel
theorem dX1_addSet_121 : decode cX1_addSet 121 = .ok (.getfield 20, 3) := by decide +kernel
theorem dX1_addSet_124 : decode cX1_addSet 124 = .ok (.iload_n 1, 1) := by decide +kernel
theorem dX1_addSet_125 : decode cX1_addSet 125 = .ok (.aaload, 1) := by decide +kernel
theorem dX1_addSet_126 : decode cX1_addSet 126 = .ok (.iload 7, 2) := by decide +kernel
theorem dX1_addSet_128 : decode cX1_addSet 128 = .ok (.iconst 1, 1) := by decide +kernel
theorem dX1_addSet_129 : decode cX1_addSet 129 = .ok (.isub, 1) := by decide +kernel
theorem dX1_addSet_130 : decode cX1_addSet 130 = .ok (.iaload, 1) := by decide +kernel
theorem dX1_addSet_131 : decode cX1_addSet 131 = .ok (.iastore, 1) := by decide +kernel
theorem dX1_addSet_132 : decode cX1_addSet 132 = .ok (.iinc 7 (-1), 3) := by decide +kernel
theorem dX1_addSet_135 : decode cX1_addSet 135 = .ok (.goto (-42), 3) := by decide +kernel
theorem dX1_addSet_138 : decode cX1_addSet 138 = .ok (.aload 4, 2) := by decide +kernel
theorem dX1_addSet_140 : decode cX1_addSet 140 = .ok (.iload 6, 2) := by decide +kernel
theorem dX1_addSet_142 : decode cX1_addSet 142 = .ok (.iload_n 2, 1) := by decide +kernel
theorem dX1_addSet_143 : decode cX1_addSet 143 = .ok (.iastore, 1) := by decide +kernel
theorem dX1_addSet_144 : decode cX1_addSet 144 = .ok (.aload_n 0, 1) := by decide +kernel
theorem dX1_addSet_145 : decode cX1_addSet 145 = .ok (.getfield 20, 3) := by decide +kernel
theorem dX1_addSet_148 : decode cX1_addSet 148 = .ok (.iload_n 1, 1) := by decide +kernel
theorem dX1_addSet_149 : decode cX1_addSet 149 = .ok (.aaload, 1) := by decide +kernel
theorem dX1_addSet_150 : decode cX1_addSet 150 = .ok (.iload 6, 2) := by decide +kernel
theorem dX1_addSet_152 : decode cX1_addSet 152 = .ok (.iload_n 3, 1) := by decide +kernel
theorem dX1_addSet_153 : decode cX1_addSet 153 = .ok (.iastore, 1) := by decide +kernel
theorem dX1_addSet_154 : decode cX1_addSet 154 = .ok (.aload_n 0, 1) := by decide +kernel
theorem dX1_addSet_155 : decode cX1_addSet 155 = .ok (.getfield 9, 3) := by decide +kernel
theorem dX1_addSet_158 : decode cX1_addSet 158 = .ok (.iload_n 1, 1) := by decide +kernel
theorem dX1_addSet_159 : decode cX1_addSet 159 = .ok (.iload 5, 2) := by decide +kernel
theorem dX1_addSet_161 : decode cX1_addSet 161 = .ok (.iconst 1, 1) := by decide +kernel
theorem dX1_addSet_162 : decode cX1_addSet 162 = .ok (.iadd, 1) := by decide +kernel
theorem dX1_addSet_163 : decode cX1_addSet 163 = .ok (.iastore, 1) := by decide +kernel
theorem dX1_addSet_164 : decode cX1_addSet 164 = .ok (.return_, 1) := by decide +kernel
theorem dX1_choose_0 : decode cX1_choose 0 = .ok (.bipush 11, 2) := by decide +kernel
theorem dX1_choose_2 : decode cX1_choose 2 = .ok (.istore_n 3, 1) := by decide +kernel
theorem dX1_choose_3 : decode cX1_choose 3 = .ok (.iload_n 3, 1) := by decide +kernel
theorem dX1_choose_4 : decode cX1_choose 4 = .ok (.ifCond .lt 83, 3) := by decide +kernel
theorem dX1_choose_7 : decode cX1_choose 7 = .ok (.iconst 0, 1) := by decide +kernel
theorem dX1_choose_8 : decode cX1_choose 8 = .ok (.istore 4, 2) := by decide +kernel
theorem dX1_choose_10 : decode cX1_choose 10 = .ok (.iload 4, 2) := by decide +kernel
theorem dX1_choose_12 : decode cX1_choose 12 = .ok (.aload_n 0, 1) := by decide +kernel
theorem dX1_choose_13 : decode cX1_choose 13 = .ok (.getfield 9, 3) := by decide +kernel
theorem dX1_choose_16 : decode cX1_choose 16 = .ok (.iload_n 3, 1) := by decide +kernel
theorem dX1_choose_17 : decode cX1_choose 17 = .ok (.iaload, 1) := by decide +kernel
theorem dX1_choose_18 : decode cX1_choose 18 = .ok (.if_icmp .ge 63, 3) := by decide +kernel
theorem dX1_choose_21 : decode cX1_choose 21 = .ok (.aload_n 0, 1) := by decide +kernel
theorem dX1_choose_22 : decode cX1_choose 22 = .ok (.iload_n 3, 1) := by decide +kernel
theorem dX1_choose_23 : decode cX1_choose 23 = .ok (.aload_n 0, 1) := by decide +kernel
theorem dX1_choose_24 : decode cX1_choose 24 = .ok (.getfield 17, 3) := by decide +kernel
theorem dX1_choose_27 : decode cX1_choose 27 = .ok (.iload_n 3, 1) := by decide +kernel
theorem dX1_choose_28 : decode cX1_choose 28 = .ok (.aaload, 1) := by decide +kernel
theorem dX1_choose_29 : decode cX1_choose 29 = .ok (.iload 4, 2) := by decide +kernel
theorem dX1_choose_31 : decode cX1_choose 31 = .ok (.iaload, 1) := by decide +kernel
theorem dX1_choose_32 : decode cX1_choose 32 = .ok (.iload_n 2, 1) := by decide +kernel
theorem dX1_choose_33 : decode cX1_choose 33 = .ok (.invokevirtual 82, 3) := by decide +kernel
theorem dX1_choose_36 : decode cX1_choose 36 = .ok (.istore 5, 2) := by decide +kernel
theorem dX1_choose_38 : decode cX1_choose 38 = .ok (.aload_n 0, 1) := by decide +kernel
theorem dX1_choose_39 : decode cX1_choose 39 = .ok (.getfield 23, 3) := by decide +kernel
theorem dX1_choose_42 : decode cX1_choose 42 = .ok (.iload_n 3, 1) := by decide +kernel
theorem dX1_choose_43 : decode cX1_choose 43 = .ok (.aaload, 1) := by decide +kernel
theorem dX1_choose_44 : decode cX1_choose 44 = .ok (.iload 4, 2) := by decide +kernel
theorem dX1_choose_46 : decode cX1_choose 46 = .ok (.iload 5, 2) := by decide +kernel
theorem dX1_choose_48 : decode cX1_choose 48 = .ok (.ldc 86, 2) := by decide +kernel
theorem dX1_choose_50 : decode cX1_choose 50 = .ok (.if_icmp .ne 8, 3) := by decide +kernel
theorem dX1_choose_53 : decode cX1_choose 53 = .ok (.ldc 86, 2) := by decide +kernel
theorem dX1_choose_55 : decode cX1_choose 55 = .ok (.goto 19, 3) := by decide +kernel
theorem dX1_choose_58 : decode cX1_choose 58 = .ok (.iload 5, 2) := by decide +kernel
theorem dX1_choose_60 : decode cX1_choose 60 = .ok (.aload_n 0, 1) := by decide +kernel
theorem dX1_choose_61 : decode cX1_choose 61 = .ok (.getfield 17, 3) := by decide +kernel
theorem dX1_choose_64 : decode cX1_choose 64 = .ok (.iload_n 3, 1) := by decide +kernel
theorem dX1_choose_65 : decode cX1_choose 65 = .ok (.aaload, 1) := by decide +kernel
theorem dX1_choose_66 : decode cX1_choose 66 = .ok (.iload 4, 2) := by decide +kernel
theorem dX1_choose_68 : decode cX1_choose 68 = .ok (.iaload, 1) := by decide +kernel
theorem dX1_choose_69 : decode cX1_choose 69 = .ok (.aload_n 1, 1) := by decide +kernel
theorem dX1_choose_70 : decode cX1_choose 70 = .ok (.invokestatic 87, 3) := by decide +kernel
theorem dX1_choose_73 : decode cX1_choose 73 = .ok (.iadd, 1) := by decide +kernel
theorem dX1_choose_74 : decode cX1_choose 74 = .ok (.iastore, 1) := by decide +kernel
theorem dX1_choose_75 : decode cX1_choose 75 = .ok (.iinc 4 1, 3) := by decide +kernel
theorem dX1_choose_78 : decode cX1_choose 78 = .ok (.goto (-68), 3) := by decide +kernel
theorem dX1_choose_81 : decode cX1_choose 81 = .ok (.iinc 3 (-1), 3) := by decide +kernel
theorem dX1_choose_84 : decode cX1_choose 84 = .ok (.goto (-81), 3) := by decide +kernel
theorem dX1_choose_87 : decode cX1_choose 87 = .ok (.aload_n 0, 1) := by decide +kernel
theorem dX1_choose_88 : decode cX1_choose 88 = .ok (.aload_n 0, 1) := by decide +kernel
theorem dX1_choose_89 : decode cX1_choose 89 = .ok (.iconst (-1), 1) := by decide +kernel
theorem dX1_choose_90 : decode cX1_choose 90 = .ok (.iconst 0, 1) := by decide +kernel
theorem dX1_choose_91 : decode cX1_choose 91 = .ok (.iload_n 2, 1) := by decide +kernel
theorem dX1_choose_92 : decode cX1_choose 92 = .ok (.invokevirtual 82, 3) := by decide +kernel
theorem dX1_choose_95 : decode cX1_choose 95 = .ok (.putfield 91, 3) := by decide +kernel
theorem dX1_choose_98 : decode cX1_choose 98 = .ok (.iconst 0, 1) := by decide +kernel
theorem dX1_choose_99 : decode cX1_choose 99 = .ok (.istore_n 3, 1) := by decide +kernel
theorem dX1_choose_100 : decode cX1_choose 100 = .ok (.iconst 0, 1) := by decide +kernel
theorem dX1_choose_101 : decode cX1_choose 101 = .ok (.istore 4, 2) := by decide +kernel
theorem dX1_choose_103 : decode cX1_choose 103 = .ok (.iload 4, 2) := by decide +kernel
theorem dX1_choose_105 : decode cX1_choose 105 = .ok (.bipush 12, 2) := by decide +kernel
theorem dX1_choose_107 : decode cX1_choose 107 = .ok (.if_icmp .ge 87, 3) := by decide +kernel
theorem dX1_choose_110 : decode cX1_choose 110 = .ok (.aload_n 0, 1) := by decide +kernel
theorem dX1_choose_111 : decode cX1_choose 111 = .ok (.getfield 91, 3) := by decide +kernel
theorem dX1_choose_114 : decode cX1_choose 114 = .ok (.ldc 86, 2) := by decide +kernel
theorem dX1_choose_116 : decode cX1_choose 116 = .ok (.if_icmp .ne 7, 3) := by decide +kernel
theorem dX1_choose_119 : decode cX1_choose 119 = .ok (.iconst (-1), 1) := by decide +kernel
theorem dX1_choose_120 : decode cX1_choose 120 = .ok (.goto 11, 3) := by decide +kernel
theorem dX1_choose_123 : decode cX1_choose 123 = .ok (.aload_n 0, 1) := by decide +kernel
theorem dX1_choose_124 : decode cX1_choose 124 = .ok (.iload 4, 2) := by decide +kernel
theorem dX1_choose_126 : decode cX1_choose 126 = .ok (.iload_n 3, 1) := by decide +kernel
theorem dX1_choose_127 : decode cX1_choose 127 = .ok (.iload_n 2, 1) := by decide +kernel
theorem dX1_choose_128 : decode cX1_choose 128 = .ok (.invokevirtual 94, 3) := by decide +kernel
theorem dX1_choose_131 : decode cX1_choose 131 = .ok (.istore 5, 2) := by decide +kernel
theorem dX1_choose_133 : decode cX1_choose 133 = .ok (.iload 5, 2) := by decide +kernel
theorem dX1_choose_135 : decode cX1_choose 135 = .ok (.iconst (-1), 1) := by decide +kernel
theorem dX1_choose_136 : decode cX1_choose 136 = .ok (.if_icmp .ne 7, 3) := by decide +kernel
theorem dX1_choose_139 : decode cX1_choose 139 = .ok (.iconst 0, 1) := by decide +kernel
theorem dX1_choose_140 : decode cX1_choose 140 = .ok (.goto 13, 3) := by decide +kernel
theorem dX1_choose_143 : decode cX1_choose 143 = .ok (.aload_n 0, 1) := by decide +kernel
theorem dX1_choose_144 : decode cX1_choose 144 = .ok (.getfield 17, 3) := by decide +kernel
theorem dX1_choose_147 : decode cX1_choose 147 = .ok (.iload 4, 2) := by decide +kernel
theorem dX1_choose_149 : decode cX1_choose 149 = .ok (.aaload, 1) := by decide +kernel
theorem dX1_choose_150 : decode cX1_choose 150 = .ok (.iload 5, 2) := by decide +kernel
theorem dX1_choose_152 : decode cX1_choose 152 = .ok (.iaload, 1) := by decide +kernel
theorem dX1_choose_153 : decode cX1_choose 153 = .ok (.istore_n 3, 1) := by decide +kernel
theorem dX1_choose_154 : decode cX1_choose 154 = .ok (.aload_n 0, 1) := by decide +kernel
theorem dX1_choose_155 : decode cX1_choose 155 = .ok (.getfield 26, 3) := by decide +kernel
theorem dX1_choose_158 : decode cX1_choose 158 = .ok (.iload 4, 2) := by decide +kernel
theorem dX1_choose_160 : decode cX1_choose 160 = .ok (.iload_n 3, 1) := by decide +kernel
theorem dX1_choose_161 : decode cX1_choose 161 = .ok (.iastore, 1) := by decide +kernel
theorem dX1_choose_162 : decode cX1_choose 162 = .ok (.aload_n 0, 1) := by decide +kernel
theorem dX1_choose_163 : decode cX1_choose 163 = .ok (.iload 4, 2) := by decide +kernel
theorem dX1_choose_165 : decode cX1_choose 165 = .ok (.iload 5, 2) := by decide +kernel
theorem dX1_choose_167 : decode cX1_choose 167 = .ok (.iconst (-1), 1) := by decide +kernel
theorem dX1_choose_168 : decode cX1_choose 168 = .ok (.if_icmp .ne 7, 3) := by decide +kernel
theorem dX1_choose_171 : decode cX1_choose 171 = .ok (.iconst 0, 1) := by decide +kernel
theorem dX1_choose_172 : decode cX1_choose 172 = .ok (.goto 13, 3) := by decide +kernel
theorem dX1_choose_175 : decode cX1_choose 175 = .ok (.aload_n 0, 1) := by decide +kernel
theorem dX1_choose_176 : decode cX1_choose 176 = .ok (.getfield 20, 3) := by decide +kernel
theorem dX1_choose_179 : decode cX1_choose 179 = .ok (.iload 4, 2) := by decide +kernel
theorem dX1_choose_181 : decode cX1_choose 181 = .ok (.aaload, 1) := by decide +kernel
theorem dX1_choose_182 : decode cX1_choose 182 = .ok (.iload 5, 2) := by decide +kernel
theorem dX1_choose_184 : decode cX1_choose 184 = .ok (.iaload, 1) := by decide +kernel
theorem dX1_choose_185 : decode cX1_choose 185 = .ok (.invokevirtual 97, 3) := by decide +kernel
theorem dX1_choose_188 : decode cX1_choose 188 = .ok (.iinc 4 1, 3) := by decide +kernel
theorem dX1_choose_191 : decode cX1_choose 191 = .ok (.goto (-88), 3) := by decide +kernel
theorem dX1_choose_194 : decode cX1_choose 194 = .ok (.aload_n 0, 1) := by decide +kernel
theorem dX1_choose_195 : decode cX1_choose 195 = .ok (.getfield 91, 3) := by decide +kernel
theorem dX1_choose_198 : decode cX1_choose 198 = .ok (.ldc 86, 2) := by decide +kernel
theorem dX1_choose_200 : decode cX1_choose 200 = .ok (.if_icmp .ne 8, 3) := by decide +kernel
theorem dX1_choose_203 : decode cX1_choose 203 = .ok (.aload_n 0, 1) := by decide +kernel
theorem dX1_choose_204 : decode cX1_choose 204 = .ok (.iconst (-1), 1) := by decide +kernel
theorem dX1_choose_205 : decode cX1_choose 205 = .ok (.putfield 91, 3) := by decide +kernel
theorem dX1_choose_208 : decode cX1_choose 208 = .ok (.return_, 1) := by decide +kernel
theorem dX1_cheapestAfter_0 : decode cX1_cheapestAfter 0 = .ok (.iload_n 1, 1) := by decide +kernel
theorem dX1_cheapestAfter_1 : decode cX1_cheapestAfter 1 = .ok (.iconst 1, 1) := by decide +kernel
theorem dX1_cheapestAfter_2 : decode cX1_cheapestAfter 2 = .ok (.iadd, 1) := by decide +kernel
theorem dX1_cheapestAfter_3 : decode cX1_cheapestAfter 3 = .ok (.bipush 12, 2) := by decide +kernel
theorem dX1_cheapestAfter_5 : decode cX1_cheapestAfter 5 = .ok (.if_icmp .lt 5, 3) := by decide +kernel
theorem dX1_cheapestAfter_8 : decode cX1_cheapestAfter 8 = .ok (.iconst 0, 1) := by decide +kernel
theorem dX1_cheapestAfter_9 : decode cX1_cheapestAfter 9 = .ok (.ireturn, 1) := by decide +kernel
theorem dX1_cheapestAfter_10 : decode cX1_cheapestAfter 10 = .ok (.aload_n 0, 1) := by decide +kernel
theorem dX1_cheapestAfter_11 : decode cX1_cheapestAfter 11 = .ok (.iload_n 1, 1) := by decide +kernel
theorem dX1_cheapestAfter_12 : decode cX1_cheapestAfter 12 = .ok (.iconst 1, 1) := by decide +kernel
theorem dX1_cheapestAfter_13 : decode cX1_cheapestAfter 13 = .ok (.iadd, 1) := by decide +kernel
theorem dX1_cheapestAfter_14 : decode cX1_cheapestAfter 14 = .ok (.iload_n 2, 1) := by decide +kernel
theorem dX1_cheapestAfter_15 : decode cX1_cheapestAfter 15 = .ok (.iload_n 3, 1) := by decide +kernel
theorem dX1_cheapestAfter_16 : decode cX1_cheapestAfter 16 = .ok (.invokevirtual 94, 3) := by decide +kernel
theorem dX1_cheapestAfter_19 : decode cX1_cheapestAfter 19 = .ok (.istore 4, 2) := by decide +kernel
theorem dX1_cheapestAfter_21 : decode cX1_cheapestAfter 21 = .ok (.iload 4, 2) := by decide +kernel
theorem dX1_cheapestAfter_23 : decode cX1_cheapestAfter 23 = .ok (.iconst (-1), 1) := by decide +kernel
theorem dX1_cheapestAfter_24 : decode cX1_cheapestAfter 24 = .ok (.if_icmp .ne 8, 3) := by decide +kernel
theorem dX1_cheapestAfter_27 : decode cX1_cheapestAfter 27 = .ok (.ldc 86, 2) := by decide +kernel
theorem dX1_cheapestAfter_29 : decode cX1_cheapestAfter 29 = .ok (.goto 14, 3) := by decide +kernel
theorem dX1_cheapestAfter_32 : decode cX1_cheapestAfter 32 = .ok (.aload_n 0, 1) := by decide +kernel
theorem dX1_cheapestAfter_33 : decode cX1_cheapestAfter 33 = .ok (.getfield 23, 3) := by decide +kernel
theorem dX1_cheapestAfter_36 : decode cX1_cheapestAfter 36 = .ok (.iload_n 1, 1) := by decide +kernel
theorem dX1_cheapestAfter_37 : decode cX1_cheapestAfter 37 = .ok (.iconst 1, 1) := by decide +kernel
theorem dX1_cheapestAfter_38 : decode cX1_cheapestAfter 38 = .ok (.iadd, 1) := by decide +kernel
theorem dX1_cheapestAfter_39 : decode cX1_cheapestAfter 39 = .ok (.aaload, 1) := by decide +kernel
theorem dX1_cheapestAfter_40 : decode cX1_cheapestAfter 40 = .ok (.iload 4, 2) := by decide +kernel
theorem dX1_cheapestAfter_42 : decode cX1_cheapestAfter 42 = .ok (.iaload, 1) := by decide +kernel
theorem dX1_cheapestAfter_43 : decode cX1_cheapestAfter 43 = .ok (.ireturn, 1) := by decide +kernel
theorem dX1_firstCheapest_0 : decode cX1_firstCheapest 0 = .ok (.iconst (-1), 1) := by decide +kernel
theorem dX1_firstCheapest_1 : decode cX1_firstCheapest 1 = .ok (.istore 4, 2) := by decide +kernel
theorem dX1_firstCheapest_3 : decode cX1_firstCheapest 3 = .ok (.ldc 86, 2) := by decide +kernel
theorem dX1_firstCheapest_5 : decode cX1_firstCheapest 5 = .ok (.istore 5, 2) := by decide +kernel
theorem dX1_firstCheapest_7 : decode cX1_firstCheapest 7 = .ok (.iconst 0, 1) := by decide +kernel
theorem dX1_firstCheapest_8 : decode cX1_firstCheapest 8 = .ok (.istore 6, 2) := by decide +kernel
theorem dX1_firstCheapest_10 : decode cX1_firstCheapest 10 = .ok (.iload 6, 2) := by decide +kernel
theorem dX1_firstCheapest_12 : decode cX1_firstCheapest 12 = .ok (.aload_n 0, 1) := by decide +kernel
theorem dX1_firstCheapest_13 : decode cX1_firstCheapest 13 = .ok (.getfield 9, 3) := by decide +kernel
theorem dX1_firstCheapest_16 : decode cX1_firstCheapest 16 = .ok (.iload_n 1, 1) := by decide +kernel
theorem dX1_firstCheapest_17 : decode cX1_firstCheapest 17 = .ok (.iaload, 1) := by decide +kernel
theorem dX1_firstCheapest_18 : decode cX1_firstCheapest 18 = .ok (.if_icmp .ge 56, 3) := by decide +kernel
theorem dX1_firstCheapest_21 : decode cX1_firstCheapest 21 = .ok (.aload_n 0, 1) := by decide +kernel
theorem dX1_firstCheapest_22 : decode cX1_firstCheapest 22 = .ok (.getfield 23, 3) := by decide +kernel
theorem dX1_firstCheapest_25 : decode cX1_firstCheapest 25 = .ok (.iload_n 1, 1) := by decide +kernel
theorem dX1_firstCheapest_26 : decode cX1_firstCheapest 26 = .ok (.aaload, 1) := by decide +kernel
theorem dX1_firstCheapest_27 : decode cX1_firstCheapest 27 = .ok (.iload 6, 2) := by decide +kernel
theorem dX1_firstCheapest_29 : decode cX1_firstCheapest 29 = .ok (.iaload, 1) := by decide +kernel
theorem dX1_firstCheapest_30 : decode cX1_firstCheapest 30 = .ok (.iload 5, 2) := by decide +kernel
theorem dX1_firstCheapest_32 : decode cX1_firstCheapest 32 = .ok (.if_icmp .ge 36, 3) := by decide +kernel
theorem dX1_firstCheapest_35 : decode cX1_firstCheapest 35 = .ok (.iload_n 3, 1) := by decide +kernel
theorem dX1_firstCheapest_36 : decode cX1_firstCheapest 36 = .ok (.ifCond .eq 17, 3) := by decide +kernel
theorem dX1_firstCheapest_39 : decode cX1_firstCheapest 39 = .ok (.aload_n 0, 1) := by decide +kernel
theorem dX1_firstCheapest_40 : decode cX1_firstCheapest 40 = .ok (.getfield 17, 3) := by decide +kernel
theorem dX1_firstCheapest_43 : decode cX1_firstCheapest 43 = .ok (.iload_n 1, 1) := by decide +kernel
theorem dX1_firstCheapest_44 : decode cX1_firstCheapest 44 = .ok (.aaload, 1) := by decide +kernel
theorem dX1_firstCheapest_45 : decode cX1_firstCheapest 45 = .ok (.iload 6, 2) := by decide +kernel
theorem dX1_firstCheapest_47 : decode cX1_firstCheapest 47 = .ok (.iaload, 1) := by decide +kernel
theorem dX1_firstCheapest_48 : decode cX1_firstCheapest 48 = .ok (.iload_n 2, 1) := by decide +kernel
theorem dX1_firstCheapest_49 : decode cX1_firstCheapest 49 = .ok (.iand, 1) := by decide +kernel
theorem dX1_firstCheapest_50 : decode cX1_firstCheapest 50 = .ok (.ifCond .ne 18, 3) := by decide +kernel
theorem dX1_firstCheapest_53 : decode cX1_firstCheapest 53 = .ok (.aload_n 0, 1) := by decide +kernel
theorem dX1_firstCheapest_54 : decode cX1_firstCheapest 54 = .ok (.getfield 23, 3) := by decide +kernel
theorem dX1_firstCheapest_57 : decode cX1_firstCheapest 57 = .ok (.iload_n 1, 1) := by decide +kernel
theorem dX1_firstCheapest_58 : decode cX1_firstCheapest 58 = .ok (.aaload, 1) := by decide +kernel
theorem dX1_firstCheapest_59 : decode cX1_firstCheapest 59 = .ok (.iload 6, 2) := by decide +kernel
theorem dX1_firstCheapest_61 : decode cX1_firstCheapest 61 = .ok (.iaload, 1) := by decide +kernel
theorem dX1_firstCheapest_62 : decode cX1_firstCheapest 62 = .ok (.istore 5, 2) := by decide +kernel
theorem dX1_firstCheapest_64 : decode cX1_firstCheapest 64 = .ok (.iload 6, 2) := by decide +kernel
theorem dX1_firstCheapest_66 : decode cX1_firstCheapest 66 = .ok (.istore 4, 2) := by decide +kernel
theorem dX1_firstCheapest_68 : decode cX1_firstCheapest 68 = .ok (.iinc 6 1, 3) := by decide +kernel
theorem dX1_firstCheapest_71 : decode cX1_firstCheapest 71 = .ok (.goto (-61), 3) := by decide +kernel
theorem dX1_firstCheapest_74 : decode cX1_firstCheapest 74 = .ok (.iload 4, 2) := by decide +kernel
theorem dX1_firstCheapest_76 : decode cX1_firstCheapest 76 = .ok (.ireturn, 1) := by decide +kernel
theorem dX1_giveLooks_0 : decode cX1_giveLooks 0 = .ok (.iload_n 2, 1) := by decide +kernel
theorem dX1_giveLooks_1 : decode cX1_giveLooks 1 = .ok (.istore_n 3, 1) := by decide +kernel
theorem dX1_giveLooks_2 : decode cX1_giveLooks 2 = .ok (.aload_n 0, 1) := by decide +kernel
theorem dX1_giveLooks_3 : decode cX1_giveLooks 3 = .ok (.getfield 32, 3) := by decide +kernel
theorem dX1_giveLooks_6 : decode cX1_giveLooks 6 = .ok (.getfield 44, 3) := by decide +kernel
theorem dX1_giveLooks_9 : decode cX1_giveLooks 9 = .ok (.iconst 1, 1) := by decide +kernel
theorem dX1_giveLooks_10 : decode cX1_giveLooks 10 = .ok (.isub, 1) := by decide +kernel
theorem dX1_giveLooks_11 : decode cX1_giveLooks 11 = .ok (.istore 4, 2) := by decide +kernel
theorem dX1_giveLooks_13 : decode cX1_giveLooks 13 = .ok (.iload 4, 2) := by decide +kernel
theorem dX1_giveLooks_15 : decode cX1_giveLooks 15 = .ok (.ifCond .lt 39, 3) := by decide +kernel
theorem dX1_giveLooks_18 : decode cX1_giveLooks 18 = .ok (.aload_n 0, 1) := by decide +kernel
theorem dX1_giveLooks_19 : decode cX1_giveLooks 19 = .ok (.getfield 32, 3) := by decide +kernel
theorem dX1_giveLooks_22 : decode cX1_giveLooks 22 = .ok (.getfield 50, 3) := by decide +kernel
theorem dX1_giveLooks_25 : decode cX1_giveLooks 25 = .ok (.iload 4, 2) := by decide +kernel
theorem dX1_giveLooks_27 : decode cX1_giveLooks 27 = .ok (.iaload, 1) := by decide +kernel
theorem dX1_giveLooks_28 : decode cX1_giveLooks 28 = .ok (.iload_n 1, 1) := by decide +kernel
theorem dX1_giveLooks_29 : decode cX1_giveLooks 29 = .ok (.if_icmp .ne 19, 3) := by decide +kernel
theorem dX1_giveLooks_32 : decode cX1_giveLooks 32 = .ok (.aload_n 0, 1) := by decide +kernel
theorem dX1_giveLooks_33 : decode cX1_giveLooks 33 = .ok (.getfield 29, 3) := by decide +kernel
theorem dX1_giveLooks_36 : decode cX1_giveLooks 36 = .ok (.iload 4, 2) := by decide +kernel
theorem dX1_giveLooks_38 : decode cX1_giveLooks 38 = .ok (.iload_n 3, 1) := by decide +kernel
theorem dX1_giveLooks_39 : decode cX1_giveLooks 39 = .ok (.bipush 64, 2) := by decide +kernel
theorem dX1_giveLooks_41 : decode cX1_giveLooks 41 = .ok (.irem, 1) := by decide +kernel
theorem dX1_giveLooks_42 : decode cX1_giveLooks 42 = .ok (.iastore, 1) := by decide +kernel
theorem dX1_giveLooks_43 : decode cX1_giveLooks 43 = .ok (.iload_n 3, 1) := by decide +kernel
theorem dX1_giveLooks_44 : decode cX1_giveLooks 44 = .ok (.bipush 64, 2) := by decide +kernel
theorem dX1_giveLooks_46 : decode cX1_giveLooks 46 = .ok (.idiv, 1) := by decide +kernel
theorem dX1_giveLooks_47 : decode cX1_giveLooks 47 = .ok (.istore_n 3, 1) := by decide +kernel
theorem dX1_giveLooks_48 : decode cX1_giveLooks 48 = .ok (.iinc 4 (-1), 3) := by decide +kernel
theorem dX1_giveLooks_51 : decode cX1_giveLooks 51 = .ok (.goto (-38), 3) := by decide +kernel
theorem dX1_giveLooks_54 : decode cX1_giveLooks 54 = .ok (.return_, 1) := by decide +kernel
theorem dX1_priceOfWorn_0 : decode cX1_priceOfWorn 0 = .ok (.iconst 0, 1) := by decide +kernel
theorem dX1_priceOfWorn_1 : decode cX1_priceOfWorn 1 = .ok (.istore_n 3, 1) := by decide +kernel
theorem dX1_priceOfWorn_2 : decode cX1_priceOfWorn 2 = .ok (.iconst 0, 1) := by decide +kernel
theorem dX1_priceOfWorn_3 : decode cX1_priceOfWorn 3 = .ok (.istore 4, 2) := by decide +kernel
theorem dX1_priceOfWorn_5 : decode cX1_priceOfWorn 5 = .ok (.iload 4, 2) := by decide +kernel
theorem dX1_priceOfWorn_7 : decode cX1_priceOfWorn 7 = .ok (.bipush 12, 2) := by decide +kernel
theorem dX1_priceOfWorn_9 : decode cX1_priceOfWorn 9 = .ok (.if_icmp .ge 25, 3) := by decide +kernel
theorem dX1_priceOfWorn_12 : decode cX1_priceOfWorn 12 = .ok (.iload_n 3, 1) := by decide +kernel
theorem dX1_priceOfWorn_13 : decode cX1_priceOfWorn 13 = .ok (.aload_n 0, 1) := by decide +kernel
theorem dX1_priceOfWorn_14 : decode cX1_priceOfWorn 14 = .ok (.getfield 26, 3) := by decide +kernel
theorem dX1_priceOfWorn_17 : decode cX1_priceOfWorn 17 = .ok (.iload 4, 2) := by decide +kernel
theorem dX1_priceOfWorn_19 : decode cX1_priceOfWorn 19 = .ok (.iaload, 1) := by decide +kernel
theorem dX1_priceOfWorn_20 : decode cX1_priceOfWorn 20 = .ok (.iload_n 1, 1) := by decide +kernel
theorem dX1_priceOfWorn_21 : decode cX1_priceOfWorn 21 = .ok (.iand, 1) := by decide +kernel
theorem dX1_priceOfWorn_22 : decode cX1_priceOfWorn 22 = .ok (.aload_n 2, 1) := by decide +kernel
theorem dX1_priceOfWorn_23 : decode cX1_priceOfWorn 23 = .ok (.invokestatic 87, 3) := by decide +kernel
theorem dX1_priceOfWorn_26 : decode cX1_priceOfWorn 26 = .ok (.iadd, 1) := by decide +kernel
theorem dX1_priceOfWorn_27 : decode cX1_priceOfWorn 27 = .ok (.istore_n 3, 1) := by decide +kernel
theorem dX1_priceOfWorn_28 : decode cX1_priceOfWorn 28 = .ok (.iinc 4 1, 3) := by decide +kernel
theorem dX1_priceOfWorn_31 : decode cX1_priceOfWorn 31 = .ok (.goto (-26), 3) := by decide +kernel
theorem dX1_priceOfWorn_34 : decode cX1_priceOfWorn 34 = .ok (.iload_n 3, 1) := by decide +kernel
theorem dX1_priceOfWorn_35 : decode cX1_priceOfWorn 35 = .ok (.ireturn, 1) := by decide +kernel
theorem dX2_init_0 : decode cX2_init 0 = .ok (.aload_n 0, 1) := by decide +kernel
theorem dX2_init_1 : decode cX2_init 1 = .ok (.invokespecial 3, 3) := by decide +kernel
theorem dX2_init_4 : decode cX2_init 4 = .ok (.aload_n 0, 1) := by decide +kernel
theorem dX2_init_5 : decode cX2_init 5 = .ok (.bipush 36, 2) := by decide +kernel
theorem dX2_init_7 : decode cX2_init 7 = .ok (.newarray .int, 2) := by decide +kernel
theorem dX2_init_9 : decode cX2_init 9 = .ok (.putfield 11, 3) := by decide +kernel
theorem dX2_init_12 : decode cX2_init 12 = .ok (.aload_n 0, 1) := by decide +kernel
theorem dX2_init_13 : decode cX2_init 13 = .ok (.bipush 36, 2) := by decide +kernel
theorem dX2_init_15 : decode cX2_init 15 = .ok (.newarray .int, 2) := by decide +kernel
theorem dX2_init_17 : decode cX2_init 17 = .ok (.putfield 15, 3) := by decide +kernel
theorem dX2_init_20 : decode cX2_init 20 = .ok (.aload_n 0, 1) := by decide +kernel
theorem dX2_init_21 : decode cX2_init 21 = .ok (.bipush 36, 2) := by decide +kernel
theorem dX2_init_23 : decode cX2_init 23 = .ok (.newarray .int, 2) := by decide +kernel
theorem dX2_init_25 : decode cX2_init 25 = .ok (.putfield 18, 3) := by decide +kernel
theorem dX2_init_28 : decode cX2_init 28 = .ok (.aload_n 0, 1) := by decide +kernel
theorem dX2_init_29 : decode cX2_init 29 = .ok (.aload_n 1, 1) := by decide +kernel
theorem dX2_init_30 : decode cX2_init 30 = .ok (.putfield 21, 3) := by decide +kernel
theorem dX2_init_33 : decode cX2_init 33 = .ok (.aload_n 0, 1) := by decide +kernel
theorem dX2_init_34 : decode cX2_init 34 = .ok (.aload_n 2, 1) := by decide +kernel
theorem dX2_init_35 : decode cX2_init 35 = .ok (.putfield 25, 3) := by decide +kernel
theorem dX2_init_38 : decode cX2_init 38 = .ok (.return_, 1) := by decide +kernel
theorem dX2_build_0 : decode cX2_build 0 = .ok (.aload_n 0, 1) := by decide +kernel
theorem dX2_build_1 : decode cX2_build 1 = .ok (.iconst 0, 1) := by decide +kernel
theorem dX2_build_2 : decode cX2_build 2 = .ok (.putfield 29, 3) := by decide +kernel
theorem dX2_build_5 : decode cX2_build 5 = .ok (.iconst 0, 1) := by decide +kernel
theorem dX2_build_6 : decode cX2_build 6 = .ok (.istore_n 1, 1) := by decide +kernel
theorem dX2_build_7 : decode cX2_build 7 = .ok (.iload_n 1, 1) := by decide +kernel
theorem dX2_build_8 : decode cX2_build 8 = .ok (.aload_n 0, 1) := by decide +kernel
theorem dX2_build_9 : decode cX2_build 9 = .ok (.getfield 21, 3) := by decide +kernel
theorem dX2_build_12 : decode cX2_build 12 = .ok (.getfield 33, 3) := by decide +kernel
theorem dX2_build_15 : decode cX2_build 15 = .ok (.if_icmp .ge 106, 3) := by decide +kernel
theorem dX2_build_18 : decode cX2_build 18 = .ok (.iconst 0, 1) := by decide +kernel
theorem dX2_build_19 : decode cX2_build 19 = .ok (.istore_n 2, 1) := by decide +kernel
theorem dX2_build_20 : decode cX2_build 20 = .ok (.iload_n 2, 1) := by decide +kernel
theorem dX2_build_21 : decode cX2_build 21 = .ok (.aload_n 0, 1) := by decide +kernel
theorem dX2_build_22 : decode cX2_build 22 = .ok (.getfield 21, 3) := by decide +kernel
theorem dX2_build_25 : decode cX2_build 25 = .ok (.getfield 33, 3) := by decide +kernel
theorem dX2_build_28 : decode cX2_build 28 = .ok (.if_icmp .ge 87, 3) := by decide +kernel
theorem dX2_build_31 : decode cX2_build 31 = .ok (.iconst 0, 1) := by decide +kernel
theorem dX2_build_32 : decode cX2_build 32 = .ok (.istore_n 3, 1) := by decide +kernel
theorem dX2_build_33 : decode cX2_build 33 = .ok (.iload_n 3, 1) := by decide +kernel
theorem dX2_build_34 : decode cX2_build 34 = .ok (.aload_n 0, 1) := by decide +kernel
theorem dX2_build_35 : decode cX2_build 35 = .ok (.getfield 21, 3) := by decide +kernel
theorem dX2_build_38 : decode cX2_build 38 = .ok (.getfield 33, 3) := by decide +kernel
theorem dX2_build_41 : decode cX2_build 41 = .ok (.if_icmp .ge 68, 3) := by decide +kernel
theorem dX2_build_44 : decode cX2_build 44 = .ok (.aload_n 0, 1) := by decide +kernel
theorem dX2_build_45 : decode cX2_build 45 = .ok (.iload_n 1, 1) := by decide +kernel
theorem dX2_build_46 : decode cX2_build 46 = .ok (.iload_n 2, 1) := by decide +kernel
theorem dX2_build_47 : decode cX2_build 47 = .ok (.iload_n 3, 1) := by decide +kernel
theorem dX2_build_48 : decode cX2_build 48 = .ok (.invokevirtual 38, 3) := by decide +kernel
theorem dX2_build_51 : decode cX2_build 51 = .ok (.ifCond .eq 52, 3) := by decide +kernel
theorem dX2_build_54 : decode cX2_build 54 = .ok (.aload_n 0, 1) := by decide +kernel
theorem dX2_build_55 : decode cX2_build 55 = .ok (.getfield 29, 3) := by decide +kernel
theorem dX2_build_58 : decode cX2_build 58 = .ok (.bipush 36, 2) := by decide +kernel
theorem dX2_build_60 : decode cX2_build 60 = .ok (.if_icmp .ge 43, 3) := by decide +kernel
theorem dX2_build_63 : decode cX2_build 63 = .ok (.aload_n 0, 1) := by decide +kernel
theorem dX2_build_64 : decode cX2_build 64 = .ok (.getfield 11, 3) := by decide +kernel
theorem dX2_build_67 : decode cX2_build 67 = .ok (.aload_n 0, 1) := by decide +kernel
theorem dX2_build_68 : decode cX2_build 68 = .ok (.getfield 29, 3) := by decide +kernel
theorem dX2_build_71 : decode cX2_build 71 = .ok (.iload_n 1, 1) := by decide +kernel
theorem dX2_build_72 : decode cX2_build 72 = .ok (.iastore, 1) := by decide +kernel
theorem dX2_build_73 : decode cX2_build 73 = .ok (.aload_n 0, 1) := by decide +kernel
theorem dX2_build_74 : decode cX2_build 74 = .ok (.getfield 15, 3) := by decide +kernel
theorem dX2_build_77 : decode cX2_build 77 = .ok (.aload_n 0, 1) := by decide +kernel
theorem dX2_build_78 : decode cX2_build 78 = .ok (.getfield 29, 3) := by decide +kernel
theorem dX2_build_81 : decode cX2_build 81 = .ok (.iload_n 2, 1) := by decide +kernel
theorem dX2_build_82 : decode cX2_build 82 = .ok (.iastore, 1) := by decide +kernel
theorem dX2_build_83 : decode cX2_build 83 = .ok (.aload_n 0, 1) := by decide +kernel
theorem dX2_build_84 : decode cX2_build 84 = .ok (.getfield 18, 3) := by decide +kernel
theorem dX2_build_87 : decode cX2_build 87 = .ok (.aload_n 0, 1) := by decide +kernel
theorem dX2_build_88 : decode cX2_build 88 = .ok (.getfield 29, 3) := by decide +kernel
theorem dX2_build_91 : decode cX2_build 91 = .ok (.iload_n 3, 1) := by decide +kernel
theorem dX2_build_92 : decode cX2_build 92 = .ok (.iastore, 1) := by decide +kernel
theorem dX2_build_93 : decode cX2_build 93 = .ok (.aload_n 0, 1) := by decide +kernel
theorem dX2_build_94 : decode cX2_build 94 = .ok (.dup, 1) := by decide +kernel
theorem dX2_build_95 : decode cX2_build 95 = .ok (.getfield 29, 3) := by decide +kernel
theorem dX2_build_98 : decode cX2_build 98 = .ok (.iconst 1, 1) := by decide +kernel
theorem dX2_build_99 : decode cX2_build 99 = .ok (.iadd, 1) := by decide +kernel
theorem dX2_build_100 : decode cX2_build 100 = .ok (.putfield 29, 3) := by decide +kernel
theorem dX2_build_103 : decode cX2_build 103 = .ok (.iinc 3 1, 3) := by decide +kernel
theorem dX2_build_106 : decode cX2_build 106 = .ok (.goto (-73), 3) := by decide +kernel
theorem dX2_build_109 : decode cX2_build 109 = .ok (.iinc 2 1, 3) := by decide +kernel
theorem dX2_build_112 : decode cX2_build 112 = .ok (.goto (-92), 3) := by decide +kernel
theorem dX2_build_115 : decode cX2_build 115 = .ok (.iinc 1 1, 3) := by decide +kernel
theorem dX2_build_118 : decode cX2_build 118 = .ok (.goto (-111), 3) := by decide +kernel
theorem dX2_build_121 : decode cX2_build 121 = .ok (.return_, 1) := by decide +kernel
theorem dX2_isLook_0 : decode cX2_isLook 0 = .ok (.aload_n 0, 1) := by decide +kernel
theorem dX2_isLook_1 : decode cX2_isLook 1 = .ok (.getfield 21, 3) := by decide +kernel
theorem dX2_isLook_4 : decode cX2_isLook 4 = .ok (.iload_n 1, 1) := by decide +kernel
theorem dX2_isLook_5 : decode cX2_isLook 5 = .ok (.iconst 0, 1) := by decide +kernel
theorem dX2_isLook_6 : decode cX2_isLook 6 = .ok (.invokevirtual 42, 3) := by decide +kernel
theorem dX2_isLook_9 : decode cX2_isLook 9 = .ok (.ifCond .eq 67, 3) := by decide +kernel
theorem dX2_isLook_12 : decode cX2_isLook 12 = .ok (.aload_n 0, 1) := by decide +kernel
theorem dX2_isLook_13 : decode cX2_isLook 13 = .ok (.getfield 21, 3) := by decide +kernel
theorem dX2_isLook_16 : decode cX2_isLook 16 = .ok (.iload_n 2, 1) := by decide +kernel
theorem dX2_isLook_17 : decode cX2_isLook 17 = .ok (.iconst 1, 1) := by decide +kernel
theorem dX2_isLook_18 : decode cX2_isLook 18 = .ok (.invokevirtual 42, 3) := by decide +kernel
theorem dX2_isLook_21 : decode cX2_isLook 21 = .ok (.ifCond .eq 55, 3) := by decide +kernel
theorem dX2_isLook_24 : decode cX2_isLook 24 = .ok (.aload_n 0, 1) := by decide +kernel
theorem dX2_isLook_25 : decode cX2_isLook 25 = .ok (.getfield 21, 3) := by decide +kernel
theorem dX2_isLook_28 : decode cX2_isLook 28 = .ok (.iload_n 3, 1) := by decide +kernel
theorem dX2_isLook_29 : decode cX2_isLook 29 = .ok (.iconst 2, 1) := by decide +kernel
theorem dX2_isLook_30 : decode cX2_isLook 30 = .ok (.invokevirtual 42, 3) := by decide +kernel
theorem dX2_isLook_33 : decode cX2_isLook 33 = .ok (.ifCond .eq 43, 3) := by decide +kernel
theorem dX2_isLook_36 : decode cX2_isLook 36 = .ok (.aload_n 0, 1) := by decide +kernel
