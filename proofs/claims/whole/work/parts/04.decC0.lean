theorem dJ6_bitCount_0f7a4_0 : decode cJ6_bitCount_0f7a4 0 = .ok (.iload_n 0, 1) := by decide +kernel
theorem dJ6_bitCount_0f7a4_1 : decode cJ6_bitCount_0f7a4 1 = .ok (.iload_n 0, 1) := by decide +kernel
theorem dJ6_bitCount_0f7a4_2 : decode cJ6_bitCount_0f7a4 2 = .ok (.iconst 1, 1) := by decide +kernel
theorem dJ6_bitCount_0f7a4_3 : decode cJ6_bitCount_0f7a4 3 = .ok (.iushr, 1) := by decide +kernel
theorem dJ6_bitCount_0f7a4_4 : decode cJ6_bitCount_0f7a4 4 = .ok (.ldc_w 265, 3) := by decide +kernel
theorem dJ6_bitCount_0f7a4_7 : decode cJ6_bitCount_0f7a4 7 = .ok (.iand, 1) := by decide +kernel
theorem dJ6_bitCount_0f7a4_8 : decode cJ6_bitCount_0f7a4 8 = .ok (.isub, 1) := by decide +kernel
theorem dJ6_bitCount_0f7a4_9 : decode cJ6_bitCount_0f7a4 9 = .ok (.istore_n 0, 1) := by decide +kernel
theorem dJ6_bitCount_0f7a4_10 : decode cJ6_bitCount_0f7a4 10 = .ok (.iload_n 0, 1) := by decide +kernel
theorem dJ6_bitCount_0f7a4_11 : decode cJ6_bitCount_0f7a4 11 = .ok (.ldc_w 266, 3) := by decide +kernel
theorem dJ6_bitCount_0f7a4_14 : decode cJ6_bitCount_0f7a4 14 = .ok (.iand, 1) := by decide +kernel
theorem dJ6_bitCount_0f7a4_15 : decode cJ6_bitCount_0f7a4 15 = .ok (.iload_n 0, 1) := by decide +kernel
theorem dJ6_bitCount_0f7a4_16 : decode cJ6_bitCount_0f7a4 16 = .ok (.iconst 2, 1) := by decide +kernel
theorem dJ6_bitCount_0f7a4_17 : decode cJ6_bitCount_0f7a4 17 = .ok (.iushr, 1) := by decide +kernel
theorem dJ6_bitCount_0f7a4_18 : decode cJ6_bitCount_0f7a4 18 = .ok (.ldc_w 266, 3) := by decide +kernel
theorem dJ6_bitCount_0f7a4_21 : decode cJ6_bitCount_0f7a4 21 = .ok (.iand, 1) := by decide +kernel
theorem dJ6_bitCount_0f7a4_22 : decode cJ6_bitCount_0f7a4 22 = .ok (.iadd, 1) := by decide +kernel
theorem dJ6_bitCount_0f7a4_23 : decode cJ6_bitCount_0f7a4 23 = .ok (.istore_n 0, 1) := by decide +kernel
theorem dJ6_bitCount_0f7a4_24 : decode cJ6_bitCount_0f7a4 24 = .ok (.iload_n 0, 1) := by decide +kernel
theorem dJ6_bitCount_0f7a4_25 : decode cJ6_bitCount_0f7a4 25 = .ok (.iload_n 0, 1) := by decide +kernel
theorem dJ6_bitCount_0f7a4_26 : decode cJ6_bitCount_0f7a4 26 = .ok (.iconst 4, 1) := by decide +kernel
theorem dJ6_bitCount_0f7a4_27 : decode cJ6_bitCount_0f7a4 27 = .ok (.iushr, 1) := by decide +kernel
theorem dJ6_bitCount_0f7a4_28 : decode cJ6_bitCount_0f7a4 28 = .ok (.iadd, 1) := by decide +kernel
theorem dJ6_bitCount_0f7a4_29 : decode cJ6_bitCount_0f7a4 29 = .ok (.ldc_w 267, 3) := by decide +kernel
theorem dJ6_bitCount_0f7a4_32 : decode cJ6_bitCount_0f7a4 32 = .ok (.iand, 1) := by decide +kernel
theorem dJ6_bitCount_0f7a4_33 : decode cJ6_bitCount_0f7a4 33 = .ok (.istore_n 0, 1) := by decide +kernel
theorem dJ6_bitCount_0f7a4_34 : decode cJ6_bitCount_0f7a4 34 = .ok (.iload_n 0, 1) := by decide +kernel
theorem dJ6_bitCount_0f7a4_35 : decode cJ6_bitCount_0f7a4 35 = .ok (.iload_n 0, 1) := by decide +kernel
theorem dJ6_bitCount_0f7a4_36 : decode cJ6_bitCount_0f7a4 36 = .ok (.bipush 8, 2) := by decide +kernel
theorem dJ6_bitCount_0f7a4_38 : decode cJ6_bitCount_0f7a4 38 = .ok (.iushr, 1) := by decide +kernel
theorem dJ6_bitCount_0f7a4_39 : decode cJ6_bitCount_0f7a4 39 = .ok (.iadd, 1) := by decide +kernel
theorem dJ6_bitCount_0f7a4_40 : decode cJ6_bitCount_0f7a4 40 = .ok (.istore_n 0, 1) := by decide +kernel
theorem dJ6_bitCount_0f7a4_41 : decode cJ6_bitCount_0f7a4 41 = .ok (.iload_n 0, 1) := by decide +kernel
theorem dJ6_bitCount_0f7a4_42 : decode cJ6_bitCount_0f7a4 42 = .ok (.iload_n 0, 1) := by decide +kernel
theorem dJ6_bitCount_0f7a4_43 : decode cJ6_bitCount_0f7a4 43 = .ok (.bipush 16, 2) := by decide +kernel
theorem dJ6_bitCount_0f7a4_45 : decode cJ6_bitCount_0f7a4 45 = .ok (.iushr, 1) := by decide +kernel
theorem dJ6_bitCount_0f7a4_46 : decode cJ6_bitCount_0f7a4 46 = .ok (.iadd, 1) := by decide +kernel
theorem dJ6_bitCount_0f7a4_47 : decode cJ6_bitCount_0f7a4 47 = .ok (.istore_n 0, 1) := by decide +kernel
theorem dJ6_bitCount_0f7a4_48 : decode cJ6_bitCount_0f7a4 48 = .ok (.iload_n 0, 1) := by decide +kernel
theorem dJ6_bitCount_0f7a4_49 : decode cJ6_bitCount_0f7a4 49 = .ok (.bipush 63, 2) := by decide +kernel
theorem dJ6_bitCount_0f7a4_51 : decode cJ6_bitCount_0f7a4 51 = .ok (.iand, 1) := by decide +kernel
theorem dJ6_bitCount_0f7a4_52 : decode cJ6_bitCount_0f7a4 52 = .ok (.ireturn, 1) := by decide +kernel
theorem dJ9_max_7cf53_0 : decode cJ9_max_7cf53 0 = .ok (.iload_n 0, 1) := by decide +kernel
theorem dJ9_max_7cf53_1 : decode cJ9_max_7cf53 1 = .ok (.iload_n 1, 1) := by decide +kernel
theorem dJ9_max_7cf53_2 : decode cJ9_max_7cf53 2 = .ok (.if_icmp .lt 7, 3) := by decide +kernel
theorem dJ9_max_7cf53_5 : decode cJ9_max_7cf53 5 = .ok (.iload_n 0, 1) := by decide +kernel
theorem dJ9_max_7cf53_6 : decode cJ9_max_7cf53 6 = .ok (.goto 4, 3) := by decide +kernel
theorem dJ9_max_7cf53_9 : decode cJ9_max_7cf53 9 = .ok (.iload_n 1, 1) := by decide +kernel
theorem dJ9_max_7cf53_10 : decode cJ9_max_7cf53 10 = .ok (.ireturn, 1) := by decide +kernel
theorem dJ9_min_7cf53_0 : decode cJ9_min_7cf53 0 = .ok (.iload_n 0, 1) := by decide +kernel
theorem dJ9_min_7cf53_1 : decode cJ9_min_7cf53 1 = .ok (.iload_n 1, 1) := by decide +kernel
theorem dJ9_min_7cf53_2 : decode cJ9_min_7cf53 2 = .ok (.if_icmp .gt 7, 3) := by decide +kernel
theorem dJ9_min_7cf53_5 : decode cJ9_min_7cf53 5 = .ok (.iload_n 0, 1) := by decide +kernel
theorem dJ9_min_7cf53_6 : decode cJ9_min_7cf53 6 = .ok (.goto 4, 3) := by decide +kernel
theorem dJ9_min_7cf53_9 : decode cJ9_min_7cf53 9 = .ok (.iload_n 1, 1) := by decide +kernel
theorem dJ9_min_7cf53_10 : decode cJ9_min_7cf53 10 = .ok (.ireturn, 1) := by decide +kernel
theorem dJ0_length_8abf5_0 : decode cJ0_length_8abf5 0 = .ok (.aload_n 0, 1) := by decide +kernel
theorem dJ0_length_8abf5_1 : decode cJ0_length_8abf5 1 = .ok (.getfield 9, 3) := by decide +kernel
theorem dJ0_length_8abf5_4 : decode cJ0_length_8abf5 4 = .ok (.arraylength, 1) := by decide +kernel
theorem dJ0_length_8abf5_5 : decode cJ0_length_8abf5 5 = .ok (.aload_n 0, 1) := by decide +kernel
theorem dJ0_length_8abf5_6 : decode cJ0_length_8abf5 6 = .ok (.invokevirtual 335, 3) := by decide +kernel
theorem dJ0_length_8abf5_9 : decode cJ0_length_8abf5 9 = .ok (.ishr, 1) := by decide +kernel
theorem dJ0_length_8abf5_10 : decode cJ0_length_8abf5 10 = .ok (.ireturn, 1) := by decide +kernel
theorem dJ0_charAt_5068e_0 : decode cJ0_charAt_5068e 0 = .ok (.aload_n 0, 1) := by decide +kernel
theorem dJ0_charAt_5068e_1 : decode cJ0_charAt_5068e 1 = .ok (.invokevirtual 492, 3) := by decide +kernel
theorem dJ0_charAt_5068e_4 : decode cJ0_charAt_5068e 4 = .ok (.ifCond .eq 12, 3) := by decide +kernel
theorem dJ0_charAt_5068e_7 : decode cJ0_charAt_5068e 7 = .ok (.aload_n 0, 1) := by decide +kernel
theorem dJ0_charAt_5068e_8 : decode cJ0_charAt_5068e 8 = .ok (.getfield 9, 3) := by decide +kernel
theorem dJ0_charAt_5068e_11 : decode cJ0_charAt_5068e 11 = .ok (.iload_n 1, 1) := by decide +kernel
theorem dJ0_charAt_5068e_12 : decode cJ0_charAt_5068e 12 = .ok (.invokestatic 495, 3) := by decide +kernel
theorem dJ0_charAt_5068e_15 : decode cJ0_charAt_5068e 15 = .ok (.ireturn, 1) := by decide +kernel
theorem dJ0_charAt_5068e_16 : decode cJ0_charAt_5068e 16 = .ok (.aload_n 0, 1) := by decide +kernel
theorem dJ0_charAt_5068e_17 : decode cJ0_charAt_5068e 17 = .ok (.getfield 9, 3) := by decide +kernel
theorem dJ0_charAt_5068e_20 : decode cJ0_charAt_5068e 20 = .ok (.iload_n 1, 1) := by decide +kernel
theorem dJ0_charAt_5068e_21 : decode cJ0_charAt_5068e 21 = .ok (.invokestatic 498, 3) := by decide +kernel
theorem dJ0_charAt_5068e_24 : decode cJ0_charAt_5068e 24 = .ok (.ireturn, 1) := by decide +kernel
theorem dJ0_coder_7d493_0 : decode cJ0_coder_7d493 0 = .ok (.getstatic 38, 3) := by decide +kernel
theorem dJ0_coder_7d493_3 : decode cJ0_coder_7d493 3 = .ok (.ifCond .eq 10, 3) := by decide +kernel
theorem dJ0_coder_7d493_6 : decode cJ0_coder_7d493 6 = .ok (.aload_n 0, 1) := by decide +kernel
theorem dJ0_coder_7d493_7 : decode cJ0_coder_7d493 7 = .ok (.getfield 15, 3) := by decide +kernel
theorem dJ0_coder_7d493_10 : decode cJ0_coder_7d493 10 = .ok (.goto 4, 3) := by decide +kernel
theorem dJ0_coder_7d493_13 : decode cJ0_coder_7d493 13 = .ok (.iconst 1, 1) := by decide +kernel
theorem dJ0_coder_7d493_14 : decode cJ0_coder_7d493 14 = .ok (.ireturn, 1) := by decide +kernel
theorem dJ0_isLatin1_aae02_0 : decode cJ0_isLatin1_aae02 0 = .ok (.getstatic 38, 3) := by decide +kernel
theorem dJ0_isLatin1_aae02_3 : decode cJ0_isLatin1_aae02 3 = .ok (.ifCond .eq 14, 3) := by decide +kernel
theorem dJ0_isLatin1_aae02_6 : decode cJ0_isLatin1_aae02 6 = .ok (.aload_n 0, 1) := by decide +kernel
theorem dJ0_isLatin1_aae02_7 : decode cJ0_isLatin1_aae02 7 = .ok (.getfield 15, 3) := by decide +kernel
theorem dJ0_isLatin1_aae02_10 : decode cJ0_isLatin1_aae02 10 = .ok (.ifCond .ne 7, 3) := by decide +kernel
theorem dJ0_isLatin1_aae02_13 : decode cJ0_isLatin1_aae02 13 = .ok (.iconst 1, 1) := by decide +kernel
theorem dJ0_isLatin1_aae02_14 : decode cJ0_isLatin1_aae02 14 = .ok (.goto 4, 3) := by decide +kernel
theorem dJ0_isLatin1_aae02_17 : decode cJ0_isLatin1_aae02 17 = .ok (.iconst 0, 1) := by decide +kernel
theorem dJ0_isLatin1_aae02_18 : decode cJ0_isLatin1_aae02 18 = .ok (.ireturn, 1) := by decide +kernel
theorem dJ0_checkIndex_df160_0 : decode cJ0_checkIndex_df160 0 = .ok (.iload_n 0, 1) := by decide +kernel
theorem dJ0_checkIndex_df160_1 : decode cJ0_checkIndex_df160 1 = .ok (.iload_n 1, 1) := by decide +kernel
theorem dJ0_checkIndex_df160_2 : decode cJ0_checkIndex_df160 2 = .ok (.getstatic 1053, 3) := by decide +kernel
theorem dJ0_checkIndex_df160_5 : decode cJ0_checkIndex_df160 5 = .ok (.invokestatic 1059, 3) := by decide +kernel
theorem dJ0_checkIndex_df160_8 : decode cJ0_checkIndex_df160 8 = .ok (.pop, 1) := by decide +kernel
theorem dJ0_checkIndex_df160_9 : decode cJ0_checkIndex_df160 9 = .ok (.return_, 1) := by decide +kernel
theorem dJ1_charAt_3b067_0 : decode cJ1_charAt_3b067 0 = .ok (.iload_n 1, 1) := by decide +kernel
theorem dJ1_charAt_3b067_1 : decode cJ1_charAt_3b067 1 = .ok (.aload_n 0, 1) := by decide +kernel
theorem dJ1_charAt_3b067_2 : decode cJ1_charAt_3b067 2 = .ok (.arraylength, 1) := by decide +kernel
theorem dJ1_charAt_3b067_3 : decode cJ1_charAt_3b067 3 = .ok (.invokestatic 9, 3) := by decide +kernel
theorem dJ1_charAt_3b067_6 : decode cJ1_charAt_3b067 6 = .ok (.aload_n 0, 1) := by decide +kernel
theorem dJ1_charAt_3b067_7 : decode cJ1_charAt_3b067 7 = .ok (.iload_n 1, 1) := by decide +kernel
theorem dJ1_charAt_3b067_8 : decode cJ1_charAt_3b067 8 = .ok (.baload, 1) := by decide +kernel
theorem dJ1_charAt_3b067_9 : decode cJ1_charAt_3b067 9 = .ok (.sipush 255, 3) := by decide +kernel
theorem dJ1_charAt_3b067_12 : decode cJ1_charAt_3b067 12 = .ok (.iand, 1) := by decide +kernel
theorem dJ1_charAt_3b067_13 : decode cJ1_charAt_3b067 13 = .ok (.i2c, 1) := by decide +kernel
theorem dJ1_charAt_3b067_14 : decode cJ1_charAt_3b067 14 = .ok (.ireturn, 1) := by decide +kernel
theorem dJ2_getChar_3b067_0 : decode cJ2_getChar_3b067 0 = .ok (.getstatic 44, 3) := by decide +kernel
theorem dJ2_getChar_3b067_3 : decode cJ2_getChar_3b067 3 = .ok (.ifCond .ne 25, 3) := by decide +kernel
theorem dJ2_getChar_3b067_6 : decode cJ2_getChar_3b067 6 = .ok (.iload_n 1, 1) := by decide +kernel
theorem dJ2_getChar_3b067_7 : decode cJ2_getChar_3b067 7 = .ok (.ifCond .lt 11, 3) := by decide +kernel
theorem dJ2_getChar_3b067_10 : decode cJ2_getChar_3b067 10 = .ok (.iload_n 1, 1) := by decide +kernel
theorem dJ2_getChar_3b067_11 : decode cJ2_getChar_3b067 11 = .ok (.aload_n 0, 1) := by decide +kernel
theorem dJ2_getChar_3b067_12 : decode cJ2_getChar_3b067 12 = .ok (.invokestatic 48, 3) := by decide +kernel
theorem dJ2_getChar_3b067_15 : decode cJ2_getChar_3b067 15 = .ok (.if_icmp .lt 13, 3) := by decide +kernel
theorem dJ2_getChar_3b067_18 : decode cJ2_getChar_3b067 18 = .ok (.new 52, 3) := by decide +kernel
theorem dJ2_getChar_3b067_21 : decode cJ2_getChar_3b067 21 = .ok (.dup, 1) := by decide +kernel
theorem dJ2_getChar_3b067_22 : decode cJ2_getChar_3b067 22 = .ok (.ldc 54, 2) := by decide +kernel
theorem dJ2_getChar_3b067_24 : decode cJ2_getChar_3b067 24 = .ok (.invokespecial 56, 3) := by decide +kernel
theorem dJ2_getChar_3b067_27 : decode cJ2_getChar_3b067 27 = .ok (.athrow, 1) := by decide +kernel
theorem dJ2_getChar_3b067_28 : decode cJ2_getChar_3b067 28 = .ok (.iload_n 1, 1) := by decide +kernel
theorem dJ2_getChar_3b067_29 : decode cJ2_getChar_3b067 29 = .ok (.iconst 1, 1) := by decide +kernel
theorem dJ2_getChar_3b067_30 : decode cJ2_getChar_3b067 30 = .ok (.ishl, 1) := by decide +kernel
theorem dJ2_getChar_3b067_31 : decode cJ2_getChar_3b067 31 = .ok (.istore_n 1, 1) := by decide +kernel
theorem dJ2_getChar_3b067_32 : decode cJ2_getChar_3b067 32 = .ok (.aload_n 0, 1) := by decide +kernel
theorem dJ2_getChar_3b067_33 : decode cJ2_getChar_3b067 33 = .ok (.iload_n 1, 1) := by decide +kernel
theorem dJ2_getChar_3b067_34 : decode cJ2_getChar_3b067 34 = .ok (.iinc 1 1, 3) := by decide +kernel
theorem dJ2_getChar_3b067_37 : decode cJ2_getChar_3b067 37 = .ok (.baload, 1) := by decide +kernel
theorem dJ2_getChar_3b067_38 : decode cJ2_getChar_3b067 38 = .ok (.sipush 255, 3) := by decide +kernel
theorem dJ2_getChar_3b067_41 : decode cJ2_getChar_3b067 41 = .ok (.iand, 1) := by decide +kernel
theorem dJ2_getChar_3b067_42 : decode cJ2_getChar_3b067 42 = .ok (.getstatic 59, 3) := by decide +kernel
theorem dJ2_getChar_3b067_45 : decode cJ2_getChar_3b067 45 = .ok (.ishl, 1) := by decide +kernel
theorem dJ2_getChar_3b067_46 : decode cJ2_getChar_3b067 46 = .ok (.aload_n 0, 1) := by decide +kernel
theorem dJ2_getChar_3b067_47 : decode cJ2_getChar_3b067 47 = .ok (.iload_n 1, 1) := by decide +kernel
theorem dJ2_getChar_3b067_48 : decode cJ2_getChar_3b067 48 = .ok (.baload, 1) := by decide +kernel
theorem dJ2_getChar_3b067_49 : decode cJ2_getChar_3b067 49 = .ok (.sipush 255, 3) := by decide +kernel
theorem dJ2_getChar_3b067_52 : decode cJ2_getChar_3b067 52 = .ok (.iand, 1) := by decide +kernel
theorem dJ2_getChar_3b067_53 : decode cJ2_getChar_3b067 53 = .ok (.getstatic 63, 3) := by decide +kernel
theorem dJ2_getChar_3b067_56 : decode cJ2_getChar_3b067 56 = .ok (.ishl, 1) := by decide +kernel
theorem dJ2_getChar_3b067_57 : decode cJ2_getChar_3b067 57 = .ok (.ior, 1) := by decide +kernel
theorem dJ2_getChar_3b067_58 : decode cJ2_getChar_3b067 58 = .ok (.i2c, 1) := by decide +kernel
theorem dJ2_getChar_3b067_59 : decode cJ2_getChar_3b067 59 = .ok (.ireturn, 1) := by decide +kernel
theorem dJ2_length_9d52b_0 : decode cJ2_length_9d52b 0 = .ok (.aload_n 0, 1) := by decide +kernel
theorem dJ2_length_9d52b_1 : decode cJ2_length_9d52b 1 = .ok (.arraylength, 1) := by decide +kernel
theorem dJ2_length_9d52b_2 : decode cJ2_length_9d52b 2 = .ok (.iconst 1, 1) := by decide +kernel
theorem dJ2_length_9d52b_3 : decode cJ2_length_9d52b 3 = .ok (.ishr, 1) := by decide +kernel
theorem dJ2_length_9d52b_4 : decode cJ2_length_9d52b 4 = .ok (.ireturn, 1) := by decide +kernel
theorem dJ2_charAt_3b067_0 : decode cJ2_charAt_3b067 0 = .ok (.iload_n 1, 1) := by decide +kernel
theorem dJ2_charAt_3b067_1 : decode cJ2_charAt_3b067 1 = .ok (.aload_n 0, 1) := by decide +kernel
theorem dJ2_charAt_3b067_2 : decode cJ2_charAt_3b067 2 = .ok (.invokestatic 67, 3) := by decide +kernel
theorem dJ2_charAt_3b067_5 : decode cJ2_charAt_3b067 5 = .ok (.aload_n 0, 1) := by decide +kernel
theorem dJ2_charAt_3b067_6 : decode cJ2_charAt_3b067 6 = .ok (.iload_n 1, 1) := by decide +kernel
theorem dJ2_charAt_3b067_7 : decode cJ2_charAt_3b067 7 = .ok (.invokestatic 71, 3) := by decide +kernel
theorem dJ2_charAt_3b067_10 : decode cJ2_charAt_3b067 10 = .ok (.ireturn, 1) := by decide +kernel
theorem dJ2_checkIndex_2214a_0 : decode cJ2_checkIndex_2214a 0 = .ok (.iload_n 0, 1) := by decide +kernel
theorem dJ2_checkIndex_2214a_1 : decode cJ2_checkIndex_2214a 1 = .ok (.aload_n 1, 1) := by decide +kernel
theorem dJ2_checkIndex_2214a_2 : decode cJ2_checkIndex_2214a 2 = .ok (.invokestatic 48, 3) := by decide +kernel
theorem dJ2_checkIndex_2214a_5 : decode cJ2_checkIndex_2214a 5 = .ok (.invokestatic 414, 3) := by decide +kernel
theorem dJ2_checkIndex_2214a_8 : decode cJ2_checkIndex_2214a 8 = .ok (.return_, 1) := by decide +kernel
theorem dJ7_fill_53178_0 : decode cJ7_fill_53178 0 = .ok (.iconst 0, 1) := by decide +kernel
theorem dJ7_fill_53178_1 : decode cJ7_fill_53178 1 = .ok (.istore_n 2, 1) := by decide +kernel
theorem dJ7_fill_53178_2 : decode cJ7_fill_53178 2 = .ok (.aload_n 0, 1) := by decide +kernel
theorem dJ7_fill_53178_3 : decode cJ7_fill_53178 3 = .ok (.arraylength, 1) := by decide +kernel
theorem dJ7_fill_53178_4 : decode cJ7_fill_53178 4 = .ok (.istore_n 3, 1) := by decide +kernel
theorem dJ7_fill_53178_5 : decode cJ7_fill_53178 5 = .ok (.iload_n 2, 1) := by decide +kernel
theorem dJ7_fill_53178_6 : decode cJ7_fill_53178 6 = .ok (.iload_n 3, 1) := by decide +kernel
theorem dJ7_fill_53178_7 : decode cJ7_fill_53178 7 = .ok (.if_icmp .ge 13, 3) := by decide +kernel
theorem dJ7_fill_53178_10 : decode cJ7_fill_53178 10 = .ok (.aload_n 0, 1) := by decide +kernel
theorem dJ7_fill_53178_11 : decode cJ7_fill_53178 11 = .ok (.iload_n 2, 1) := by decide +kernel
theorem dJ7_fill_53178_12 : decode cJ7_fill_53178 12 = .ok (.iload_n 1, 1) := by decide +kernel
theorem dJ7_fill_53178_13 : decode cJ7_fill_53178 13 = .ok (.iastore, 1) := by decide +kernel
theorem dJ7_fill_53178_14 : decode cJ7_fill_53178 14 = .ok (.iinc 2 1, 3) := by decide +kernel
theorem dJ7_fill_53178_17 : decode cJ7_fill_53178 17 = .ok (.goto (-12), 3) := by decide +kernel
theorem dJ7_fill_53178_20 : decode cJ7_fill_53178 20 = .ok (.return_, 1) := by decide +kernel
theorem dJ7_copyOf_59c91_0 : decode cJ7_copyOf_59c91 0 = .ok (.iload_n 1, 1) := by decide +kernel
theorem dJ7_copyOf_59c91_1 : decode cJ7_copyOf_59c91 1 = .ok (.aload_n 0, 1) := by decide +kernel
theorem dJ7_copyOf_59c91_2 : decode cJ7_copyOf_59c91 2 = .ok (.arraylength, 1) := by decide +kernel
theorem dJ7_copyOf_59c91_3 : decode cJ7_copyOf_59c91 3 = .ok (.if_icmp .ne 11, 3) := by decide +kernel
theorem dJ7_copyOf_59c91_6 : decode cJ7_copyOf_59c91 6 = .ok (.aload_n 0, 1) := by decide +kernel
theorem dJ7_copyOf_59c91_7 : decode cJ7_copyOf_59c91 7 = .ok (.invokevirtual 316, 3) := by decide +kernel
theorem dJ7_copyOf_59c91_10 : decode cJ7_copyOf_59c91 10 = .ok (.checkcast 317, 3) := by decide +kernel
theorem dJ7_copyOf_59c91_13 : decode cJ7_copyOf_59c91 13 = .ok (.areturn, 1) := by decide +kernel
theorem dJ7_copyOf_59c91_14 : decode cJ7_copyOf_59c91 14 = .ok (.iload_n 1, 1) := by decide +kernel
theorem dJ7_copyOf_59c91_15 : decode cJ7_copyOf_59c91 15 = .ok (.newarray .int, 2) := by decide +kernel
theorem dJ7_copyOf_59c91_17 : decode cJ7_copyOf_59c91 17 = .ok (.astore_n 2, 1) := by decide +kernel
theorem dJ7_copyOf_59c91_18 : decode cJ7_copyOf_59c91 18 = .ok (.aload_n 0, 1) := by decide +kernel
theorem dJ7_copyOf_59c91_19 : decode cJ7_copyOf_59c91 19 = .ok (.iconst 0, 1) := by decide +kernel
theorem dJ7_copyOf_59c91_20 : decode cJ7_copyOf_59c91 20 = .ok (.aload_n 2, 1) := by decide +kernel
theorem dJ7_copyOf_59c91_21 : decode cJ7_copyOf_59c91 21 = .ok (.iconst 0, 1) := by decide +kernel
theorem dJ7_copyOf_59c91_22 : decode cJ7_copyOf_59c91 22 = .ok (.aload_n 0, 1) := by decide +kernel
theorem dJ7_copyOf_59c91_23 : decode cJ7_copyOf_59c91 23 = .ok (.arraylength, 1) := by decide +kernel
theorem dJ7_copyOf_59c91_24 : decode cJ7_copyOf_59c91 24 = .ok (.iload_n 1, 1) := by decide +kernel
theorem dJ7_copyOf_59c91_25 : decode cJ7_copyOf_59c91 25 = .ok (.invokestatic 304, 3) := by decide +kernel
theorem dJ7_copyOf_59c91_28 : decode cJ7_copyOf_59c91 28 = .ok (.invokestatic 150, 3) := by decide +kernel
theorem dJ7_copyOf_59c91_31 : decode cJ7_copyOf_59c91 31 = .ok (.aload_n 2, 1) := by decide +kernel
theorem dJ7_copyOf_59c91_32 : decode cJ7_copyOf_59c91 32 = .ok (.areturn, 1) := by decide +kernel
theorem dJ3_checkIndex_8e157_0 : decode cJ3_checkIndex_8e157 0 = .ok (.iload_n 0, 1) := by decide +kernel
theorem dJ3_checkIndex_8e157_1 : decode cJ3_checkIndex_8e157 1 = .ok (.ifCond .lt 8, 3) := by decide +kernel
theorem dJ3_checkIndex_8e157_4 : decode cJ3_checkIndex_8e157 4 = .ok (.iload_n 0, 1) := by decide +kernel
theorem dJ3_checkIndex_8e157_5 : decode cJ3_checkIndex_8e157 5 = .ok (.iload_n 1, 1) := by decide +kernel
theorem dJ3_checkIndex_8e157_6 : decode cJ3_checkIndex_8e157 6 = .ok (.if_icmp .lt 10, 3) := by decide +kernel
theorem dJ3_checkIndex_8e157_9 : decode cJ3_checkIndex_8e157 9 = .ok (.aload_n 2, 1) := by decide +kernel
theorem dJ3_checkIndex_8e157_10 : decode cJ3_checkIndex_8e157 10 = .ok (.iload_n 0, 1) := by decide +kernel
theorem dJ3_checkIndex_8e157_11 : decode cJ3_checkIndex_8e157 11 = .ok (.iload_n 1, 1) := by decide +kernel
theorem dJ3_checkIndex_8e157_12 : decode cJ3_checkIndex_8e157 12 = .ok (.invokestatic 95, 3) := by decide +kernel
theorem dJ3_checkIndex_8e157_15 : decode cJ3_checkIndex_8e157 15 = .ok (.athrow, 1) := by decide +kernel
theorem dJ3_checkIndex_8e157_16 : decode cJ3_checkIndex_8e157 16 = .ok (.iload_n 0, 1) := by decide +kernel
theorem dJ3_checkIndex_8e157_17 : decode cJ3_checkIndex_8e157 17 = .ok (.ireturn, 1) := by decide +kernel
theorem dL_law_0 : decode cL_law 0 = .ok (.new 7, 3) := by decide +kernel
theorem dL_law_3 : decode cL_law 3 = .ok (.dup, 1) := by decide +kernel
theorem dL_law_4 : decode cL_law 4 = .ok (.invokespecial 9, 3) := by decide +kernel
theorem dL_law_7 : decode cL_law 7 = .ok (.astore_n 1, 1) := by decide +kernel
theorem dL_law_8 : decode cL_law 8 = .ok (.new 10, 3) := by decide +kernel
theorem dL_law_11 : decode cL_law 11 = .ok (.dup, 1) := by decide +kernel
theorem dL_law_12 : decode cL_law 12 = .ok (.invokespecial 12, 3) := by decide +kernel
theorem dL_law_15 : decode cL_law 15 = .ok (.astore_n 2, 1) := by decide +kernel
theorem dL_law_16 : decode cL_law 16 = .ok (.iconst 0, 1) := by decide +kernel
theorem dL_law_17 : decode cL_law 17 = .ok (.istore_n 3, 1) := by decide +kernel
theorem dL_law_18 : decode cL_law 18 = .ok (.iload_n 3, 1) := by decide +kernel
theorem dL_law_19 : decode cL_law 19 = .ok (.aload_n 0, 1) := by decide +kernel
theorem dL_law_20 : decode cL_law 20 = .ok (.arraylength, 1) := by decide +kernel
theorem dL_law_21 : decode cL_law 21 = .ok (.bipush 6, 2) := by decide +kernel
theorem dL_law_23 : decode cL_law 23 = .ok (.isub, 1) := by decide +kernel
theorem dL_law_24 : decode cL_law 24 = .ok (.if_icmp .gt 1081, 3) := by decide +kernel
theorem dL_law_27 : decode cL_law 27 = .ok (.aload_n 0, 1) := by decide +kernel
theorem dL_law_28 : decode cL_law 28 = .ok (.iload_n 3, 1) := by decide +kernel
theorem dL_law_29 : decode cL_law 29 = .ok (.iaload, 1) := by decide +kernel
theorem dL_law_30 : decode cL_law 30 = .ok (.bipush 63, 2) := by decide +kernel
theorem dL_law_32 : decode cL_law 32 = .ok (.iand, 1) := by decide +kernel
theorem dL_law_33 : decode cL_law 33 = .ok (.tableswitch 1066 0 32 #[147, 210, 233, 246, 259, 282, 315, 348, 361, 384, 417, 450, 463, 506, 519, 542, 565, 588, 611, 634, 677, 700, 753, 776, 809, 822, 865, 888, 921, 944, 997, 1020, 1043], 147) := by decide +kernel
theorem dL_law_180 : decode cL_law 180 = .ok (.aload_n 1, 1) := by decide +kernel
theorem dL_law_181 : decode cL_law 181 = .ok (.aload_n 0, 1) := by decide +kernel
theorem dL_law_182 : decode cL_law 182 = .ok (.iload_n 3, 1) := by decide +kernel
theorem dL_law_183 : decode cL_law 183 = .ok (.iconst 1, 1) := by decide +kernel
theorem dL_law_184 : decode cL_law 184 = .ok (.iadd, 1) := by decide +kernel
theorem dL_law_185 : decode cL_law 185 = .ok (.iaload, 1) := by decide +kernel
theorem dL_law_186 : decode cL_law 186 = .ok (.aload_n 0, 1) := by decide +kernel
theorem dL_law_187 : decode cL_law 187 = .ok (.iload_n 3, 1) := by decide +kernel
theorem dL_law_188 : decode cL_law 188 = .ok (.iconst 2, 1) := by decide +kernel
theorem dL_law_189 : decode cL_law 189 = .ok (.iadd, 1) := by decide +kernel
theorem dL_law_190 : decode cL_law 190 = .ok (.iaload, 1) := by decide +kernel
theorem dL_law_191 : decode cL_law 191 = .ok (.aload_n 0, 1) := by decide +kernel
theorem dL_law_192 : decode cL_law 192 = .ok (.iload_n 3, 1) := by decide +kernel
theorem dL_law_193 : decode cL_law 193 = .ok (.iconst 3, 1) := by decide +kernel
theorem dL_law_194 : decode cL_law 194 = .ok (.iadd, 1) := by decide +kernel
theorem dL_law_195 : decode cL_law 195 = .ok (.iaload, 1) := by decide +kernel
theorem dL_law_196 : decode cL_law 196 = .ok (.aload_n 0, 1) := by decide +kernel
theorem dL_law_197 : decode cL_law 197 = .ok (.iload_n 3, 1) := by decide +kernel
theorem dL_law_198 : decode cL_law 198 = .ok (.iconst 4, 1) := by decide +kernel
theorem dL_law_199 : decode cL_law 199 = .ok (.iadd, 1) := by decide +kernel
theorem dL_law_200 : decode cL_law 200 = .ok (.iaload, 1) := by decide +kernel
theorem dL_law_201 : decode cL_law 201 = .ok (.aload_n 0, 1) := by decide +kernel
theorem dL_law_202 : decode cL_law 202 = .ok (.iload_n 3, 1) := by decide +kernel
theorem dL_law_203 : decode cL_law 203 = .ok (.iconst 5, 1) := by decide +kernel
theorem dL_law_204 : decode cL_law 204 = .ok (.iadd, 1) := by decide +kernel
theorem dL_law_205 : decode cL_law 205 = .ok (.iaload, 1) := by decide +kernel
theorem dL_law_206 : decode cL_law 206 = .ok (.invokevirtual 13, 3) := by decide +kernel
theorem dL_law_209 : decode cL_law 209 = .ok (.aload_n 2, 1) := by decide +kernel
theorem dL_law_210 : decode cL_law 210 = .ok (.aload_n 0, 1) := by decide +kernel
theorem dL_law_211 : decode cL_law 211 = .ok (.iload_n 3, 1) := by decide +kernel
theorem dL_law_212 : decode cL_law 212 = .ok (.iconst 1, 1) := by decide +kernel
theorem dL_law_213 : decode cL_law 213 = .ok (.iadd, 1) := by decide +kernel
theorem dL_law_214 : decode cL_law 214 = .ok (.iaload, 1) := by decide +kernel
theorem dL_law_215 : decode cL_law 215 = .ok (.aload_n 0, 1) := by decide +kernel
theorem dL_law_216 : decode cL_law 216 = .ok (.iload_n 3, 1) := by decide +kernel
theorem dL_law_217 : decode cL_law 217 = .ok (.iconst 2, 1) := by decide +kernel
theorem dL_law_218 : decode cL_law 218 = .ok (.iadd, 1) := by decide +kernel
theorem dL_law_219 : decode cL_law 219 = .ok (.iaload, 1) := by decide +kernel
theorem dL_law_220 : decode cL_law 220 = .ok (.aload_n 0, 1) := by decide +kernel
theorem dL_law_221 : decode cL_law 221 = .ok (.iload_n 3, 1) := by decide +kernel
theorem dL_law_222 : decode cL_law 222 = .ok (.iconst 3, 1) := by decide +kernel
theorem dL_law_223 : decode cL_law 223 = .ok (.iadd, 1) := by decide +kernel
theorem dL_law_224 : decode cL_law 224 = .ok (.iaload, 1) := by decide +kernel
theorem dL_law_225 : decode cL_law 225 = .ok (.aload_n 0, 1) := by decide +kernel
theorem dL_law_226 : decode cL_law 226 = .ok (.iload_n 3, 1) := by decide +kernel
theorem dL_law_227 : decode cL_law 227 = .ok (.iconst 4, 1) := by decide +kernel
theorem dL_law_228 : decode cL_law 228 = .ok (.iadd, 1) := by decide +kernel
theorem dL_law_229 : decode cL_law 229 = .ok (.iaload, 1) := by decide +kernel
theorem dL_law_230 : decode cL_law 230 = .ok (.aload_n 0, 1) := by decide +kernel
theorem dL_law_231 : decode cL_law 231 = .ok (.iload_n 3, 1) := by decide +kernel
theorem dL_law_232 : decode cL_law 232 = .ok (.iconst 5, 1) := by decide +kernel
theorem dL_law_233 : decode cL_law 233 = .ok (.iadd, 1) := by decide +kernel
theorem dL_law_234 : decode cL_law 234 = .ok (.iaload, 1) := by decide +kernel
theorem dL_law_235 : decode cL_law 235 = .ok (.invokevirtual 17, 3) := by decide +kernel
theorem dL_law_238 : decode cL_law 238 = .ok (.if_icmp .eq 861, 3) := by decide +kernel
theorem dL_law_241 : decode cL_law 241 = .ok (.iconst 0, 1) := by decide +kernel
theorem dL_law_242 : decode cL_law 242 = .ok (.ireturn, 1) := by decide +kernel
theorem dL_law_243 : decode cL_law 243 = .ok (.aload_n 1, 1) := by decide +kernel
theorem dL_law_244 : decode cL_law 244 = .ok (.aload_n 0, 1) := by decide +kernel
theorem dL_law_245 : decode cL_law 245 = .ok (.iload_n 3, 1) := by decide +kernel
theorem dL_law_246 : decode cL_law 246 = .ok (.iconst 1, 1) := by decide +kernel
theorem dL_law_247 : decode cL_law 247 = .ok (.iadd, 1) := by decide +kernel
theorem dL_law_248 : decode cL_law 248 = .ok (.iaload, 1) := by decide +kernel
theorem dL_law_249 : decode cL_law 249 = .ok (.invokevirtual 18, 3) := by decide +kernel
theorem dL_law_252 : decode cL_law 252 = .ok (.aload_n 2, 1) := by decide +kernel
theorem dL_law_253 : decode cL_law 253 = .ok (.aload_n 0, 1) := by decide +kernel
theorem dL_law_254 : decode cL_law 254 = .ok (.iload_n 3, 1) := by decide +kernel
theorem dL_law_255 : decode cL_law 255 = .ok (.iconst 1, 1) := by decide +kernel
theorem dL_law_256 : decode cL_law 256 = .ok (.iadd, 1) := by decide +kernel
theorem dL_law_257 : decode cL_law 257 = .ok (.iaload, 1) := by decide +kernel
theorem dL_law_258 : decode cL_law 258 = .ok (.invokevirtual 22, 3) := by decide +kernel
theorem dL_law_261 : decode cL_law 261 = .ok (.if_icmp .eq 838, 3) := by decide +kernel
theorem dL_law_264 : decode cL_law 264 = .ok (.iconst 0, 1) := by decide +kernel
theorem dL_law_265 : decode cL_law 265 = .ok (.ireturn, 1) := by decide +kernel
theorem dL_law_266 : decode cL_law 266 = .ok (.aload_n 1, 1) := by decide +kernel
theorem dL_law_267 : decode cL_law 267 = .ok (.invokevirtual 23, 3) := by decide +kernel
theorem dL_law_270 : decode cL_law 270 = .ok (.aload_n 2, 1) := by decide +kernel
theorem dL_law_271 : decode cL_law 271 = .ok (.invokevirtual 27, 3) := by decide +kernel
theorem dL_law_274 : decode cL_law 274 = .ok (.if_icmp .eq 825, 3) := by decide +kernel
theorem dL_law_277 : decode cL_law 277 = .ok (.iconst 0, 1) := by decide +kernel
theorem dL_law_278 : decode cL_law 278 = .ok (.ireturn, 1) := by decide +kernel
theorem dL_law_279 : decode cL_law 279 = .ok (.aload_n 1, 1) := by decide +kernel
theorem dL_law_280 : decode cL_law 280 = .ok (.invokevirtual 28, 3) := by decide +kernel
theorem dL_law_283 : decode cL_law 283 = .ok (.aload_n 2, 1) := by decide +kernel
theorem dL_law_284 : decode cL_law 284 = .ok (.invokevirtual 31, 3) := by decide +kernel
theorem dL_law_287 : decode cL_law 287 = .ok (.if_icmp .eq 812, 3) := by decide +kernel
theorem dL_law_290 : decode cL_law 290 = .ok (.iconst 0, 1) := by decide +kernel
theorem dL_law_291 : decode cL_law 291 = .ok (.ireturn, 1) := by decide +kernel
theorem dL_law_292 : decode cL_law 292 = .ok (.aload_n 1, 1) := by decide +kernel
theorem dL_law_293 : decode cL_law 293 = .ok (.aload_n 0, 1) := by decide +kernel
theorem dL_law_294 : decode cL_law 294 = .ok (.iload_n 3, 1) := by decide +kernel
theorem dL_law_295 : decode cL_law 295 = .ok (.iconst 1, 1) := by decide +kernel
theorem dL_law_296 : decode cL_law 296 = .ok (.iadd, 1) := by decide +kernel
theorem dL_law_297 : decode cL_law 297 = .ok (.iaload, 1) := by decide +kernel
theorem dL_law_298 : decode cL_law 298 = .ok (.invokevirtual 32, 3) := by decide +kernel
theorem dL_law_301 : decode cL_law 301 = .ok (.aload_n 2, 1) := by decide +kernel
theorem dL_law_302 : decode cL_law 302 = .ok (.aload_n 0, 1) := by decide +kernel
theorem dL_law_303 : decode cL_law 303 = .ok (.iload_n 3, 1) := by decide +kernel
theorem dL_law_304 : decode cL_law 304 = .ok (.iconst 1, 1) := by decide +kernel
theorem dL_law_305 : decode cL_law 305 = .ok (.iadd, 1) := by decide +kernel
theorem dL_law_306 : decode cL_law 306 = .ok (.iaload, 1) := by decide +kernel
theorem dL_law_307 : decode cL_law 307 = .ok (.invokevirtual 35, 3) := by decide +kernel
theorem dL_law_310 : decode cL_law 310 = .ok (.if_icmp .eq 789, 3) := by decide +kernel
theorem dL_law_313 : decode cL_law 313 = .ok (.iconst 0, 1) := by decide +kernel
theorem dL_law_314 : decode cL_law 314 = .ok (.ireturn, 1) := by decide +kernel
theorem dL_law_315 : decode cL_law 315 = .ok (.aload_n 1, 1) := by decide +kernel
theorem dL_law_316 : decode cL_law 316 = .ok (.aload_n 0, 1) := by decide +kernel
theorem dL_law_317 : decode cL_law 317 = .ok (.iload_n 3, 1) := by decide +kernel
theorem dL_law_318 : decode cL_law 318 = .ok (.iconst 1, 1) := by decide +kernel
theorem dL_law_319 : decode cL_law 319 = .ok (.iadd, 1) := by decide +kernel
theorem dL_law_320 : decode cL_law 320 = .ok (.iaload, 1) := by decide +kernel
theorem dL_law_321 : decode cL_law 321 = .ok (.aload_n 0, 1) := by decide +kernel
theorem dL_law_322 : decode cL_law 322 = .ok (.iload_n 3, 1) := by decide +kernel
theorem dL_law_323 : decode cL_law 323 = .ok (.iconst 2, 1) := by decide +kernel
theorem dL_law_324 : decode cL_law 324 = .ok (.iadd, 1) := by decide +kernel
theorem dL_law_325 : decode cL_law 325 = .ok (.iaload, 1) := by decide +kernel
theorem dL_law_326 : decode cL_law 326 = .ok (.invokevirtual 36, 3) := by decide +kernel
theorem dL_law_329 : decode cL_law 329 = .ok (.aload_n 2, 1) := by decide +kernel
theorem dL_law_330 : decode cL_law 330 = .ok (.aload_n 0, 1) := by decide +kernel
theorem dL_law_331 : decode cL_law 331 = .ok (.iload_n 3, 1) := by decide +kernel
theorem dL_law_332 : decode cL_law 332 = .ok (.iconst 1, 1) := by decide +kernel
theorem dL_law_333 : decode cL_law 333 = .ok (.iadd, 1) := by decide +kernel
theorem dL_law_334 : decode cL_law 334 = .ok (.iaload, 1) := by decide +kernel
theorem dL_law_335 : decode cL_law 335 = .ok (.aload_n 0, 1) := by decide +kernel
theorem dL_law_336 : decode cL_law 336 = .ok (.iload_n 3, 1) := by decide +kernel
theorem dL_law_337 : decode cL_law 337 = .ok (.iconst 2, 1) := by decide +kernel
theorem dL_law_338 : decode cL_law 338 = .ok (.iadd, 1) := by decide +kernel
theorem dL_law_339 : decode cL_law 339 = .ok (.iaload, 1) := by decide +kernel
theorem dL_law_340 : decode cL_law 340 = .ok (.invokevirtual 40, 3) := by decide +kernel
theorem dL_law_343 : decode cL_law 343 = .ok (.if_icmp .eq 756, 3) := by decide +kernel
theorem dL_law_346 : decode cL_law 346 = .ok (.iconst 0, 1) := by decide +kernel
theorem dL_law_347 : decode cL_law 347 = .ok (.ireturn, 1) := by decide +kernel
theorem dL_law_348 : decode cL_law 348 = .ok (.aload_n 1, 1) := by decide +kernel
theorem dL_law_349 : decode cL_law 349 = .ok (.aload_n 0, 1) := by decide +kernel
theorem dL_law_350 : decode cL_law 350 = .ok (.iload_n 3, 1) := by decide +kernel
theorem dL_law_351 : decode cL_law 351 = .ok (.iconst 1, 1) := by decide +kernel
theorem dL_law_352 : decode cL_law 352 = .ok (.iadd, 1) := by decide +kernel
theorem dL_law_353 : decode cL_law 353 = .ok (.iaload, 1) := by decide +kernel
theorem dL_law_354 : decode cL_law 354 = .ok (.aload_n 0, 1) := by decide +kernel
theorem dL_law_355 : decode cL_law 355 = .ok (.iload_n 3, 1) := by decide +kernel
theorem dL_law_356 : decode cL_law 356 = .ok (.iconst 2, 1) := by decide +kernel
theorem dL_law_357 : decode cL_law 357 = .ok (.iadd, 1) := by decide +kernel
theorem dL_law_358 : decode cL_law 358 = .ok (.iaload, 1) := by decide +kernel
theorem dL_law_359 : decode cL_law 359 = .ok (.invokevirtual 41, 3) := by decide +kernel
theorem dL_law_362 : decode cL_law 362 = .ok (.aload_n 2, 1) := by decide +kernel
theorem dL_law_363 : decode cL_law 363 = .ok (.aload_n 0, 1) := by decide +kernel
theorem dL_law_364 : decode cL_law 364 = .ok (.iload_n 3, 1) := by decide +kernel
theorem dL_law_365 : decode cL_law 365 = .ok (.iconst 1, 1) := by decide +kernel
theorem dL_law_366 : decode cL_law 366 = .ok (.iadd, 1) := by decide +kernel
theorem dL_law_367 : decode cL_law 367 = .ok (.iaload, 1) := by decide +kernel
theorem dL_law_368 : decode cL_law 368 = .ok (.aload_n 0, 1) := by decide +kernel
theorem dL_law_369 : decode cL_law 369 = .ok (.iload_n 3, 1) := by decide +kernel
theorem dL_law_370 : decode cL_law 370 = .ok (.iconst 2, 1) := by decide +kernel
theorem dL_law_371 : decode cL_law 371 = .ok (.iadd, 1) := by decide +kernel
theorem dL_law_372 : decode cL_law 372 = .ok (.iaload, 1) := by decide +kernel
theorem dL_law_373 : decode cL_law 373 = .ok (.invokevirtual 44, 3) := by decide +kernel
theorem dL_law_376 : decode cL_law 376 = .ok (.if_icmp .eq 723, 3) := by decide +kernel
theorem dL_law_379 : decode cL_law 379 = .ok (.iconst 0, 1) := by decide +kernel
theorem dL_law_380 : decode cL_law 380 = .ok (.ireturn, 1) := by decide +kernel
theorem dL_law_381 : decode cL_law 381 = .ok (.aload_n 1, 1) := by decide +kernel
theorem dL_law_382 : decode cL_law 382 = .ok (.invokevirtual 45, 3) := by decide +kernel
theorem dL_law_385 : decode cL_law 385 = .ok (.aload_n 2, 1) := by decide +kernel
theorem dL_law_386 : decode cL_law 386 = .ok (.invokevirtual 48, 3) := by decide +kernel
theorem dL_law_389 : decode cL_law 389 = .ok (.if_icmp .eq 710, 3) := by decide +kernel
theorem dL_law_392 : decode cL_law 392 = .ok (.iconst 0, 1) := by decide +kernel
theorem dL_law_393 : decode cL_law 393 = .ok (.ireturn, 1) := by decide +kernel
theorem dL_law_394 : decode cL_law 394 = .ok (.aload_n 1, 1) := by decide +kernel
theorem dL_law_395 : decode cL_law 395 = .ok (.aload_n 0, 1) := by decide +kernel
theorem dL_law_396 : decode cL_law 396 = .ok (.iload_n 3, 1) := by decide +kernel
theorem dL_law_397 : decode cL_law 397 = .ok (.iconst 1, 1) := by decide +kernel
theorem dL_law_398 : decode cL_law 398 = .ok (.iadd, 1) := by decide +kernel
theorem dL_law_399 : decode cL_law 399 = .ok (.iaload, 1) := by decide +kernel
theorem dL_law_400 : decode cL_law 400 = .ok (.invokevirtual 49, 3) := by decide +kernel
theorem dL_law_403 : decode cL_law 403 = .ok (.aload_n 2, 1) := by decide +kernel
theorem dL_law_404 : decode cL_law 404 = .ok (.aload_n 0, 1) := by decide +kernel
theorem dL_law_405 : decode cL_law 405 = .ok (.iload_n 3, 1) := by decide +kernel
theorem dL_law_406 : decode cL_law 406 = .ok (.iconst 1, 1) := by decide +kernel
theorem dL_law_407 : decode cL_law 407 = .ok (.iadd, 1) := by decide +kernel
theorem dL_law_408 : decode cL_law 408 = .ok (.iaload, 1) := by decide +kernel
theorem dL_law_409 : decode cL_law 409 = .ok (.invokevirtual 52, 3) := by decide +kernel
theorem dL_law_412 : decode cL_law 412 = .ok (.if_icmp .eq 687, 3) := by decide +kernel
theorem dL_law_415 : decode cL_law 415 = .ok (.iconst 0, 1) := by decide +kernel
theorem dL_law_416 : decode cL_law 416 = .ok (.ireturn, 1) := by decide +kernel
theorem dL_law_417 : decode cL_law 417 = .ok (.aload_n 1, 1) := by decide +kernel
theorem dL_law_418 : decode cL_law 418 = .ok (.aload_n 0, 1) := by decide +kernel
theorem dL_law_419 : decode cL_law 419 = .ok (.iload_n 3, 1) := by decide +kernel
theorem dL_law_420 : decode cL_law 420 = .ok (.iconst 1, 1) := by decide +kernel
theorem dL_law_421 : decode cL_law 421 = .ok (.iadd, 1) := by decide +kernel
theorem dL_law_422 : decode cL_law 422 = .ok (.iaload, 1) := by decide +kernel
theorem dL_law_423 : decode cL_law 423 = .ok (.aload_n 0, 1) := by decide +kernel
theorem dL_law_424 : decode cL_law 424 = .ok (.iload_n 3, 1) := by decide +kernel
theorem dL_law_425 : decode cL_law 425 = .ok (.iconst 2, 1) := by decide +kernel
theorem dL_law_426 : decode cL_law 426 = .ok (.iadd, 1) := by decide +kernel
theorem dL_law_427 : decode cL_law 427 = .ok (.iaload, 1) := by decide +kernel
theorem dL_law_428 : decode cL_law 428 = .ok (.invokevirtual 53, 3) := by decide +kernel
theorem dL_law_431 : decode cL_law 431 = .ok (.aload_n 2, 1) := by decide +kernel
theorem dL_law_432 : decode cL_law 432 = .ok (.aload_n 0, 1) := by decide +kernel
theorem dL_law_433 : decode cL_law 433 = .ok (.iload_n 3, 1) := by decide +kernel
theorem dL_law_434 : decode cL_law 434 = .ok (.iconst 1, 1) := by decide +kernel
theorem dL_law_435 : decode cL_law 435 = .ok (.iadd, 1) := by decide +kernel
theorem dL_law_436 : decode cL_law 436 = .ok (.iaload, 1) := by decide +kernel
theorem dL_law_437 : decode cL_law 437 = .ok (.aload_n 0, 1) := by decide +kernel
theorem dL_law_438 : decode cL_law 438 = .ok (.iload_n 3, 1) := by decide +kernel
theorem dL_law_439 : decode cL_law 439 = .ok (.iconst 2, 1) := by decide +kernel
theorem dL_law_440 : decode cL_law 440 = .ok (.iadd, 1) := by decide +kernel
theorem dL_law_441 : decode cL_law 441 = .ok (.iaload, 1) := by decide +kernel
theorem dL_law_442 : decode cL_law 442 = .ok (.invokevirtual 56, 3) := by decide +kernel
theorem dL_law_445 : decode cL_law 445 = .ok (.if_icmp .eq 654, 3) := by decide +kernel
theorem dL_law_448 : decode cL_law 448 = .ok (.iconst 0, 1) := by decide +kernel
theorem dL_law_449 : decode cL_law 449 = .ok (.ireturn, 1) := by decide +kernel
theorem dL_law_450 : decode cL_law 450 = .ok (.aload_n 1, 1) := by decide +kernel
theorem dL_law_451 : decode cL_law 451 = .ok (.aload_n 0, 1) := by decide +kernel
theorem dL_law_452 : decode cL_law 452 = .ok (.iload_n 3, 1) := by decide +kernel
theorem dL_law_453 : decode cL_law 453 = .ok (.iconst 1, 1) := by decide +kernel
theorem dL_law_454 : decode cL_law 454 = .ok (.iadd, 1) := by decide +kernel
theorem dL_law_455 : decode cL_law 455 = .ok (.iaload, 1) := by decide +kernel
theorem dL_law_456 : decode cL_law 456 = .ok (.aload_n 0, 1) := by decide +kernel
theorem dL_law_457 : decode cL_law 457 = .ok (.iload_n 3, 1) := by decide +kernel
theorem dL_law_458 : decode cL_law 458 = .ok (.iconst 2, 1) := by decide +kernel
theorem dL_law_459 : decode cL_law 459 = .ok (.iadd, 1) := by decide +kernel
theorem dL_law_460 : decode cL_law 460 = .ok (.iaload, 1) := by decide +kernel
theorem dL_law_461 : decode cL_law 461 = .ok (.invokevirtual 57, 3) := by decide +kernel
theorem dL_law_464 : decode cL_law 464 = .ok (.aload_n 2, 1) := by decide +kernel
theorem dL_law_465 : decode cL_law 465 = .ok (.aload_n 0, 1) := by decide +kernel
theorem dL_law_466 : decode cL_law 466 = .ok (.iload_n 3, 1) := by decide +kernel
theorem dL_law_467 : decode cL_law 467 = .ok (.iconst 1, 1) := by decide +kernel
theorem dL_law_468 : decode cL_law 468 = .ok (.iadd, 1) := by decide +kernel
theorem dL_law_469 : decode cL_law 469 = .ok (.iaload, 1) := by decide +kernel
theorem dL_law_470 : decode cL_law 470 = .ok (.aload_n 0, 1) := by decide +kernel
theorem dL_law_471 : decode cL_law 471 = .ok (.iload_n 3, 1) := by decide +kernel
theorem dL_law_472 : decode cL_law 472 = .ok (.iconst 2, 1) := by decide +kernel
theorem dL_law_473 : decode cL_law 473 = .ok (.iadd, 1) := by decide +kernel
theorem dL_law_474 : decode cL_law 474 = .ok (.iaload, 1) := by decide +kernel
theorem dL_law_475 : decode cL_law 475 = .ok (.invokevirtual 60, 3) := by decide +kernel
theorem dL_law_478 : decode cL_law 478 = .ok (.if_icmp .eq 621, 3) := by decide +kernel
theorem dL_law_481 : decode cL_law 481 = .ok (.iconst 0, 1) := by decide +kernel
theorem dL_law_482 : decode cL_law 482 = .ok (.ireturn, 1) := by decide +kernel
theorem dL_law_483 : decode cL_law 483 = .ok (.aload_n 1, 1) := by decide +kernel
theorem dL_law_484 : decode cL_law 484 = .ok (.invokevirtual 61, 3) := by decide +kernel
theorem dL_law_487 : decode cL_law 487 = .ok (.aload_n 2, 1) := by decide +kernel
theorem dL_law_488 : decode cL_law 488 = .ok (.invokevirtual 64, 3) := by decide +kernel
theorem dL_law_491 : decode cL_law 491 = .ok (.if_icmp .eq 608, 3) := by decide +kernel
theorem dL_law_494 : decode cL_law 494 = .ok (.iconst 0, 1) := by decide +kernel
theorem dL_law_495 : decode cL_law 495 = .ok (.ireturn, 1) := by decide +kernel
theorem dL_law_496 : decode cL_law 496 = .ok (.aload_n 1, 1) := by decide +kernel
theorem dL_law_497 : decode cL_law 497 = .ok (.aload_n 0, 1) := by decide +kernel
theorem dL_law_498 : decode cL_law 498 = .ok (.iload_n 3, 1) := by decide +kernel
theorem dL_law_499 : decode cL_law 499 = .ok (.iconst 1, 1) := by decide +kernel
theorem dL_law_500 : decode cL_law 500 = .ok (.iadd, 1) := by decide +kernel
theorem dL_law_501 : decode cL_law 501 = .ok (.iaload, 1) := by decide +kernel
theorem dL_law_502 : decode cL_law 502 = .ok (.aload_n 0, 1) := by decide +kernel
theorem dL_law_503 : decode cL_law 503 = .ok (.iload_n 3, 1) := by decide +kernel
theorem dL_law_504 : decode cL_law 504 = .ok (.iconst 2, 1) := by decide +kernel
theorem dL_law_505 : decode cL_law 505 = .ok (.iadd, 1) := by decide +kernel
theorem dL_law_506 : decode cL_law 506 = .ok (.iaload, 1) := by decide +kernel
theorem dL_law_507 : decode cL_law 507 = .ok (.aload_n 0, 1) := by decide +kernel
theorem dL_law_508 : decode cL_law 508 = .ok (.iload_n 3, 1) := by decide +kernel
theorem dL_law_509 : decode cL_law 509 = .ok (.iconst 3, 1) := by decide +kernel
theorem dL_law_510 : decode cL_law 510 = .ok (.iadd, 1) := by decide +kernel
theorem dL_law_511 : decode cL_law 511 = .ok (.iaload, 1) := by decide +kernel
theorem dL_law_512 : decode cL_law 512 = .ok (.invokevirtual 65, 3) := by decide +kernel
theorem dL_law_515 : decode cL_law 515 = .ok (.aload_n 2, 1) := by decide +kernel
theorem dL_law_516 : decode cL_law 516 = .ok (.aload_n 0, 1) := by decide +kernel
theorem dL_law_517 : decode cL_law 517 = .ok (.iload_n 3, 1) := by decide +kernel
theorem dL_law_518 : decode cL_law 518 = .ok (.iconst 1, 1) := by decide +kernel
theorem dL_law_519 : decode cL_law 519 = .ok (.iadd, 1) := by decide +kernel
theorem dL_law_520 : decode cL_law 520 = .ok (.iaload, 1) := by decide +kernel
theorem dL_law_521 : decode cL_law 521 = .ok (.aload_n 0, 1) := by decide +kernel
theorem dL_law_522 : decode cL_law 522 = .ok (.iload_n 3, 1) := by decide +kernel
theorem dL_law_523 : decode cL_law 523 = .ok (.iconst 2, 1) := by decide +kernel
theorem dL_law_524 : decode cL_law 524 = .ok (.iadd, 1) := by decide +kernel
theorem dL_law_525 : decode cL_law 525 = .ok (.iaload, 1) := by decide +kernel
theorem dL_law_526 : decode cL_law 526 = .ok (.aload_n 0, 1) := by decide +kernel
theorem dL_law_527 : decode cL_law 527 = .ok (.iload_n 3, 1) := by decide +kernel
theorem dL_law_528 : decode cL_law 528 = .ok (.iconst 3, 1) := by decide +kernel
theorem dL_law_529 : decode cL_law 529 = .ok (.iadd, 1) := by decide +kernel
theorem dL_law_530 : decode cL_law 530 = .ok (.iaload, 1) := by decide +kernel
theorem dL_law_531 : decode cL_law 531 = .ok (.invokevirtual 69, 3) := by decide +kernel
theorem dL_law_534 : decode cL_law 534 = .ok (.if_icmp .eq 565, 3) := by decide +kernel
theorem dL_law_537 : decode cL_law 537 = .ok (.iconst 0, 1) := by decide +kernel
theorem dL_law_538 : decode cL_law 538 = .ok (.ireturn, 1) := by decide +kernel
theorem dL_law_539 : decode cL_law 539 = .ok (.aload_n 1, 1) := by decide +kernel
theorem dL_law_540 : decode cL_law 540 = .ok (.invokevirtual 70, 3) := by decide +kernel
theorem dL_law_543 : decode cL_law 543 = .ok (.aload_n 2, 1) := by decide +kernel
theorem dL_law_544 : decode cL_law 544 = .ok (.invokevirtual 73, 3) := by decide +kernel
theorem dL_law_547 : decode cL_law 547 = .ok (.if_icmp .eq 552, 3) := by decide +kernel
theorem dL_law_550 : decode cL_law 550 = .ok (.iconst 0, 1) := by decide +kernel
theorem dL_law_551 : decode cL_law 551 = .ok (.ireturn, 1) := by decide +kernel
theorem dL_law_552 : decode cL_law 552 = .ok (.aload_n 1, 1) := by decide +kernel
theorem dL_law_553 : decode cL_law 553 = .ok (.aload_n 0, 1) := by decide +kernel
theorem dL_law_554 : decode cL_law 554 = .ok (.iload_n 3, 1) := by decide +kernel
theorem dL_law_555 : decode cL_law 555 = .ok (.iconst 1, 1) := by decide +kernel
theorem dL_law_556 : decode cL_law 556 = .ok (.iadd, 1) := by decide +kernel
theorem dL_law_557 : decode cL_law 557 = .ok (.iaload, 1) := by decide +kernel
theorem dL_law_558 : decode cL_law 558 = .ok (.invokevirtual 74, 3) := by decide +kernel
theorem dL_law_561 : decode cL_law 561 = .ok (.aload_n 2, 1) := by decide +kernel
theorem dL_law_562 : decode cL_law 562 = .ok (.aload_n 0, 1) := by decide +kernel
theorem dL_law_563 : decode cL_law 563 = .ok (.iload_n 3, 1) := by decide +kernel
theorem dL_law_564 : decode cL_law 564 = .ok (.iconst 1, 1) := by decide +kernel
theorem dL_law_565 : decode cL_law 565 = .ok (.iadd, 1) := by decide +kernel
theorem dL_law_566 : decode cL_law 566 = .ok (.iaload, 1) := by decide +kernel
theorem dL_law_567 : decode cL_law 567 = .ok (.invokevirtual 77, 3) := by decide +kernel
theorem dL_law_570 : decode cL_law 570 = .ok (.if_icmp .eq 529, 3) := by decide +kernel
theorem dL_law_573 : decode cL_law 573 = .ok (.iconst 0, 1) := by decide +kernel
theorem dL_law_574 : decode cL_law 574 = .ok (.ireturn, 1) := by decide +kernel
theorem dL_law_575 : decode cL_law 575 = .ok (.aload_n 1, 1) := by decide +kernel
theorem dL_law_576 : decode cL_law 576 = .ok (.aload_n 0, 1) := by decide +kernel
theorem dL_law_577 : decode cL_law 577 = .ok (.iload_n 3, 1) := by decide +kernel
theorem dL_law_578 : decode cL_law 578 = .ok (.iconst 1, 1) := by decide +kernel
theorem dL_law_579 : decode cL_law 579 = .ok (.iadd, 1) := by decide +kernel
theorem dL_law_580 : decode cL_law 580 = .ok (.iaload, 1) := by decide +kernel
theorem dL_law_581 : decode cL_law 581 = .ok (.invokevirtual 78, 3) := by decide +kernel
theorem dL_law_584 : decode cL_law 584 = .ok (.aload_n 2, 1) := by decide +kernel
theorem dL_law_585 : decode cL_law 585 = .ok (.aload_n 0, 1) := by decide +kernel
theorem dL_law_586 : decode cL_law 586 = .ok (.iload_n 3, 1) := by decide +kernel
theorem dL_law_587 : decode cL_law 587 = .ok (.iconst 1, 1) := by decide +kernel
theorem dL_law_588 : decode cL_law 588 = .ok (.iadd, 1) := by decide +kernel
theorem dL_law_589 : decode cL_law 589 = .ok (.iaload, 1) := by decide +kernel
theorem dL_law_590 : decode cL_law 590 = .ok (.invokevirtual 81, 3) := by decide +kernel
theorem dL_law_593 : decode cL_law 593 = .ok (.if_icmp .eq 506, 3) := by decide +kernel
theorem dL_law_596 : decode cL_law 596 = .ok (.iconst 0, 1) := by decide +kernel
theorem dL_law_597 : decode cL_law 597 = .ok (.ireturn, 1) := by decide +kernel
theorem dL_law_598 : decode cL_law 598 = .ok (.aload_n 1, 1) := by decide +kernel
theorem dL_law_599 : decode cL_law 599 = .ok (.aload_n 0, 1) := by decide +kernel
theorem dL_law_600 : decode cL_law 600 = .ok (.iload_n 3, 1) := by decide +kernel
theorem dL_law_601 : decode cL_law 601 = .ok (.iconst 1, 1) := by decide +kernel
theorem dL_law_602 : decode cL_law 602 = .ok (.iadd, 1) := by decide +kernel
theorem dL_law_603 : decode cL_law 603 = .ok (.iaload, 1) := by decide +kernel
theorem dL_law_604 : decode cL_law 604 = .ok (.invokevirtual 82, 3) := by decide +kernel
theorem dL_law_607 : decode cL_law 607 = .ok (.aload_n 2, 1) := by decide +kernel
theorem dL_law_608 : decode cL_law 608 = .ok (.aload_n 0, 1) := by decide +kernel
theorem dL_law_609 : decode cL_law 609 = .ok (.iload_n 3, 1) := by decide +kernel
theorem dL_law_610 : decode cL_law 610 = .ok (.iconst 1, 1) := by decide +kernel
theorem dL_law_611 : decode cL_law 611 = .ok (.iadd, 1) := by decide +kernel
theorem dL_law_612 : decode cL_law 612 = .ok (.iaload, 1) := by decide +kernel
theorem dL_law_613 : decode cL_law 613 = .ok (.invokevirtual 85, 3) := by decide +kernel
theorem dL_law_616 : decode cL_law 616 = .ok (.if_icmp .eq 483, 3) := by decide +kernel
theorem dL_law_619 : decode cL_law 619 = .ok (.iconst 0, 1) := by decide +kernel
theorem dL_law_620 : decode cL_law 620 = .ok (.ireturn, 1) := by decide +kernel
theorem dL_law_621 : decode cL_law 621 = .ok (.aload_n 1, 1) := by decide +kernel
theorem dL_law_622 : decode cL_law 622 = .ok (.aload_n 0, 1) := by decide +kernel
theorem dL_law_623 : decode cL_law 623 = .ok (.iload_n 3, 1) := by decide +kernel
theorem dL_law_624 : decode cL_law 624 = .ok (.iconst 1, 1) := by decide +kernel
theorem dL_law_625 : decode cL_law 625 = .ok (.iadd, 1) := by decide +kernel
theorem dL_law_626 : decode cL_law 626 = .ok (.iaload, 1) := by decide +kernel
theorem dL_law_627 : decode cL_law 627 = .ok (.invokevirtual 86, 3) := by decide +kernel
theorem dL_law_630 : decode cL_law 630 = .ok (.aload_n 2, 1) := by decide +kernel
theorem dL_law_631 : decode cL_law 631 = .ok (.aload_n 0, 1) := by decide +kernel
theorem dL_law_632 : decode cL_law 632 = .ok (.iload_n 3, 1) := by decide +kernel
theorem dL_law_633 : decode cL_law 633 = .ok (.iconst 1, 1) := by decide +kernel
theorem dL_law_634 : decode cL_law 634 = .ok (.iadd, 1) := by decide +kernel
theorem dL_law_635 : decode cL_law 635 = .ok (.iaload, 1) := by decide +kernel
theorem dL_law_636 : decode cL_law 636 = .ok (.invokevirtual 89, 3) := by decide +kernel
theorem dL_law_639 : decode cL_law 639 = .ok (.if_icmp .eq 460, 3) := by decide +kernel
theorem dL_law_642 : decode cL_law 642 = .ok (.iconst 0, 1) := by decide +kernel
theorem dL_law_643 : decode cL_law 643 = .ok (.ireturn, 1) := by decide +kernel
theorem dL_law_644 : decode cL_law 644 = .ok (.aload_n 1, 1) := by decide +kernel
theorem dL_law_645 : decode cL_law 645 = .ok (.aload_n 0, 1) := by decide +kernel
theorem dL_law_646 : decode cL_law 646 = .ok (.iload_n 3, 1) := by decide +kernel
theorem dL_law_647 : decode cL_law 647 = .ok (.iconst 1, 1) := by decide +kernel
theorem dL_law_648 : decode cL_law 648 = .ok (.iadd, 1) := by decide +kernel
theorem dL_law_649 : decode cL_law 649 = .ok (.iaload, 1) := by decide +kernel
theorem dL_law_650 : decode cL_law 650 = .ok (.invokevirtual 90, 3) := by decide +kernel
theorem dL_law_653 : decode cL_law 653 = .ok (.aload_n 2, 1) := by decide +kernel
theorem dL_law_654 : decode cL_law 654 = .ok (.aload_n 0, 1) := by decide +kernel
theorem dL_law_655 : decode cL_law 655 = .ok (.iload_n 3, 1) := by decide +kernel
theorem dL_law_656 : decode cL_law 656 = .ok (.iconst 1, 1) := by decide +kernel
theorem dL_law_657 : decode cL_law 657 = .ok (.iadd, 1) := by decide +kernel
theorem dL_law_658 : decode cL_law 658 = .ok (.iaload, 1) := by decide +kernel
theorem dL_law_659 : decode cL_law 659 = .ok (.invokevirtual 93, 3) := by decide +kernel
theorem dL_law_662 : decode cL_law 662 = .ok (.if_icmp .eq 437, 3) := by decide +kernel
theorem dL_law_665 : decode cL_law 665 = .ok (.iconst 0, 1) := by decide +kernel
theorem dL_law_666 : decode cL_law 666 = .ok (.ireturn, 1) := by decide +kernel
theorem dL_law_667 : decode cL_law 667 = .ok (.aload_n 1, 1) := by decide +kernel
theorem dL_law_668 : decode cL_law 668 = .ok (.aload_n 0, 1) := by decide +kernel
theorem dL_law_669 : decode cL_law 669 = .ok (.iload_n 3, 1) := by decide +kernel
theorem dL_law_670 : decode cL_law 670 = .ok (.iconst 1, 1) := by decide +kernel
theorem dL_law_671 : decode cL_law 671 = .ok (.iadd, 1) := by decide +kernel
theorem dL_law_672 : decode cL_law 672 = .ok (.iaload, 1) := by decide +kernel
theorem dL_law_673 : decode cL_law 673 = .ok (.aload_n 0, 1) := by decide +kernel
theorem dL_law_674 : decode cL_law 674 = .ok (.iload_n 3, 1) := by decide +kernel
theorem dL_law_675 : decode cL_law 675 = .ok (.iconst 2, 1) := by decide +kernel
theorem dL_law_676 : decode cL_law 676 = .ok (.iadd, 1) := by decide +kernel
theorem dL_law_677 : decode cL_law 677 = .ok (.iaload, 1) := by decide +kernel
theorem dL_law_678 : decode cL_law 678 = .ok (.aload_n 0, 1) := by decide +kernel
theorem dL_law_679 : decode cL_law 679 = .ok (.iload_n 3, 1) := by decide +kernel
theorem dL_law_680 : decode cL_law 680 = .ok (.iconst 3, 1) := by decide +kernel
theorem dL_law_681 : decode cL_law 681 = .ok (.iadd, 1) := by decide +kernel
theorem dL_law_682 : decode cL_law 682 = .ok (.iaload, 1) := by decide +kernel
theorem dL_law_683 : decode cL_law 683 = .ok (.invokevirtual 94, 3) := by decide +kernel
theorem dL_law_686 : decode cL_law 686 = .ok (.aload_n 2, 1) := by decide +kernel
theorem dL_law_687 : decode cL_law 687 = .ok (.aload_n 0, 1) := by decide +kernel
theorem dL_law_688 : decode cL_law 688 = .ok (.iload_n 3, 1) := by decide +kernel
theorem dL_law_689 : decode cL_law 689 = .ok (.iconst 1, 1) := by decide +kernel
theorem dL_law_690 : decode cL_law 690 = .ok (.iadd, 1) := by decide +kernel
theorem dL_law_691 : decode cL_law 691 = .ok (.iaload, 1) := by decide +kernel
theorem dL_law_692 : decode cL_law 692 = .ok (.aload_n 0, 1) := by decide +kernel
theorem dL_law_693 : decode cL_law 693 = .ok (.iload_n 3, 1) := by decide +kernel
theorem dL_law_694 : decode cL_law 694 = .ok (.iconst 2, 1) := by decide +kernel
theorem dL_law_695 : decode cL_law 695 = .ok (.iadd, 1) := by decide +kernel
theorem dL_law_696 : decode cL_law 696 = .ok (.iaload, 1) := by decide +kernel
theorem dL_law_697 : decode cL_law 697 = .ok (.aload_n 0, 1) := by decide +kernel
theorem dL_law_698 : decode cL_law 698 = .ok (.iload_n 3, 1) := by decide +kernel
theorem dL_law_699 : decode cL_law 699 = .ok (.iconst 3, 1) := by decide +kernel
theorem dL_law_700 : decode cL_law 700 = .ok (.iadd, 1) := by decide +kernel
theorem dL_law_701 : decode cL_law 701 = .ok (.iaload, 1) := by decide +kernel
theorem dL_law_702 : decode cL_law 702 = .ok (.invokevirtual 97, 3) := by decide +kernel
theorem dL_law_705 : decode cL_law 705 = .ok (.if_icmp .eq 394, 3) := by decide +kernel
theorem dL_law_708 : decode cL_law 708 = .ok (.iconst 0, 1) := by decide +kernel
theorem dL_law_709 : decode cL_law 709 = .ok (.ireturn, 1) := by decide +kernel
theorem dL_law_710 : decode cL_law 710 = .ok (.aload_n 1, 1) := by decide +kernel
theorem dL_law_711 : decode cL_law 711 = .ok (.aload_n 0, 1) := by decide +kernel
theorem dL_law_712 : decode cL_law 712 = .ok (.iload_n 3, 1) := by decide +kernel
theorem dL_law_713 : decode cL_law 713 = .ok (.iconst 1, 1) := by decide +kernel
theorem dL_law_714 : decode cL_law 714 = .ok (.iadd, 1) := by decide +kernel
theorem dL_law_715 : decode cL_law 715 = .ok (.iaload, 1) := by decide +kernel
theorem dL_law_716 : decode cL_law 716 = .ok (.invokevirtual 98, 3) := by decide +kernel
theorem dL_law_719 : decode cL_law 719 = .ok (.aload_n 2, 1) := by decide +kernel
theorem dL_law_720 : decode cL_law 720 = .ok (.aload_n 0, 1) := by decide +kernel
theorem dL_law_721 : decode cL_law 721 = .ok (.iload_n 3, 1) := by decide +kernel
theorem dL_law_722 : decode cL_law 722 = .ok (.iconst 1, 1) := by decide +kernel
theorem dL_law_723 : decode cL_law 723 = .ok (.iadd, 1) := by decide +kernel
theorem dL_law_724 : decode cL_law 724 = .ok (.iaload, 1) := by decide +kernel
theorem dL_law_725 : decode cL_law 725 = .ok (.invokevirtual 101, 3) := by decide +kernel
theorem dL_law_728 : decode cL_law 728 = .ok (.if_icmp .eq 371, 3) := by decide +kernel
theorem dL_law_731 : decode cL_law 731 = .ok (.iconst 0, 1) := by decide +kernel
theorem dL_law_732 : decode cL_law 732 = .ok (.ireturn, 1) := by decide +kernel
theorem dL_law_733 : decode cL_law 733 = .ok (.aload_n 1, 1) := by decide +kernel
theorem dL_law_734 : decode cL_law 734 = .ok (.aload_n 0, 1) := by decide +kernel
theorem dL_law_735 : decode cL_law 735 = .ok (.iload_n 3, 1) := by decide +kernel
theorem dL_law_736 : decode cL_law 736 = .ok (.iconst 1, 1) := by decide +kernel
theorem dL_law_737 : decode cL_law 737 = .ok (.iadd, 1) := by decide +kernel
theorem dL_law_738 : decode cL_law 738 = .ok (.iaload, 1) := by decide +kernel
theorem dL_law_739 : decode cL_law 739 = .ok (.aload_n 0, 1) := by decide +kernel
theorem dL_law_740 : decode cL_law 740 = .ok (.iload_n 3, 1) := by decide +kernel
theorem dL_law_741 : decode cL_law 741 = .ok (.iconst 2, 1) := by decide +kernel
theorem dL_law_742 : decode cL_law 742 = .ok (.iadd, 1) := by decide +kernel
theorem dL_law_743 : decode cL_law 743 = .ok (.iaload, 1) := by decide +kernel
theorem dL_law_744 : decode cL_law 744 = .ok (.aload_n 0, 1) := by decide +kernel
theorem dL_law_745 : decode cL_law 745 = .ok (.iload_n 3, 1) := by decide +kernel
theorem dL_law_746 : decode cL_law 746 = .ok (.iconst 3, 1) := by decide +kernel
theorem dL_law_747 : decode cL_law 747 = .ok (.iadd, 1) := by decide +kernel
theorem dL_law_748 : decode cL_law 748 = .ok (.iaload, 1) := by decide +kernel
theorem dL_law_749 : decode cL_law 749 = .ok (.aload_n 0, 1) := by decide +kernel
theorem dL_law_750 : decode cL_law 750 = .ok (.iload_n 3, 1) := by decide +kernel
theorem dL_law_751 : decode cL_law 751 = .ok (.iconst 4, 1) := by decide +kernel
theorem dL_law_752 : decode cL_law 752 = .ok (.iadd, 1) := by decide +kernel
theorem dL_law_753 : decode cL_law 753 = .ok (.iaload, 1) := by decide +kernel
theorem dL_law_754 : decode cL_law 754 = .ok (.invokevirtual 102, 3) := by decide +kernel
theorem dL_law_757 : decode cL_law 757 = .ok (.aload_n 2, 1) := by decide +kernel
theorem dL_law_758 : decode cL_law 758 = .ok (.aload_n 0, 1) := by decide +kernel
theorem dL_law_759 : decode cL_law 759 = .ok (.iload_n 3, 1) := by decide +kernel
theorem dL_law_760 : decode cL_law 760 = .ok (.iconst 1, 1) := by decide +kernel
theorem dL_law_761 : decode cL_law 761 = .ok (.iadd, 1) := by decide +kernel
theorem dL_law_762 : decode cL_law 762 = .ok (.iaload, 1) := by decide +kernel
theorem dL_law_763 : decode cL_law 763 = .ok (.aload_n 0, 1) := by decide +kernel
theorem dL_law_764 : decode cL_law 764 = .ok (.iload_n 3, 1) := by decide +kernel
theorem dL_law_765 : decode cL_law 765 = .ok (.iconst 2, 1) := by decide +kernel
theorem dL_law_766 : decode cL_law 766 = .ok (.iadd, 1) := by decide +kernel
theorem dL_law_767 : decode cL_law 767 = .ok (.iaload, 1) := by decide +kernel
theorem dL_law_768 : decode cL_law 768 = .ok (.aload_n 0, 1) := by decide +kernel
theorem dL_law_769 : decode cL_law 769 = .ok (.iload_n 3, 1) := by decide +kernel
theorem dL_law_770 : decode cL_law 770 = .ok (.iconst 3, 1) := by decide +kernel
theorem dL_law_771 : decode cL_law 771 = .ok (.iadd, 1) := by decide +kernel
theorem dL_law_772 : decode cL_law 772 = .ok (.iaload, 1) := by decide +kernel
theorem dL_law_773 : decode cL_law 773 = .ok (.aload_n 0, 1) := by decide +kernel
theorem dL_law_774 : decode cL_law 774 = .ok (.iload_n 3, 1) := by decide +kernel
theorem dL_law_775 : decode cL_law 775 = .ok (.iconst 4, 1) := by decide +kernel
theorem dL_law_776 : decode cL_law 776 = .ok (.iadd, 1) := by decide +kernel
theorem dL_law_777 : decode cL_law 777 = .ok (.iaload, 1) := by decide +kernel
theorem dL_law_778 : decode cL_law 778 = .ok (.invokevirtual 106, 3) := by decide +kernel
theorem dL_law_781 : decode cL_law 781 = .ok (.if_icmp .eq 318, 3) := by decide +kernel
theorem dL_law_784 : decode cL_law 784 = .ok (.iconst 0, 1) := by decide +kernel
theorem dL_law_785 : decode cL_law 785 = .ok (.ireturn, 1) := by decide +kernel
theorem dL_law_786 : decode cL_law 786 = .ok (.aload_n 1, 1) := by decide +kernel
theorem dL_law_787 : decode cL_law 787 = .ok (.aload_n 0, 1) := by decide +kernel
theorem dL_law_788 : decode cL_law 788 = .ok (.iload_n 3, 1) := by decide +kernel
theorem dL_law_789 : decode cL_law 789 = .ok (.iconst 1, 1) := by decide +kernel
theorem dL_law_790 : decode cL_law 790 = .ok (.iadd, 1) := by decide +kernel
theorem dL_law_791 : decode cL_law 791 = .ok (.iaload, 1) := by decide +kernel
theorem dL_law_792 : decode cL_law 792 = .ok (.invokevirtual 107, 3) := by decide +kernel
theorem dL_law_795 : decode cL_law 795 = .ok (.aload_n 2, 1) := by decide +kernel
theorem dL_law_796 : decode cL_law 796 = .ok (.aload_n 0, 1) := by decide +kernel
theorem dL_law_797 : decode cL_law 797 = .ok (.iload_n 3, 1) := by decide +kernel
theorem dL_law_798 : decode cL_law 798 = .ok (.iconst 1, 1) := by decide +kernel
theorem dL_law_799 : decode cL_law 799 = .ok (.iadd, 1) := by decide +kernel
theorem dL_law_800 : decode cL_law 800 = .ok (.iaload, 1) := by decide +kernel
theorem dL_law_801 : decode cL_law 801 = .ok (.invokevirtual 110, 3) := by decide +kernel
theorem dL_law_804 : decode cL_law 804 = .ok (.if_icmp .eq 295, 3) := by decide +kernel
theorem dL_law_807 : decode cL_law 807 = .ok (.iconst 0, 1) := by decide +kernel
theorem dL_law_808 : decode cL_law 808 = .ok (.ireturn, 1) := by decide +kernel
theorem dL_law_809 : decode cL_law 809 = .ok (.aload_n 1, 1) := by decide +kernel
theorem dL_law_810 : decode cL_law 810 = .ok (.aload_n 0, 1) := by decide +kernel
theorem dL_law_811 : decode cL_law 811 = .ok (.iload_n 3, 1) := by decide +kernel
theorem dL_law_812 : decode cL_law 812 = .ok (.iconst 1, 1) := by decide +kernel
theorem dL_law_813 : decode cL_law 813 = .ok (.iadd, 1) := by decide +kernel
theorem dL_law_814 : decode cL_law 814 = .ok (.iaload, 1) := by decide +kernel
theorem dL_law_815 : decode cL_law 815 = .ok (.aload_n 0, 1) := by decide +kernel
theorem dL_law_816 : decode cL_law 816 = .ok (.iload_n 3, 1) := by decide +kernel
theorem dL_law_817 : decode cL_law 817 = .ok (.iconst 2, 1) := by decide +kernel
theorem dL_law_818 : decode cL_law 818 = .ok (.iadd, 1) := by decide +kernel
theorem dL_law_819 : decode cL_law 819 = .ok (.iaload, 1) := by decide +kernel
theorem dL_law_820 : decode cL_law 820 = .ok (.invokevirtual 111, 3) := by decide +kernel
theorem dL_law_823 : decode cL_law 823 = .ok (.aload_n 2, 1) := by decide +kernel
theorem dL_law_824 : decode cL_law 824 = .ok (.aload_n 0, 1) := by decide +kernel
theorem dL_law_825 : decode cL_law 825 = .ok (.iload_n 3, 1) := by decide +kernel
theorem dL_law_826 : decode cL_law 826 = .ok (.iconst 1, 1) := by decide +kernel
theorem dL_law_827 : decode cL_law 827 = .ok (.iadd, 1) := by decide +kernel
theorem dL_law_828 : decode cL_law 828 = .ok (.iaload, 1) := by decide +kernel
theorem dL_law_829 : decode cL_law 829 = .ok (.aload_n 0, 1) := by decide +kernel
theorem dL_law_830 : decode cL_law 830 = .ok (.iload_n 3, 1) := by decide +kernel
theorem dL_law_831 : decode cL_law 831 = .ok (.iconst 2, 1) := by decide +kernel
theorem dL_law_832 : decode cL_law 832 = .ok (.iadd, 1) := by decide +kernel
theorem dL_law_833 : decode cL_law 833 = .ok (.iaload, 1) := by decide +kernel
theorem dL_law_834 : decode cL_law 834 = .ok (.invokevirtual 114, 3) := by decide +kernel
theorem dL_law_837 : decode cL_law 837 = .ok (.if_icmp .eq 262, 3) := by decide +kernel
theorem dL_law_840 : decode cL_law 840 = .ok (.iconst 0, 1) := by decide +kernel
theorem dL_law_841 : decode cL_law 841 = .ok (.ireturn, 1) := by decide +kernel
theorem dL_law_842 : decode cL_law 842 = .ok (.aload_n 1, 1) := by decide +kernel
theorem dL_law_843 : decode cL_law 843 = .ok (.invokevirtual 115, 3) := by decide +kernel
theorem dL_law_846 : decode cL_law 846 = .ok (.aload_n 2, 1) := by decide +kernel
theorem dL_law_847 : decode cL_law 847 = .ok (.invokevirtual 118, 3) := by decide +kernel
theorem dL_law_850 : decode cL_law 850 = .ok (.if_icmp .eq 249, 3) := by decide +kernel
theorem dL_law_853 : decode cL_law 853 = .ok (.iconst 0, 1) := by decide +kernel
theorem dL_law_854 : decode cL_law 854 = .ok (.ireturn, 1) := by decide +kernel
theorem dL_law_855 : decode cL_law 855 = .ok (.aload_n 1, 1) := by decide +kernel
theorem dL_law_856 : decode cL_law 856 = .ok (.aload_n 0, 1) := by decide +kernel
theorem dL_law_857 : decode cL_law 857 = .ok (.iload_n 3, 1) := by decide +kernel
theorem dL_law_858 : decode cL_law 858 = .ok (.iconst 1, 1) := by decide +kernel
theorem dL_law_859 : decode cL_law 859 = .ok (.iadd, 1) := by decide +kernel
theorem dL_law_860 : decode cL_law 860 = .ok (.iaload, 1) := by decide +kernel
theorem dL_law_861 : decode cL_law 861 = .ok (.aload_n 0, 1) := by decide +kernel
theorem dL_law_862 : decode cL_law 862 = .ok (.iload_n 3, 1) := by decide +kernel
theorem dL_law_863 : decode cL_law 863 = .ok (.iconst 2, 1) := by decide +kernel
theorem dL_law_864 : decode cL_law 864 = .ok (.iadd, 1) := by decide +kernel
theorem dL_law_865 : decode cL_law 865 = .ok (.iaload, 1) := by decide +kernel
theorem dL_law_866 : decode cL_law 866 = .ok (.aload_n 0, 1) := by decide +kernel
theorem dL_law_867 : decode cL_law 867 = .ok (.iload_n 3, 1) := by decide +kernel
theorem dL_law_868 : decode cL_law 868 = .ok (.iconst 3, 1) := by decide +kernel
theorem dL_law_869 : decode cL_law 869 = .ok (.iadd, 1) := by decide +kernel
theorem dL_law_870 : decode cL_law 870 = .ok (.iaload, 1) := by decide +kernel
theorem dL_law_871 : decode cL_law 871 = .ok (.invokevirtual 119, 3) := by decide +kernel
theorem dL_law_874 : decode cL_law 874 = .ok (.aload_n 2, 1) := by decide +kernel
theorem dL_law_875 : decode cL_law 875 = .ok (.aload_n 0, 1) := by decide +kernel
theorem dL_law_876 : decode cL_law 876 = .ok (.iload_n 3, 1) := by decide +kernel
theorem dL_law_877 : decode cL_law 877 = .ok (.iconst 1, 1) := by decide +kernel
theorem dL_law_878 : decode cL_law 878 = .ok (.iadd, 1) := by decide +kernel
theorem dL_law_879 : decode cL_law 879 = .ok (.iaload, 1) := by decide +kernel
theorem dL_law_880 : decode cL_law 880 = .ok (.aload_n 0, 1) := by decide +kernel
theorem dL_law_881 : decode cL_law 881 = .ok (.iload_n 3, 1) := by decide +kernel
theorem dL_law_882 : decode cL_law 882 = .ok (.iconst 2, 1) := by decide +kernel
theorem dL_law_883 : decode cL_law 883 = .ok (.iadd, 1) := by decide +kernel
theorem dL_law_884 : decode cL_law 884 = .ok (.iaload, 1) := by decide +kernel
theorem dL_law_885 : decode cL_law 885 = .ok (.aload_n 0, 1) := by decide +kernel
theorem dL_law_886 : decode cL_law 886 = .ok (.iload_n 3, 1) := by decide +kernel
theorem dL_law_887 : decode cL_law 887 = .ok (.iconst 3, 1) := by decide +kernel
theorem dL_law_888 : decode cL_law 888 = .ok (.iadd, 1) := by decide +kernel
theorem dL_law_889 : decode cL_law 889 = .ok (.iaload, 1) := by decide +kernel
theorem dL_law_890 : decode cL_law 890 = .ok (.invokevirtual 122, 3) := by decide +kernel
theorem dL_law_893 : decode cL_law 893 = .ok (.if_icmp .eq 206, 3) := by decide +kernel
theorem dL_law_896 : decode cL_law 896 = .ok (.iconst 0, 1) := by decide +kernel
theorem dL_law_897 : decode cL_law 897 = .ok (.ireturn, 1) := by decide +kernel
theorem dL_law_898 : decode cL_law 898 = .ok (.aload_n 1, 1) := by decide +kernel
theorem dL_law_899 : decode cL_law 899 = .ok (.aload_n 0, 1) := by decide +kernel
theorem dL_law_900 : decode cL_law 900 = .ok (.iload_n 3, 1) := by decide +kernel
theorem dL_law_901 : decode cL_law 901 = .ok (.iconst 1, 1) := by decide +kernel
theorem dL_law_902 : decode cL_law 902 = .ok (.iadd, 1) := by decide +kernel
theorem dL_law_903 : decode cL_law 903 = .ok (.iaload, 1) := by decide +kernel
theorem dL_law_904 : decode cL_law 904 = .ok (.invokevirtual 123, 3) := by decide +kernel
theorem dL_law_907 : decode cL_law 907 = .ok (.aload_n 2, 1) := by decide +kernel
theorem dL_law_908 : decode cL_law 908 = .ok (.aload_n 0, 1) := by decide +kernel
theorem dL_law_909 : decode cL_law 909 = .ok (.iload_n 3, 1) := by decide +kernel
theorem dL_law_910 : decode cL_law 910 = .ok (.iconst 1, 1) := by decide +kernel
theorem dL_law_911 : decode cL_law 911 = .ok (.iadd, 1) := by decide +kernel
theorem dL_law_912 : decode cL_law 912 = .ok (.iaload, 1) := by decide +kernel
theorem dL_law_913 : decode cL_law 913 = .ok (.invokevirtual 126, 3) := by decide +kernel
theorem dL_law_916 : decode cL_law 916 = .ok (.if_icmp .eq 183, 3) := by decide +kernel
theorem dL_law_919 : decode cL_law 919 = .ok (.iconst 0, 1) := by decide +kernel
theorem dL_law_920 : decode cL_law 920 = .ok (.ireturn, 1) := by decide +kernel
theorem dL_law_921 : decode cL_law 921 = .ok (.aload_n 1, 1) := by decide +kernel
theorem dL_law_922 : decode cL_law 922 = .ok (.aload_n 0, 1) := by decide +kernel
theorem dL_law_923 : decode cL_law 923 = .ok (.iload_n 3, 1) := by decide +kernel
theorem dL_law_924 : decode cL_law 924 = .ok (.iconst 1, 1) := by decide +kernel
theorem dL_law_925 : decode cL_law 925 = .ok (.iadd, 1) := by decide +kernel
theorem dL_law_926 : decode cL_law 926 = .ok (.iaload, 1) := by decide +kernel
theorem dL_law_927 : decode cL_law 927 = .ok (.aload_n 0, 1) := by decide +kernel
theorem dL_law_928 : decode cL_law 928 = .ok (.iload_n 3, 1) := by decide +kernel
theorem dL_law_929 : decode cL_law 929 = .ok (.iconst 2, 1) := by decide +kernel
theorem dL_law_930 : decode cL_law 930 = .ok (.iadd, 1) := by decide +kernel
theorem dL_law_931 : decode cL_law 931 = .ok (.iaload, 1) := by decide +kernel
theorem dL_law_932 : decode cL_law 932 = .ok (.invokevirtual 127, 3) := by decide +kernel
theorem dL_law_935 : decode cL_law 935 = .ok (.aload_n 2, 1) := by decide +kernel
theorem dL_law_936 : decode cL_law 936 = .ok (.aload_n 0, 1) := by decide +kernel
theorem dL_law_937 : decode cL_law 937 = .ok (.iload_n 3, 1) := by decide +kernel
theorem dL_law_938 : decode cL_law 938 = .ok (.iconst 1, 1) := by decide +kernel
theorem dL_law_939 : decode cL_law 939 = .ok (.iadd, 1) := by decide +kernel
theorem dL_law_940 : decode cL_law 940 = .ok (.iaload, 1) := by decide +kernel
theorem dL_law_941 : decode cL_law 941 = .ok (.aload_n 0, 1) := by decide +kernel
theorem dL_law_942 : decode cL_law 942 = .ok (.iload_n 3, 1) := by decide +kernel
theorem dL_law_943 : decode cL_law 943 = .ok (.iconst 2, 1) := by decide +kernel
theorem dL_law_944 : decode cL_law 944 = .ok (.iadd, 1) := by decide +kernel
theorem dL_law_945 : decode cL_law 945 = .ok (.iaload, 1) := by decide +kernel
theorem dL_law_946 : decode cL_law 946 = .ok (.invokevirtual 130, 3) := by decide +kernel
theorem dL_law_949 : decode cL_law 949 = .ok (.if_icmp .eq 150, 3) := by decide +kernel
theorem dL_law_952 : decode cL_law 952 = .ok (.iconst 0, 1) := by decide +kernel
theorem dL_law_953 : decode cL_law 953 = .ok (.ireturn, 1) := by decide +kernel
theorem dL_law_954 : decode cL_law 954 = .ok (.aload_n 1, 1) := by decide +kernel
theorem dL_law_955 : decode cL_law 955 = .ok (.aload_n 0, 1) := by decide +kernel
theorem dL_law_956 : decode cL_law 956 = .ok (.iload_n 3, 1) := by decide +kernel
theorem dL_law_957 : decode cL_law 957 = .ok (.iconst 1, 1) := by decide +kernel
theorem dL_law_958 : decode cL_law 958 = .ok (.iadd, 1) := by decide +kernel
theorem dL_law_959 : decode cL_law 959 = .ok (.iaload, 1) := by decide +kernel
theorem dL_law_960 : decode cL_law 960 = .ok (.invokevirtual 131, 3) := by decide +kernel
theorem dL_law_963 : decode cL_law 963 = .ok (.aload_n 2, 1) := by decide +kernel
theorem dL_law_964 : decode cL_law 964 = .ok (.aload_n 0, 1) := by decide +kernel
theorem dL_law_965 : decode cL_law 965 = .ok (.iload_n 3, 1) := by decide +kernel
theorem dL_law_966 : decode cL_law 966 = .ok (.iconst 1, 1) := by decide +kernel
theorem dL_law_967 : decode cL_law 967 = .ok (.iadd, 1) := by decide +kernel
theorem dL_law_968 : decode cL_law 968 = .ok (.iaload, 1) := by decide +kernel
theorem dL_law_969 : decode cL_law 969 = .ok (.invokevirtual 134, 3) := by decide +kernel
theorem dL_law_972 : decode cL_law 972 = .ok (.if_icmp .eq 127, 3) := by decide +kernel
theorem dL_law_975 : decode cL_law 975 = .ok (.iconst 0, 1) := by decide +kernel
theorem dL_law_976 : decode cL_law 976 = .ok (.ireturn, 1) := by decide +kernel
theorem dL_law_977 : decode cL_law 977 = .ok (.aload_n 1, 1) := by decide +kernel
theorem dL_law_978 : decode cL_law 978 = .ok (.aload_n 0, 1) := by decide +kernel
theorem dL_law_979 : decode cL_law 979 = .ok (.iload_n 3, 1) := by decide +kernel
theorem dL_law_980 : decode cL_law 980 = .ok (.iconst 1, 1) := by decide +kernel
theorem dL_law_981 : decode cL_law 981 = .ok (.iadd, 1) := by decide +kernel
theorem dL_law_982 : decode cL_law 982 = .ok (.iaload, 1) := by decide +kernel
theorem dL_law_983 : decode cL_law 983 = .ok (.aload_n 0, 1) := by decide +kernel
theorem dL_law_984 : decode cL_law 984 = .ok (.iload_n 3, 1) := by decide +kernel
theorem dL_law_985 : decode cL_law 985 = .ok (.iconst 2, 1) := by decide +kernel
theorem dL_law_986 : decode cL_law 986 = .ok (.iadd, 1) := by decide +kernel
theorem dL_law_987 : decode cL_law 987 = .ok (.iaload, 1) := by decide +kernel
theorem dL_law_988 : decode cL_law 988 = .ok (.aload_n 0, 1) := by decide +kernel
theorem dL_law_989 : decode cL_law 989 = .ok (.iload_n 3, 1) := by decide +kernel
theorem dL_law_990 : decode cL_law 990 = .ok (.iconst 3, 1) := by decide +kernel
theorem dL_law_991 : decode cL_law 991 = .ok (.iadd, 1) := by decide +kernel
theorem dL_law_992 : decode cL_law 992 = .ok (.iaload, 1) := by decide +kernel
theorem dL_law_993 : decode cL_law 993 = .ok (.aload_n 0, 1) := by decide +kernel
theorem dL_law_994 : decode cL_law 994 = .ok (.iload_n 3, 1) := by decide +kernel
theorem dL_law_995 : decode cL_law 995 = .ok (.iconst 4, 1) := by decide +kernel
theorem dL_law_996 : decode cL_law 996 = .ok (.iadd, 1) := by decide +kernel
theorem dL_law_997 : decode cL_law 997 = .ok (.iaload, 1) := by decide +kernel
theorem dL_law_998 : decode cL_law 998 = .ok (.invokevirtual 135, 3) := by decide +kernel
theorem dL_law_1001 : decode cL_law 1001 = .ok (.aload_n 2, 1) := by decide +kernel
theorem dL_law_1002 : decode cL_law 1002 = .ok (.aload_n 0, 1) := by decide +kernel
theorem dL_law_1003 : decode cL_law 1003 = .ok (.iload_n 3, 1) := by decide +kernel
theorem dL_law_1004 : decode cL_law 1004 = .ok (.iconst 1, 1) := by decide +kernel
theorem dL_law_1005 : decode cL_law 1005 = .ok (.iadd, 1) := by decide +kernel
theorem dL_law_1006 : decode cL_law 1006 = .ok (.iaload, 1) := by decide +kernel
theorem dL_law_1007 : decode cL_law 1007 = .ok (.aload_n 0, 1) := by decide +kernel
theorem dL_law_1008 : decode cL_law 1008 = .ok (.iload_n 3, 1) := by decide +kernel
theorem dL_law_1009 : decode cL_law 1009 = .ok (.iconst 2, 1) := by decide +kernel
theorem dL_law_1010 : decode cL_law 1010 = .ok (.iadd, 1) := by decide +kernel
theorem dL_law_1011 : decode cL_law 1011 = .ok (.iaload, 1) := by decide +kernel
theorem dL_law_1012 : decode cL_law 1012 = .ok (.aload_n 0, 1) := by decide +kernel
theorem dL_law_1013 : decode cL_law 1013 = .ok (.iload_n 3, 1) := by decide +kernel
theorem dL_law_1014 : decode cL_law 1014 = .ok (.iconst 3, 1) := by decide +kernel
theorem dL_law_1015 : decode cL_law 1015 = .ok (.iadd, 1) := by decide +kernel
theorem dL_law_1016 : decode cL_law 1016 = .ok (.iaload, 1) := by decide +kernel
theorem dL_law_1017 : decode cL_law 1017 = .ok (.aload_n 0, 1) := by decide +kernel
theorem dL_law_1018 : decode cL_law 1018 = .ok (.iload_n 3, 1) := by decide +kernel
theorem dL_law_1019 : decode cL_law 1019 = .ok (.iconst 4, 1) := by decide +kernel
theorem dL_law_1020 : decode cL_law 1020 = .ok (.iadd, 1) := by decide +kernel
theorem dL_law_1021 : decode cL_law 1021 = .ok (.iaload, 1) := by decide +kernel
theorem dL_law_1022 : decode cL_law 1022 = .ok (.invokevirtual 138, 3) := by decide +kernel
theorem dL_law_1025 : decode cL_law 1025 = .ok (.if_icmp .eq 74, 3) := by decide +kernel
theorem dL_law_1028 : decode cL_law 1028 = .ok (.iconst 0, 1) := by decide +kernel
theorem dL_law_1029 : decode cL_law 1029 = .ok (.ireturn, 1) := by decide +kernel
theorem dL_law_1030 : decode cL_law 1030 = .ok (.aload_n 1, 1) := by decide +kernel
theorem dL_law_1031 : decode cL_law 1031 = .ok (.aload_n 0, 1) := by decide +kernel
theorem dL_law_1032 : decode cL_law 1032 = .ok (.iload_n 3, 1) := by decide +kernel
theorem dL_law_1033 : decode cL_law 1033 = .ok (.iconst 1, 1) := by decide +kernel
theorem dL_law_1034 : decode cL_law 1034 = .ok (.iadd, 1) := by decide +kernel
theorem dL_law_1035 : decode cL_law 1035 = .ok (.iaload, 1) := by decide +kernel
theorem dL_law_1036 : decode cL_law 1036 = .ok (.invokevirtual 139, 3) := by decide +kernel
theorem dL_law_1039 : decode cL_law 1039 = .ok (.aload_n 2, 1) := by decide +kernel
theorem dL_law_1040 : decode cL_law 1040 = .ok (.aload_n 0, 1) := by decide +kernel
theorem dL_law_1041 : decode cL_law 1041 = .ok (.iload_n 3, 1) := by decide +kernel
theorem dL_law_1042 : decode cL_law 1042 = .ok (.iconst 1, 1) := by decide +kernel
theorem dL_law_1043 : decode cL_law 1043 = .ok (.iadd, 1) := by decide +kernel
theorem dL_law_1044 : decode cL_law 1044 = .ok (.iaload, 1) := by decide +kernel
theorem dL_law_1045 : decode cL_law 1045 = .ok (.invokevirtual 142, 3) := by decide +kernel
theorem dL_law_1048 : decode cL_law 1048 = .ok (.if_icmp .eq 51, 3) := by decide +kernel
theorem dL_law_1051 : decode cL_law 1051 = .ok (.iconst 0, 1) := by decide +kernel
theorem dL_law_1052 : decode cL_law 1052 = .ok (.ireturn, 1) := by decide +kernel
theorem dL_law_1053 : decode cL_law 1053 = .ok (.aload_n 1, 1) := by decide +kernel
theorem dL_law_1054 : decode cL_law 1054 = .ok (.aload_n 0, 1) := by decide +kernel
theorem dL_law_1055 : decode cL_law 1055 = .ok (.iload_n 3, 1) := by decide +kernel
theorem dL_law_1056 : decode cL_law 1056 = .ok (.iconst 1, 1) := by decide +kernel
theorem dL_law_1057 : decode cL_law 1057 = .ok (.iadd, 1) := by decide +kernel
theorem dL_law_1058 : decode cL_law 1058 = .ok (.iaload, 1) := by decide +kernel
theorem dL_law_1059 : decode cL_law 1059 = .ok (.invokevirtual 143, 3) := by decide +kernel
theorem dL_law_1062 : decode cL_law 1062 = .ok (.aload_n 2, 1) := by decide +kernel
theorem dL_law_1063 : decode cL_law 1063 = .ok (.aload_n 0, 1) := by decide +kernel
theorem dL_law_1064 : decode cL_law 1064 = .ok (.iload_n 3, 1) := by decide +kernel
theorem dL_law_1065 : decode cL_law 1065 = .ok (.iconst 1, 1) := by decide +kernel
theorem dL_law_1066 : decode cL_law 1066 = .ok (.iadd, 1) := by decide +kernel
theorem dL_law_1067 : decode cL_law 1067 = .ok (.iaload, 1) := by decide +kernel
theorem dL_law_1068 : decode cL_law 1068 = .ok (.invokevirtual 146, 3) := by decide +kernel
theorem dL_law_1071 : decode cL_law 1071 = .ok (.if_icmp .eq 28, 3) := by decide +kernel
theorem dL_law_1074 : decode cL_law 1074 = .ok (.iconst 0, 1) := by decide +kernel
theorem dL_law_1075 : decode cL_law 1075 = .ok (.ireturn, 1) := by decide +kernel
theorem dL_law_1076 : decode cL_law 1076 = .ok (.aload_n 1, 1) := by decide +kernel
theorem dL_law_1077 : decode cL_law 1077 = .ok (.aload_n 0, 1) := by decide +kernel
theorem dL_law_1078 : decode cL_law 1078 = .ok (.iload_n 3, 1) := by decide +kernel
theorem dL_law_1079 : decode cL_law 1079 = .ok (.iconst 1, 1) := by decide +kernel
theorem dL_law_1080 : decode cL_law 1080 = .ok (.iadd, 1) := by decide +kernel
theorem dL_law_1081 : decode cL_law 1081 = .ok (.iaload, 1) := by decide +kernel
theorem dL_law_1082 : decode cL_law 1082 = .ok (.invokevirtual 147, 3) := by decide +kernel
theorem dL_law_1085 : decode cL_law 1085 = .ok (.aload_n 2, 1) := by decide +kernel
theorem dL_law_1086 : decode cL_law 1086 = .ok (.aload_n 0, 1) := by decide +kernel
theorem dL_law_1087 : decode cL_law 1087 = .ok (.iload_n 3, 1) := by decide +kernel
theorem dL_law_1088 : decode cL_law 1088 = .ok (.iconst 1, 1) := by decide +kernel
theorem dL_law_1089 : decode cL_law 1089 = .ok (.iadd, 1) := by decide +kernel
theorem dL_law_1090 : decode cL_law 1090 = .ok (.iaload, 1) := by decide +kernel
theorem dL_law_1091 : decode cL_law 1091 = .ok (.invokevirtual 150, 3) := by decide +kernel
theorem dL_law_1094 : decode cL_law 1094 = .ok (.if_icmp .eq 5, 3) := by decide +kernel
theorem dL_law_1097 : decode cL_law 1097 = .ok (.iconst 0, 1) := by decide +kernel
theorem dL_law_1098 : decode cL_law 1098 = .ok (.ireturn, 1) := by decide +kernel
theorem dL_law_1099 : decode cL_law 1099 = .ok (.iinc 3 6, 3) := by decide +kernel
theorem dL_law_1102 : decode cL_law 1102 = .ok (.goto (-1084), 3) := by decide +kernel
theorem dL_law_1105 : decode cL_law 1105 = .ok (.iconst 1, 1) := by decide +kernel
theorem dL_law_1106 : decode cL_law 1106 = .ok (.ireturn, 1) := by decide +kernel
theorem dX0_init_0 : decode cX0_init 0 = .ok (.aload_n 0, 1) := by decide +kernel
theorem dX0_init_1 : decode cX0_init 1 = .ok (.invokespecial 3, 3) := by decide +kernel
theorem dX0_init_4 : decode cX0_init 4 = .ok (.aload_n 0, 1) := by decide +kernel
theorem dX0_init_5 : decode cX0_init 5 = .ok (.bipush 7, 2) := by decide +kernel
theorem dX0_init_7 : decode cX0_init 7 = .ok (.newarray .int, 2) := by decide +kernel
theorem dX0_init_9 : decode cX0_init 9 = .ok (.putfield 9, 3) := by decide +kernel
theorem dX0_init_12 : decode cX0_init 12 = .ok (.aload_n 0, 1) := by decide +kernel
theorem dX0_init_13 : decode cX0_init 13 = .ok (.bipush 7, 2) := by decide +kernel
theorem dX0_init_15 : decode cX0_init 15 = .ok (.newarray .int, 2) := by decide +kernel
theorem dX0_init_17 : decode cX0_init 17 = .ok (.putfield 15, 3) := by decide +kernel
theorem dX0_init_20 : decode cX0_init 20 = .ok (.aload_n 0, 1) := by decide +kernel
theorem dX0_init_21 : decode cX0_init 21 = .ok (.bipush 7, 2) := by decide +kernel
theorem dX0_init_23 : decode cX0_init 23 = .ok (.newarray .int, 2) := by decide +kernel
theorem dX0_init_25 : decode cX0_init 25 = .ok (.putfield 18, 3) := by decide +kernel
theorem dX0_init_28 : decode cX0_init 28 = .ok (.aload_n 0, 1) := by decide +kernel
theorem dX0_init_29 : decode cX0_init 29 = .ok (.bipush 49, 2) := by decide +kernel
theorem dX0_init_31 : decode cX0_init 31 = .ok (.newarray .int, 2) := by decide +kernel
theorem dX0_init_33 : decode cX0_init 33 = .ok (.putfield 21, 3) := by decide +kernel
theorem dX0_init_36 : decode cX0_init 36 = .ok (.return_, 1) := by decide +kernel
theorem dX0_clear_0 : decode cX0_clear 0 = .ok (.aload_n 0, 1) := by decide +kernel
theorem dX0_clear_1 : decode cX0_clear 1 = .ok (.iconst 0, 1) := by decide +kernel
theorem dX0_clear_2 : decode cX0_clear 2 = .ok (.putfield 24, 3) := by decide +kernel
theorem dX0_clear_5 : decode cX0_clear 5 = .ok (.aload_n 0, 1) := by decide +kernel
theorem dX0_clear_6 : decode cX0_clear 6 = .ok (.iconst 0, 1) := by decide +kernel
theorem dX0_clear_7 : decode cX0_clear 7 = .ok (.putfield 28, 3) := by decide +kernel
theorem dX0_clear_10 : decode cX0_clear 10 = .ok (.aload_n 0, 1) := by decide +kernel
theorem dX0_clear_11 : decode cX0_clear 11 = .ok (.iconst 0, 1) := by decide +kernel
theorem dX0_clear_12 : decode cX0_clear 12 = .ok (.putfield 32, 3) := by decide +kernel
theorem dX0_clear_15 : decode cX0_clear 15 = .ok (.aload_n 0, 1) := by decide +kernel
theorem dX0_clear_16 : decode cX0_clear 16 = .ok (.iconst 0, 1) := by decide +kernel
theorem dX0_clear_17 : decode cX0_clear 17 = .ok (.putfield 35, 3) := by decide +kernel
theorem dX0_clear_20 : decode cX0_clear 20 = .ok (.aload_n 0, 1) := by decide +kernel
theorem dX0_clear_21 : decode cX0_clear 21 = .ok (.iconst 0, 1) := by decide +kernel
theorem dX0_clear_22 : decode cX0_clear 22 = .ok (.putfield 38, 3) := by decide +kernel
theorem dX0_clear_25 : decode cX0_clear 25 = .ok (.aload_n 0, 1) := by decide +kernel
theorem dX0_clear_26 : decode cX0_clear 26 = .ok (.lconst 0, 1) := by decide +kernel
theorem dX0_clear_27 : decode cX0_clear 27 = .ok (.putfield 41, 3) := by decide +kernel
theorem dX0_clear_30 : decode cX0_clear 30 = .ok (.aload_n 0, 1) := by decide +kernel
theorem dX0_clear_31 : decode cX0_clear 31 = .ok (.getfield 21, 3) := by decide +kernel
theorem dX0_clear_34 : decode cX0_clear 34 = .ok (.iconst 0, 1) := by decide +kernel
theorem dX0_clear_35 : decode cX0_clear 35 = .ok (.invokestatic 45, 3) := by decide +kernel
theorem dX0_clear_38 : decode cX0_clear 38 = .ok (.return_, 1) := by decide +kernel
theorem dX0_add_0 : decode cX0_add 0 = .ok (.aload_n 0, 1) := by decide +kernel
theorem dX0_add_1 : decode cX0_add 1 = .ok (.getfield 38, 3) := by decide +kernel
theorem dX0_add_4 : decode cX0_add 4 = .ok (.bipush 7, 2) := by decide +kernel
theorem dX0_add_6 : decode cX0_add 6 = .ok (.if_icmp .ge 43, 3) := by decide +kernel
theorem dX0_add_9 : decode cX0_add 9 = .ok (.aload_n 0, 1) := by decide +kernel
theorem dX0_add_10 : decode cX0_add 10 = .ok (.getfield 9, 3) := by decide +kernel
theorem dX0_add_13 : decode cX0_add 13 = .ok (.aload_n 0, 1) := by decide +kernel
theorem dX0_add_14 : decode cX0_add 14 = .ok (.getfield 38, 3) := by decide +kernel
theorem dX0_add_17 : decode cX0_add 17 = .ok (.iload_n 1, 1) := by decide +kernel
theorem dX0_add_18 : decode cX0_add 18 = .ok (.iastore, 1) := by decide +kernel
theorem dX0_add_19 : decode cX0_add 19 = .ok (.aload_n 0, 1) := by decide +kernel
theorem dX0_add_20 : decode cX0_add 20 = .ok (.getfield 15, 3) := by decide +kernel
theorem dX0_add_23 : decode cX0_add 23 = .ok (.aload_n 0, 1) := by decide +kernel
theorem dX0_add_24 : decode cX0_add 24 = .ok (.getfield 38, 3) := by decide +kernel
theorem dX0_add_27 : decode cX0_add 27 = .ok (.iload_n 2, 1) := by decide +kernel
theorem dX0_add_28 : decode cX0_add 28 = .ok (.iastore, 1) := by decide +kernel
theorem dX0_add_29 : decode cX0_add 29 = .ok (.aload_n 0, 1) := by decide +kernel
theorem dX0_add_30 : decode cX0_add 30 = .ok (.getfield 18, 3) := by decide +kernel
theorem dX0_add_33 : decode cX0_add 33 = .ok (.aload_n 0, 1) := by decide +kernel
theorem dX0_add_34 : decode cX0_add 34 = .ok (.getfield 38, 3) := by decide +kernel
theorem dX0_add_37 : decode cX0_add 37 = .ok (.iload_n 3, 1) := by decide +kernel
theorem dX0_add_38 : decode cX0_add 38 = .ok (.iastore, 1) := by decide +kernel
theorem dX0_add_39 : decode cX0_add 39 = .ok (.aload_n 0, 1) := by decide +kernel
theorem dX0_add_40 : decode cX0_add 40 = .ok (.dup, 1) := by decide +kernel
theorem dX0_add_41 : decode cX0_add 41 = .ok (.getfield 38, 3) := by decide +kernel
theorem dX0_add_44 : decode cX0_add 44 = .ok (.iconst 1, 1) := by decide +kernel
theorem dX0_add_45 : decode cX0_add 45 = .ok (.iadd, 1) := by decide +kernel
theorem dX0_add_46 : decode cX0_add 46 = .ok (.putfield 38, 3) := by decide +kernel
theorem dX0_add_49 : decode cX0_add 49 = .ok (.return_, 1) := by decide +kernel
theorem dX0_has_0 : decode cX0_has 0 = .ok (.iload_n 1, 1) := by decide +kernel
theorem dX0_has_1 : decode cX0_has 1 = .ok (.ifCond .lt 15, 3) := by decide +kernel
theorem dX0_has_4 : decode cX0_has 4 = .ok (.iload_n 1, 1) := by decide +kernel
theorem dX0_has_5 : decode cX0_has 5 = .ok (.aload_n 0, 1) := by decide +kernel
theorem dX0_has_6 : decode cX0_has 6 = .ok (.getfield 38, 3) := by decide +kernel
theorem dX0_has_9 : decode cX0_has 9 = .ok (.if_icmp .ge 7, 3) := by decide +kernel
theorem dX0_has_12 : decode cX0_has 12 = .ok (.iconst 1, 1) := by decide +kernel
theorem dX0_has_13 : decode cX0_has 13 = .ok (.goto 4, 3) := by decide +kernel
theorem dX0_has_16 : decode cX0_has 16 = .ok (.iconst 0, 1) := by decide +kernel
theorem dX0_has_17 : decode cX0_has 17 = .ok (.ireturn, 1) := by decide +kernel
theorem dX0_everybody_0 : decode cX0_everybody 0 = .ok (.iconst 1, 1) := by decide +kernel
theorem dX0_everybody_1 : decode cX0_everybody 1 = .ok (.aload_n 0, 1) := by decide +kernel
theorem dX0_everybody_2 : decode cX0_everybody 2 = .ok (.getfield 38, 3) := by decide +kernel
theorem dX0_everybody_5 : decode cX0_everybody 5 = .ok (.ishl, 1) := by decide +kernel
theorem dX0_everybody_6 : decode cX0_everybody 6 = .ok (.iconst 1, 1) := by decide +kernel
theorem dX0_everybody_7 : decode cX0_everybody 7 = .ok (.isub, 1) := by decide +kernel
theorem dX0_everybody_8 : decode cX0_everybody 8 = .ok (.ireturn, 1) := by decide +kernel
theorem dX0_hasAll_0 : decode cX0_hasAll 0 = .ok (.iload_n 1, 1) := by decide +kernel
theorem dX0_hasAll_1 : decode cX0_hasAll 1 = .ok (.aload_n 0, 1) := by decide +kernel
theorem dX0_hasAll_2 : decode cX0_hasAll 2 = .ok (.invokevirtual 51, 3) := by decide +kernel
theorem dX0_hasAll_5 : decode cX0_hasAll 5 = .ok (.iconst (-1), 1) := by decide +kernel
theorem dX0_hasAll_6 : decode cX0_hasAll 6 = .ok (.ixor, 1) := by decide +kernel
theorem dX0_hasAll_7 : decode cX0_hasAll 7 = .ok (.iand, 1) := by decide +kernel
theorem dX0_hasAll_8 : decode cX0_hasAll 8 = .ok (.ifCond .ne 7, 3) := by decide +kernel
theorem dX0_hasAll_11 : decode cX0_hasAll 11 = .ok (.iconst 1, 1) := by decide +kernel
theorem dX0_hasAll_12 : decode cX0_hasAll 12 = .ok (.goto 4, 3) := by decide +kernel
theorem dX0_hasAll_15 : decode cX0_hasAll 15 = .ok (.iconst 0, 1) := by decide +kernel
theorem dX0_hasAll_16 : decode cX0_hasAll 16 = .ok (.ireturn, 1) := by decide +kernel
theorem dX0_setExtra_0 : decode cX0_setExtra 0 = .ok (.aload_n 0, 1) := by decide +kernel
theorem dX0_setExtra_1 : decode cX0_setExtra 1 = .ok (.iload_n 1, 1) := by decide +kernel
theorem dX0_setExtra_2 : decode cX0_setExtra 2 = .ok (.invokevirtual 55, 3) := by decide +kernel
theorem dX0_setExtra_5 : decode cX0_setExtra 5 = .ok (.ifCond .eq 35, 3) := by decide +kernel
theorem dX0_setExtra_8 : decode cX0_setExtra 8 = .ok (.aload_n 0, 1) := by decide +kernel
theorem dX0_setExtra_9 : decode cX0_setExtra 9 = .ok (.iload_n 2, 1) := by decide +kernel
theorem dX0_setExtra_10 : decode cX0_setExtra 10 = .ok (.invokevirtual 55, 3) := by decide +kernel
theorem dX0_setExtra_13 : decode cX0_setExtra 13 = .ok (.ifCond .eq 27, 3) := by decide +kernel
theorem dX0_setExtra_16 : decode cX0_setExtra 16 = .ok (.aload_n 0, 1) := by decide +kernel
theorem dX0_setExtra_17 : decode cX0_setExtra 17 = .ok (.getfield 21, 3) := by decide +kernel
theorem dX0_setExtra_20 : decode cX0_setExtra 20 = .ok (.iload_n 1, 1) := by decide +kernel
theorem dX0_setExtra_21 : decode cX0_setExtra 21 = .ok (.bipush 7, 2) := by decide +kernel
theorem dX0_setExtra_23 : decode cX0_setExtra 23 = .ok (.imul, 1) := by decide +kernel
theorem dX0_setExtra_24 : decode cX0_setExtra 24 = .ok (.iload_n 2, 1) := by decide +kernel
theorem dX0_setExtra_25 : decode cX0_setExtra 25 = .ok (.iadd, 1) := by decide +kernel
theorem dX0_setExtra_26 : decode cX0_setExtra 26 = .ok (.iload_n 3, 1) := by decide +kernel
theorem dX0_setExtra_27 : decode cX0_setExtra 27 = .ok (.iastore, 1) := by decide +kernel
theorem dX0_setExtra_28 : decode cX0_setExtra 28 = .ok (.aload_n 0, 1) := by decide +kernel
theorem dX0_setExtra_29 : decode cX0_setExtra 29 = .ok (.getfield 21, 3) := by decide +kernel
theorem dX0_setExtra_32 : decode cX0_setExtra 32 = .ok (.iload_n 2, 1) := by decide +kernel
theorem dX0_setExtra_33 : decode cX0_setExtra 33 = .ok (.bipush 7, 2) := by decide +kernel
theorem dX0_setExtra_35 : decode cX0_setExtra 35 = .ok (.imul, 1) := by decide +kernel
theorem dX0_setExtra_36 : decode cX0_setExtra 36 = .ok (.iload_n 1, 1) := by decide +kernel
theorem dX0_setExtra_37 : decode cX0_setExtra 37 = .ok (.iadd, 1) := by decide +kernel
theorem dX0_setExtra_38 : decode cX0_setExtra 38 = .ok (.iload_n 3, 1) := by decide +kernel
theorem dX0_setExtra_39 : decode cX0_setExtra 39 = .ok (.iastore, 1) := by decide +kernel
theorem dX0_setExtra_40 : decode cX0_setExtra 40 = .ok (.return_, 1) := by decide +kernel
theorem dX0_extra_0 : decode cX0_extra 0 = .ok (.aload_n 0, 1) := by decide +kernel
theorem dX0_extra_1 : decode cX0_extra 1 = .ok (.iload_n 1, 1) := by decide +kernel
theorem dX0_extra_2 : decode cX0_extra 2 = .ok (.invokevirtual 55, 3) := by decide +kernel
theorem dX0_extra_5 : decode cX0_extra 5 = .ok (.ifCond .eq 25, 3) := by decide +kernel
theorem dX0_extra_8 : decode cX0_extra 8 = .ok (.aload_n 0, 1) := by decide +kernel
theorem dX0_extra_9 : decode cX0_extra 9 = .ok (.iload_n 2, 1) := by decide +kernel
theorem dX0_extra_10 : decode cX0_extra 10 = .ok (.invokevirtual 55, 3) := by decide +kernel
theorem dX0_extra_13 : decode cX0_extra 13 = .ok (.ifCond .eq 17, 3) := by decide +kernel
theorem dX0_extra_16 : decode cX0_extra 16 = .ok (.aload_n 0, 1) := by decide +kernel
theorem dX0_extra_17 : decode cX0_extra 17 = .ok (.getfield 21, 3) := by decide +kernel
theorem dX0_extra_20 : decode cX0_extra 20 = .ok (.iload_n 1, 1) := by decide +kernel
theorem dX0_extra_21 : decode cX0_extra 21 = .ok (.bipush 7, 2) := by decide +kernel
theorem dX0_extra_23 : decode cX0_extra 23 = .ok (.imul, 1) := by decide +kernel
theorem dX0_extra_24 : decode cX0_extra 24 = .ok (.iload_n 2, 1) := by decide +kernel
theorem dX0_extra_25 : decode cX0_extra 25 = .ok (.iadd, 1) := by decide +kernel
theorem dX0_extra_26 : decode cX0_extra 26 = .ok (.iaload, 1) := by decide +kernel
theorem dX0_extra_27 : decode cX0_extra 27 = .ok (.goto 4, 3) := by decide +kernel
theorem dX0_extra_30 : decode cX0_extra 30 = .ok (.iconst 0, 1) := by decide +kernel
theorem dX0_extra_31 : decode cX0_extra 31 = .ok (.ireturn, 1) := by decide +kernel
theorem dX0_extraAmong_0 : decode cX0_extraAmong 0 = .ok (.iconst 0, 1) := by decide +kernel
theorem dX0_extraAmong_1 : decode cX0_extraAmong 1 = .ok (.istore_n 3, 1) := by decide +kernel
theorem dX0_extraAmong_2 : decode cX0_extraAmong 2 = .ok (.iconst 0, 1) := by decide +kernel
theorem dX0_extraAmong_3 : decode cX0_extraAmong 3 = .ok (.istore 4, 2) := by decide +kernel
theorem dX0_extraAmong_5 : decode cX0_extraAmong 5 = .ok (.iload 4, 2) := by decide +kernel
theorem dX0_extraAmong_7 : decode cX0_extraAmong 7 = .ok (.aload_n 0, 1) := by decide +kernel
theorem dX0_extraAmong_8 : decode cX0_extraAmong 8 = .ok (.getfield 38, 3) := by decide +kernel
theorem dX0_extraAmong_11 : decode cX0_extraAmong 11 = .ok (.if_icmp .ge 46, 3) := by decide +kernel
theorem dX0_extraAmong_14 : decode cX0_extraAmong 14 = .ok (.iload_n 2, 1) := by decide +kernel
theorem dX0_extraAmong_15 : decode cX0_extraAmong 15 = .ok (.iload 4, 2) := by decide +kernel
theorem dX0_extraAmong_17 : decode cX0_extraAmong 17 = .ok (.ishr, 1) := by decide +kernel
theorem dX0_extraAmong_18 : decode cX0_extraAmong 18 = .ok (.iconst 1, 1) := by decide +kernel
theorem dX0_extraAmong_19 : decode cX0_extraAmong 19 = .ok (.iand, 1) := by decide +kernel
theorem dX0_extraAmong_20 : decode cX0_extraAmong 20 = .ok (.iconst 1, 1) := by decide +kernel
theorem dX0_extraAmong_21 : decode cX0_extraAmong 21 = .ok (.if_icmp .ne 30, 3) := by decide +kernel
theorem dX0_extraAmong_24 : decode cX0_extraAmong 24 = .ok (.iload_n 1, 1) := by decide +kernel
theorem dX0_extraAmong_25 : decode cX0_extraAmong 25 = .ok (.ifCond .lt 26, 3) := by decide +kernel
theorem dX0_extraAmong_28 : decode cX0_extraAmong 28 = .ok (.iload_n 1, 1) := by decide +kernel
theorem dX0_extraAmong_29 : decode cX0_extraAmong 29 = .ok (.aload_n 0, 1) := by decide +kernel
theorem dX0_extraAmong_30 : decode cX0_extraAmong 30 = .ok (.getfield 38, 3) := by decide +kernel
theorem dX0_extraAmong_33 : decode cX0_extraAmong 33 = .ok (.if_icmp .ge 18, 3) := by decide +kernel
theorem dX0_extraAmong_36 : decode cX0_extraAmong 36 = .ok (.iload_n 3, 1) := by decide +kernel
theorem dX0_extraAmong_37 : decode cX0_extraAmong 37 = .ok (.aload_n 0, 1) := by decide +kernel
theorem dX0_extraAmong_38 : decode cX0_extraAmong 38 = .ok (.getfield 21, 3) := by decide +kernel
theorem dX0_extraAmong_41 : decode cX0_extraAmong 41 = .ok (.iload_n 1, 1) := by decide +kernel
theorem dX0_extraAmong_42 : decode cX0_extraAmong 42 = .ok (.bipush 7, 2) := by decide +kernel
theorem dX0_extraAmong_44 : decode cX0_extraAmong 44 = .ok (.imul, 1) := by decide +kernel
theorem dX0_extraAmong_45 : decode cX0_extraAmong 45 = .ok (.iload 4, 2) := by decide +kernel
theorem dX0_extraAmong_47 : decode cX0_extraAmong 47 = .ok (.iadd, 1) := by decide +kernel
theorem dX0_extraAmong_48 : decode cX0_extraAmong 48 = .ok (.iaload, 1) := by decide +kernel
theorem dX0_extraAmong_49 : decode cX0_extraAmong 49 = .ok (.iadd, 1) := by decide +kernel
theorem dX0_extraAmong_50 : decode cX0_extraAmong 50 = .ok (.istore_n 3, 1) := by decide +kernel
theorem dX0_extraAmong_51 : decode cX0_extraAmong 51 = .ok (.iinc 4 1, 3) := by decide +kernel
theorem dX0_extraAmong_54 : decode cX0_extraAmong 54 = .ok (.goto (-49), 3) := by decide +kernel
theorem dX0_extraAmong_57 : decode cX0_extraAmong 57 = .ok (.iload_n 3, 1) := by decide +kernel
theorem dX0_extraAmong_58 : decode cX0_extraAmong 58 = .ok (.ireturn, 1) := by decide +kernel
theorem dX0_lightOf_0 : decode cX0_lightOf 0 = .ok (.iconst 0, 1) := by decide +kernel
theorem dX0_lightOf_1 : decode cX0_lightOf 1 = .ok (.istore_n 2, 1) := by decide +kernel
theorem dX0_lightOf_2 : decode cX0_lightOf 2 = .ok (.iconst 0, 1) := by decide +kernel
theorem dX0_lightOf_3 : decode cX0_lightOf 3 = .ok (.istore_n 3, 1) := by decide +kernel
theorem dX0_lightOf_4 : decode cX0_lightOf 4 = .ok (.iload_n 3, 1) := by decide +kernel
theorem dX0_lightOf_5 : decode cX0_lightOf 5 = .ok (.aload_n 0, 1) := by decide +kernel
theorem dX0_lightOf_6 : decode cX0_lightOf 6 = .ok (.getfield 38, 3) := by decide +kernel
theorem dX0_lightOf_9 : decode cX0_lightOf 9 = .ok (.if_icmp .ge 27, 3) := by decide +kernel
theorem dX0_lightOf_12 : decode cX0_lightOf 12 = .ok (.iload_n 1, 1) := by decide +kernel
theorem dX0_lightOf_13 : decode cX0_lightOf 13 = .ok (.iload_n 3, 1) := by decide +kernel
theorem dX0_lightOf_14 : decode cX0_lightOf 14 = .ok (.ishr, 1) := by decide +kernel
theorem dX0_lightOf_15 : decode cX0_lightOf 15 = .ok (.iconst 1, 1) := by decide +kernel
theorem dX0_lightOf_16 : decode cX0_lightOf 16 = .ok (.iand, 1) := by decide +kernel
theorem dX0_lightOf_17 : decode cX0_lightOf 17 = .ok (.iconst 1, 1) := by decide +kernel
theorem dX0_lightOf_18 : decode cX0_lightOf 18 = .ok (.if_icmp .ne 12, 3) := by decide +kernel
theorem dX0_lightOf_21 : decode cX0_lightOf 21 = .ok (.iload_n 2, 1) := by decide +kernel
theorem dX0_lightOf_22 : decode cX0_lightOf 22 = .ok (.aload_n 0, 1) := by decide +kernel
theorem dX0_lightOf_23 : decode cX0_lightOf 23 = .ok (.getfield 18, 3) := by decide +kernel
theorem dX0_lightOf_26 : decode cX0_lightOf 26 = .ok (.iload_n 3, 1) := by decide +kernel
theorem dX0_lightOf_27 : decode cX0_lightOf 27 = .ok (.iaload, 1) := by decide +kernel
theorem dX0_lightOf_28 : decode cX0_lightOf 28 = .ok (.iadd, 1) := by decide +kernel
theorem dX0_lightOf_29 : decode cX0_lightOf 29 = .ok (.istore_n 2, 1) := by decide +kernel
theorem dX0_lightOf_30 : decode cX0_lightOf 30 = .ok (.iinc 3 1, 3) := by decide +kernel
theorem dX0_lightOf_33 : decode cX0_lightOf 33 = .ok (.goto (-29), 3) := by decide +kernel
theorem dX0_lightOf_36 : decode cX0_lightOf 36 = .ok (.iload_n 2, 1) := by decide +kernel
theorem dX0_lightOf_37 : decode cX0_lightOf 37 = .ok (.ireturn, 1) := by decide +kernel
theorem dX0_isFog_0 : decode cX0_isFog 0 = .ok (.iload_n 1, 1) := by decide +kernel
theorem dX0_isFog_1 : decode cX0_isFog 1 = .ok (.ifCond .lt 26, 3) := by decide +kernel
theorem dX0_isFog_4 : decode cX0_isFog 4 = .ok (.iload_n 1, 1) := by decide +kernel
theorem dX0_isFog_5 : decode cX0_isFog 5 = .ok (.bipush 60, 2) := by decide +kernel
theorem dX0_isFog_7 : decode cX0_isFog 7 = .ok (.if_icmp .gt 20, 3) := by decide +kernel
theorem dX0_isFog_10 : decode cX0_isFog 10 = .ok (.aload_n 0, 1) := by decide +kernel
theorem dX0_isFog_11 : decode cX0_isFog 11 = .ok (.getfield 41, 3) := by decide +kernel
theorem dX0_isFog_14 : decode cX0_isFog 14 = .ok (.iload_n 1, 1) := by decide +kernel
theorem dX0_isFog_15 : decode cX0_isFog 15 = .ok (.lshr, 1) := by decide +kernel
theorem dX0_isFog_16 : decode cX0_isFog 16 = .ok (.lconst 1, 1) := by decide +kernel
theorem dX0_isFog_17 : decode cX0_isFog 17 = .ok (.land, 1) := by decide +kernel
theorem dX0_isFog_18 : decode cX0_isFog 18 = .ok (.lconst 1, 1) := by decide +kernel
theorem dX0_isFog_19 : decode cX0_isFog 19 = .ok (.lcmp, 1) := by decide +kernel
theorem dX0_isFog_20 : decode cX0_isFog 20 = .ok (.ifCond .ne 7, 3) := by decide +kernel
theorem dX0_isFog_23 : decode cX0_isFog 23 = .ok (.iconst 1, 1) := by decide +kernel
theorem dX0_isFog_24 : decode cX0_isFog 24 = .ok (.goto 4, 3) := by decide +kernel
theorem dX0_isFog_27 : decode cX0_isFog 27 = .ok (.iconst 0, 1) := by decide +kernel
theorem dX0_isFog_28 : decode cX0_isFog 28 = .ok (.ireturn, 1) := by decide +kernel
theorem dX0_burden_0 : decode cX0_burden 0 = .ok (.iload_n 3, 1) := by decide +kernel
theorem dX0_burden_1 : decode cX0_burden 1 = .ok (.iconst 1, 1) := by decide +kernel
theorem dX0_burden_2 : decode cX0_burden 2 = .ok (.if_icmp .ne 9, 3) := by decide +kernel
theorem dX0_burden_5 : decode cX0_burden 5 = .ok (.iload_n 1, 1) := by decide +kernel
theorem dX0_burden_6 : decode cX0_burden 6 = .ok (.iconst 2, 1) := by decide +kernel
theorem dX0_burden_7 : decode cX0_burden 7 = .ok (.idiv, 1) := by decide +kernel
theorem dX0_burden_8 : decode cX0_burden 8 = .ok (.goto 4, 3) := by decide +kernel
theorem dX0_burden_11 : decode cX0_burden 11 = .ok (.iload_n 1, 1) := by decide +kernel
theorem dX0_burden_12 : decode cX0_burden 12 = .ok (.istore 5, 2) := by decide +kernel
theorem dX0_burden_14 : decode cX0_burden 14 = .ok (.iload 4, 2) := by decide +kernel
theorem dX0_burden_16 : decode cX0_burden 16 = .ok (.ifCond .eq 12, 3) := by decide +kernel
theorem dX0_burden_19 : decode cX0_burden 19 = .ok (.iload 5, 2) := by decide +kernel
theorem dX0_burden_21 : decode cX0_burden 21 = .ok (.aload_n 0, 1) := by decide +kernel
theorem dX0_burden_22 : decode cX0_burden 22 = .ok (.getfield 35, 3) := by decide +kernel
theorem dX0_burden_25 : decode cX0_burden 25 = .ok (.iadd, 1) := by decide +kernel
theorem dX0_burden_26 : decode cX0_burden 26 = .ok (.istore 5, 2) := by decide +kernel
theorem dX0_burden_28 : decode cX0_burden 28 = .ok (.iconst 0, 1) := by decide +kernel
theorem dX0_burden_29 : decode cX0_burden 29 = .ok (.iload 5, 2) := by decide +kernel
theorem dX0_burden_31 : decode cX0_burden 31 = .ok (.iload_n 2, 1) := by decide +kernel
theorem dX0_burden_32 : decode cX0_burden 32 = .ok (.isub, 1) := by decide +kernel
theorem dX0_burden_33 : decode cX0_burden 33 = .ok (.invokestatic 59, 3) := by decide +kernel
theorem dX0_burden_36 : decode cX0_burden 36 = .ok (.ireturn, 1) := by decide +kernel
theorem dX1_init_0 : decode cX1_init 0 = .ok (.aload_n 0, 1) := by decide +kernel
theorem dX1_init_1 : decode cX1_init 1 = .ok (.aload_n 1, 1) := by decide +kernel
theorem dX1_init_2 : decode cX1_init 2 = .ok (.invokespecial 3, 3) := by decide +kernel
theorem dX1_init_5 : decode cX1_init 5 = .ok (.return_, 1) := by decide +kernel
theorem dX1_read_0 : decode cX1_read 0 = .ok (.aload_n 0, 1) := by decide +kernel
theorem dX1_read_1 : decode cX1_read 1 = .ok (.aload_n 1, 1) := by decide +kernel
theorem dX1_read_2 : decode cX1_read 2 = .ok (.putfield 9, 3) := by decide +kernel
theorem dX1_read_5 : decode cX1_read 5 = .ok (.aload_n 0, 1) := by decide +kernel
theorem dX1_read_6 : decode cX1_read 6 = .ok (.getfield 9, 3) := by decide +kernel
theorem dX1_read_9 : decode cX1_read 9 = .ok (.invokevirtual 15, 3) := by decide +kernel
theorem dX1_read_12 : decode cX1_read 12 = .ok (.aload_n 0, 1) := by decide +kernel
theorem dX1_read_13 : decode cX1_read 13 = .ok (.iconst 0, 1) := by decide +kernel
theorem dX1_read_14 : decode cX1_read 14 = .ok (.putfield 21, 3) := by decide +kernel
theorem dX1_read_17 : decode cX1_read 17 = .ok (.aload_n 0, 1) := by decide +kernel
theorem dX1_read_18 : decode cX1_read 18 = .ok (.iconst 0, 1) := by decide +kernel
theorem dX1_read_19 : decode cX1_read 19 = .ok (.putfield 25, 3) := by decide +kernel
theorem dX1_read_22 : decode cX1_read 22 = .ok (.iconst 1, 1) := by decide +kernel
theorem dX1_read_23 : decode cX1_read 23 = .ok (.istore_n 2, 1) := by decide +kernel
theorem dX1_read_24 : decode cX1_read 24 = .ok (.iconst 0, 1) := by decide +kernel
theorem dX1_read_25 : decode cX1_read 25 = .ok (.istore_n 3, 1) := by decide +kernel
theorem dX1_read_26 : decode cX1_read 26 = .ok (.iload_n 2, 1) := by decide +kernel
theorem dX1_read_27 : decode cX1_read 27 = .ok (.ifCond .eq 25, 3) := by decide +kernel
theorem dX1_read_30 : decode cX1_read 30 = .ok (.iload_n 3, 1) := by decide +kernel
theorem dX1_read_31 : decode cX1_read 31 = .ok (.bipush 40, 2) := by decide +kernel
theorem dX1_read_33 : decode cX1_read 33 = .ok (.if_icmp .gt 19, 3) := by decide +kernel
theorem dX1_read_36 : decode cX1_read 36 = .ok (.aload_n 0, 1) := by decide +kernel
theorem dX1_read_37 : decode cX1_read 37 = .ok (.iload_n 3, 1) := by decide +kernel
theorem dX1_read_38 : decode cX1_read 38 = .ok (.invokevirtual 28, 3) := by decide +kernel
theorem dX1_read_41 : decode cX1_read 41 = .ok (.aload_n 0, 1) := by decide +kernel
theorem dX1_read_42 : decode cX1_read 42 = .ok (.invokevirtual 32, 3) := by decide +kernel
theorem dX1_read_45 : decode cX1_read 45 = .ok (.istore_n 2, 1) := by decide +kernel
theorem dX1_read_46 : decode cX1_read 46 = .ok (.iinc 3 1, 3) := by decide +kernel
theorem dX1_read_49 : decode cX1_read 49 = .ok (.goto (-23), 3) := by decide +kernel
theorem dX1_read_52 : decode cX1_read 52 = .ok (.aload_n 0, 1) := by decide +kernel
theorem dX1_read_53 : decode cX1_read 53 = .ok (.getfield 25, 3) := by decide +kernel
theorem dX1_read_56 : decode cX1_read 56 = .ok (.ireturn, 1) := by decide +kernel
theorem dX1_readClause_0 : decode cX1_readClause 0 = .ok (.aload_n 0, 1) := by decide +kernel
theorem dX1_readClause_1 : decode cX1_readClause 1 = .ok (.invokevirtual 36, 3) := by decide +kernel
theorem dX1_readClause_4 : decode cX1_readClause 4 = .ok (.istore_n 2, 1) := by decide +kernel
theorem dX1_readClause_5 : decode cX1_readClause 5 = .ok (.iload_n 1, 1) := by decide +kernel
theorem dX1_readClause_6 : decode cX1_readClause 6 = .ok (.ifCond .le 13, 3) := by decide +kernel
theorem dX1_readClause_9 : decode cX1_readClause 9 = .ok (.iload_n 1, 1) := by decide +kernel
theorem dX1_readClause_10 : decode cX1_readClause 10 = .ok (.bipush 40, 2) := by decide +kernel
theorem dX1_readClause_12 : decode cX1_readClause 12 = .ok (.if_icmp .ge 7, 3) := by decide +kernel
theorem dX1_readClause_15 : decode cX1_readClause 15 = .ok (.iconst 1, 1) := by decide +kernel
theorem dX1_readClause_16 : decode cX1_readClause 16 = .ok (.goto 4, 3) := by decide +kernel
theorem dX1_readClause_19 : decode cX1_readClause 19 = .ok (.iconst 0, 1) := by decide +kernel
theorem dX1_readClause_20 : decode cX1_readClause 20 = .ok (.istore_n 3, 1) := by decide +kernel
theorem dX1_readClause_21 : decode cX1_readClause 21 = .ok (.iload_n 3, 1) := by decide +kernel
theorem dX1_readClause_22 : decode cX1_readClause 22 = .ok (.ifCond .eq 19, 3) := by decide +kernel
theorem dX1_readClause_25 : decode cX1_readClause 25 = .ok (.aload_n 0, 1) := by decide +kernel
theorem dX1_readClause_26 : decode cX1_readClause 26 = .ok (.getfield 9, 3) := by decide +kernel
theorem dX1_readClause_29 : decode cX1_readClause 29 = .ok (.getfield 40, 3) := by decide +kernel
theorem dX1_readClause_32 : decode cX1_readClause 32 = .ok (.bipush 7, 2) := by decide +kernel
theorem dX1_readClause_34 : decode cX1_readClause 34 = .ok (.if_icmp .ge 7, 3) := by decide +kernel
theorem dX1_readClause_37 : decode cX1_readClause 37 = .ok (.iconst 1, 1) := by decide +kernel
theorem dX1_readClause_38 : decode cX1_readClause 38 = .ok (.goto 4, 3) := by decide +kernel
theorem dX1_readClause_41 : decode cX1_readClause 41 = .ok (.iconst 0, 1) := by decide +kernel
theorem dX1_readClause_42 : decode cX1_readClause 42 = .ok (.istore 4, 2) := by decide +kernel
theorem dX1_readClause_44 : decode cX1_readClause 44 = .ok (.aload_n 0, 1) := by decide +kernel
theorem dX1_readClause_45 : decode cX1_readClause 45 = .ok (.ldc 43, 2) := by decide +kernel
theorem dX1_readClause_47 : decode cX1_readClause 47 = .ok (.invokevirtual 45, 3) := by decide +kernel
theorem dX1_readClause_50 : decode cX1_readClause 50 = .ok (.ifCond .eq 20, 3) := by decide +kernel
theorem dX1_readClause_53 : decode cX1_readClause 53 = .ok (.aload_n 0, 1) := by decide +kernel
theorem dX1_readClause_54 : decode cX1_readClause 54 = .ok (.iload_n 1, 1) := by decide +kernel
theorem dX1_readClause_55 : decode cX1_readClause 55 = .ok (.ifCond .ne 7, 3) := by decide +kernel
theorem dX1_readClause_58 : decode cX1_readClause 58 = .ok (.iconst 1, 1) := by decide +kernel
theorem dX1_readClause_59 : decode cX1_readClause 59 = .ok (.goto 4, 3) := by decide +kernel
theorem dX1_readClause_62 : decode cX1_readClause 62 = .ok (.iconst 0, 1) := by decide +kernel
theorem dX1_readClause_63 : decode cX1_readClause 63 = .ok (.iload_n 2, 1) := by decide +kernel
theorem dX1_readClause_64 : decode cX1_readClause 64 = .ok (.invokevirtual 49, 3) := by decide +kernel
theorem dX1_readClause_67 : decode cX1_readClause 67 = .ok (.goto 85, 3) := by decide +kernel
theorem dX1_readClause_70 : decode cX1_readClause 70 = .ok (.aload_n 0, 1) := by decide +kernel
theorem dX1_readClause_71 : decode cX1_readClause 71 = .ok (.ldc 53, 2) := by decide +kernel
theorem dX1_readClause_73 : decode cX1_readClause 73 = .ok (.invokevirtual 45, 3) := by decide +kernel
theorem dX1_readClause_76 : decode cX1_readClause 76 = .ok (.ifCond .eq 13, 3) := by decide +kernel
theorem dX1_readClause_79 : decode cX1_readClause 79 = .ok (.aload_n 0, 1) := by decide +kernel
theorem dX1_readClause_80 : decode cX1_readClause 80 = .ok (.iload 4, 2) := by decide +kernel
theorem dX1_readClause_82 : decode cX1_readClause 82 = .ok (.iload_n 2, 1) := by decide +kernel
theorem dX1_readClause_83 : decode cX1_readClause 83 = .ok (.invokevirtual 55, 3) := by decide +kernel
theorem dX1_readClause_86 : decode cX1_readClause 86 = .ok (.goto 66, 3) := by decide +kernel
theorem dX1_readClause_89 : decode cX1_readClause 89 = .ok (.aload_n 0, 1) := by decide +kernel
theorem dX1_readClause_90 : decode cX1_readClause 90 = .ok (.ldc 58, 2) := by decide +kernel
theorem dX1_readClause_92 : decode cX1_readClause 92 = .ok (.invokevirtual 45, 3) := by decide +kernel
theorem dX1_readClause_95 : decode cX1_readClause 95 = .ok (.ifCond .eq 13, 3) := by decide +kernel
theorem dX1_readClause_98 : decode cX1_readClause 98 = .ok (.aload_n 0, 1) := by decide +kernel
theorem dX1_readClause_99 : decode cX1_readClause 99 = .ok (.iload 4, 2) := by decide +kernel
theorem dX1_readClause_101 : decode cX1_readClause 101 = .ok (.iload_n 2, 1) := by decide +kernel
theorem dX1_readClause_102 : decode cX1_readClause 102 = .ok (.invokevirtual 60, 3) := by decide +kernel
theorem dX1_readClause_105 : decode cX1_readClause 105 = .ok (.goto 47, 3) := by decide +kernel
theorem dX1_readClause_108 : decode cX1_readClause 108 = .ok (.aload_n 0, 1) := by decide +kernel
theorem dX1_readClause_109 : decode cX1_readClause 109 = .ok (.ldc 63, 2) := by decide +kernel
theorem dX1_readClause_111 : decode cX1_readClause 111 = .ok (.invokevirtual 45, 3) := by decide +kernel
theorem dX1_readClause_114 : decode cX1_readClause 114 = .ok (.ifCond .eq 12, 3) := by decide +kernel
theorem dX1_readClause_117 : decode cX1_readClause 117 = .ok (.aload_n 0, 1) := by decide +kernel
theorem dX1_readClause_118 : decode cX1_readClause 118 = .ok (.iload_n 3, 1) := by decide +kernel
theorem dX1_readClause_119 : decode cX1_readClause 119 = .ok (.iload_n 2, 1) := by decide +kernel
theorem dX1_readClause_120 : decode cX1_readClause 120 = .ok (.invokevirtual 65, 3) := by decide +kernel
theorem dX1_readClause_123 : decode cX1_readClause 123 = .ok (.goto 29, 3) := by decide +kernel
theorem dX1_readClause_126 : decode cX1_readClause 126 = .ok (.aload_n 0, 1) := by decide +kernel
theorem dX1_readClause_127 : decode cX1_readClause 127 = .ok (.ldc 68, 2) := by decide +kernel
theorem dX1_readClause_129 : decode cX1_readClause 129 = .ok (.invokevirtual 45, 3) := by decide +kernel
theorem dX1_readClause_132 : decode cX1_readClause 132 = .ok (.ifCond .eq 12, 3) := by decide +kernel
theorem dX1_readClause_135 : decode cX1_readClause 135 = .ok (.aload_n 0, 1) := by decide +kernel
theorem dX1_readClause_136 : decode cX1_readClause 136 = .ok (.iload_n 3, 1) := by decide +kernel
theorem dX1_readClause_137 : decode cX1_readClause 137 = .ok (.iload_n 2, 1) := by decide +kernel
theorem dX1_readClause_138 : decode cX1_readClause 138 = .ok (.invokevirtual 70, 3) := by decide +kernel
theorem dX1_readClause_141 : decode cX1_readClause 141 = .ok (.goto 11, 3) := by decide +kernel
theorem dX1_readClause_144 : decode cX1_readClause 144 = .ok (.aload_n 0, 1) := by decide +kernel
theorem dX1_readClause_145 : decode cX1_readClause 145 = .ok (.iconst 0, 1) := by decide +kernel
theorem dX1_readClause_146 : decode cX1_readClause 146 = .ok (.iload_n 2, 1) := by decide +kernel
theorem dX1_readClause_147 : decode cX1_readClause 147 = .ok (.iconst 0, 1) := by decide +kernel
theorem dX1_readClause_148 : decode cX1_readClause 148 = .ok (.invokevirtual 73, 3) := by decide +kernel
theorem dX1_readClause_151 : decode cX1_readClause 151 = .ok (.pop, 1) := by decide +kernel
theorem dX1_readClause_152 : decode cX1_readClause 152 = .ok (.return_, 1) := by decide +kernel
theorem dX1_readBoat_0 : decode cX1_readBoat 0 = .ok (.aload_n 0, 1) := by decide +kernel
theorem dX1_readBoat_1 : decode cX1_readBoat 1 = .ok (.iload_n 1, 1) := by decide +kernel
theorem dX1_readBoat_2 : decode cX1_readBoat 2 = .ok (.iload_n 2, 1) := by decide +kernel
theorem dX1_readBoat_3 : decode cX1_readBoat 3 = .ok (.iconst 4, 1) := by decide +kernel
theorem dX1_readBoat_4 : decode cX1_readBoat 4 = .ok (.invokevirtual 73, 3) := by decide +kernel
theorem dX1_readBoat_7 : decode cX1_readBoat 7 = .ok (.ifCond .eq 53, 3) := by decide +kernel
theorem dX1_readBoat_10 : decode cX1_readBoat 10 = .ok (.aload_n 0, 1) := by decide +kernel
theorem dX1_readBoat_11 : decode cX1_readBoat 11 = .ok (.getfield 9, 3) := by decide +kernel
theorem dX1_readBoat_14 : decode cX1_readBoat 14 = .ok (.iconst 1, 1) := by decide +kernel
theorem dX1_readBoat_15 : decode cX1_readBoat 15 = .ok (.putfield 77, 3) := by decide +kernel
theorem dX1_readBoat_18 : decode cX1_readBoat 18 = .ok (.aload_n 0, 1) := by decide +kernel
theorem dX1_readBoat_19 : decode cX1_readBoat 19 = .ok (.getfield 9, 3) := by decide +kernel
theorem dX1_readBoat_22 : decode cX1_readBoat 22 = .ok (.aload_n 0, 1) := by decide +kernel
theorem dX1_readBoat_23 : decode cX1_readBoat 23 = .ok (.iconst 0, 1) := by decide +kernel
theorem dX1_readBoat_24 : decode cX1_readBoat 24 = .ok (.bipush 99, 2) := by decide +kernel
theorem dX1_readBoat_26 : decode cX1_readBoat 26 = .ok (.invokevirtual 81, 3) := by decide +kernel
theorem dX1_readBoat_29 : decode cX1_readBoat 29 = .ok (.putfield 85, 3) := by decide +kernel
theorem dX1_readBoat_32 : decode cX1_readBoat 32 = .ok (.aload_n 0, 1) := by decide +kernel
theorem dX1_readBoat_33 : decode cX1_readBoat 33 = .ok (.getfield 9, 3) := by decide +kernel
theorem dX1_readBoat_36 : decode cX1_readBoat 36 = .ok (.aload_n 0, 1) := by decide +kernel
theorem dX1_readBoat_37 : decode cX1_readBoat 37 = .ok (.iconst 1, 1) := by decide +kernel
theorem dX1_readBoat_38 : decode cX1_readBoat 38 = .ok (.bipush 7, 2) := by decide +kernel
theorem dX1_readBoat_40 : decode cX1_readBoat 40 = .ok (.invokevirtual 81, 3) := by decide +kernel
theorem dX1_readBoat_43 : decode cX1_readBoat 43 = .ok (.putfield 88, 3) := by decide +kernel
theorem dX1_readBoat_46 : decode cX1_readBoat 46 = .ok (.aload_n 0, 1) := by decide +kernel
theorem dX1_readBoat_47 : decode cX1_readBoat 47 = .ok (.getfield 9, 3) := by decide +kernel
theorem dX1_readBoat_50 : decode cX1_readBoat 50 = .ok (.aload_n 0, 1) := by decide +kernel
theorem dX1_readBoat_51 : decode cX1_readBoat 51 = .ok (.iconst 0, 1) := by decide +kernel
theorem dX1_readBoat_52 : decode cX1_readBoat 52 = .ok (.bipush 20, 2) := by decide +kernel
theorem dX1_readBoat_54 : decode cX1_readBoat 54 = .ok (.invokevirtual 81, 3) := by decide +kernel
theorem dX1_readBoat_57 : decode cX1_readBoat 57 = .ok (.putfield 91, 3) := by decide +kernel
theorem dX1_readBoat_60 : decode cX1_readBoat 60 = .ok (.return_, 1) := by decide +kernel
theorem dX1_readPerson_0 : decode cX1_readPerson 0 = .ok (.aload_n 0, 1) := by decide +kernel
theorem dX1_readPerson_1 : decode cX1_readPerson 1 = .ok (.iload_n 1, 1) := by decide +kernel
theorem dX1_readPerson_2 : decode cX1_readPerson 2 = .ok (.iload_n 2, 1) := by decide +kernel
theorem dX1_readPerson_3 : decode cX1_readPerson 3 = .ok (.iconst 4, 1) := by decide +kernel
theorem dX1_readPerson_4 : decode cX1_readPerson 4 = .ok (.invokevirtual 73, 3) := by decide +kernel
theorem dX1_readPerson_7 : decode cX1_readPerson 7 = .ok (.ifCond .eq 31, 3) := by decide +kernel
theorem dX1_readPerson_10 : decode cX1_readPerson 10 = .ok (.aload_n 0, 1) := by decide +kernel
theorem dX1_readPerson_11 : decode cX1_readPerson 11 = .ok (.iconst 0, 1) := by decide +kernel
theorem dX1_readPerson_12 : decode cX1_readPerson 12 = .ok (.bipush 40, 2) := by decide +kernel
theorem dX1_readPerson_14 : decode cX1_readPerson 14 = .ok (.invokevirtual 81, 3) := by decide +kernel
theorem dX1_readPerson_17 : decode cX1_readPerson 17 = .ok (.istore_n 3, 1) := by decide +kernel
theorem dX1_readPerson_18 : decode cX1_readPerson 18 = .ok (.aload_n 0, 1) := by decide +kernel
theorem dX1_readPerson_19 : decode cX1_readPerson 19 = .ok (.iconst 0, 1) := by decide +kernel
theorem dX1_readPerson_20 : decode cX1_readPerson 20 = .ok (.bipush 9, 2) := by decide +kernel
theorem dX1_readPerson_22 : decode cX1_readPerson 22 = .ok (.invokevirtual 81, 3) := by decide +kernel
theorem dX1_readPerson_25 : decode cX1_readPerson 25 = .ok (.istore 4, 2) := by decide +kernel
theorem dX1_readPerson_27 : decode cX1_readPerson 27 = .ok (.aload_n 0, 1) := by decide +kernel
theorem dX1_readPerson_28 : decode cX1_readPerson 28 = .ok (.getfield 9, 3) := by decide +kernel
theorem dX1_readPerson_31 : decode cX1_readPerson 31 = .ok (.iload_n 3, 1) := by decide +kernel
theorem dX1_readPerson_32 : decode cX1_readPerson 32 = .ok (.iload 4, 2) := by decide +kernel
theorem dX1_readPerson_34 : decode cX1_readPerson 34 = .ok (.iconst 0, 1) := by decide +kernel
theorem dX1_readPerson_35 : decode cX1_readPerson 35 = .ok (.invokevirtual 93, 3) := by decide +kernel
theorem dX1_readPerson_38 : decode cX1_readPerson 38 = .ok (.return_, 1) := by decide +kernel
theorem dX1_readCork_0 : decode cX1_readCork 0 = .ok (.aload_n 0, 1) := by decide +kernel
theorem dX1_readCork_1 : decode cX1_readCork 1 = .ok (.iload_n 1, 1) := by decide +kernel
theorem dX1_readCork_2 : decode cX1_readCork 2 = .ok (.iload_n 2, 1) := by decide +kernel
theorem dX1_readCork_3 : decode cX1_readCork 3 = .ok (.iconst 4, 1) := by decide +kernel
theorem dX1_readCork_4 : decode cX1_readCork 4 = .ok (.invokevirtual 73, 3) := by decide +kernel
theorem dX1_readCork_7 : decode cX1_readCork 7 = .ok (.ifCond .eq 19, 3) := by decide +kernel
theorem dX1_readCork_10 : decode cX1_readCork 10 = .ok (.aload_n 0, 1) := by decide +kernel
theorem dX1_readCork_11 : decode cX1_readCork 11 = .ok (.getfield 9, 3) := by decide +kernel
theorem dX1_readCork_14 : decode cX1_readCork 14 = .ok (.iconst 0, 1) := by decide +kernel
theorem dX1_readCork_15 : decode cX1_readCork 15 = .ok (.iconst 0, 1) := by decide +kernel
theorem dX1_readCork_16 : decode cX1_readCork 16 = .ok (.aload_n 0, 1) := by decide +kernel
theorem dX1_readCork_17 : decode cX1_readCork 17 = .ok (.iconst 1, 1) := by decide +kernel
theorem dX1_readCork_18 : decode cX1_readCork 18 = .ok (.bipush 20, 2) := by decide +kernel
theorem dX1_readCork_20 : decode cX1_readCork 20 = .ok (.invokevirtual 81, 3) := by decide +kernel
theorem dX1_readCork_23 : decode cX1_readCork 23 = .ok (.invokevirtual 93, 3) := by decide +kernel
theorem dX1_readCork_26 : decode cX1_readCork 26 = .ok (.return_, 1) := by decide +kernel
theorem dX1_readBeside_0 : decode cX1_readBeside 0 = .ok (.aload_n 0, 1) := by decide +kernel
theorem dX1_readBeside_1 : decode cX1_readBeside 1 = .ok (.iload_n 1, 1) := by decide +kernel
theorem dX1_readBeside_2 : decode cX1_readBeside 2 = .ok (.iload_n 2, 1) := by decide +kernel
theorem dX1_readBeside_3 : decode cX1_readBeside 3 = .ok (.iconst 4, 1) := by decide +kernel
theorem dX1_readBeside_4 : decode cX1_readBeside 4 = .ok (.invokevirtual 73, 3) := by decide +kernel
theorem dX1_readBeside_7 : decode cX1_readBeside 7 = .ok (.ifCond .eq 87, 3) := by decide +kernel
theorem dX1_readBeside_10 : decode cX1_readBeside 10 = .ok (.aload_n 0, 1) := by decide +kernel
theorem dX1_readBeside_11 : decode cX1_readBeside 11 = .ok (.iconst 0, 1) := by decide +kernel
theorem dX1_readBeside_12 : decode cX1_readBeside 12 = .ok (.aload_n 0, 1) := by decide +kernel
theorem dX1_readBeside_13 : decode cX1_readBeside 13 = .ok (.getfield 9, 3) := by decide +kernel
theorem dX1_readBeside_16 : decode cX1_readBeside 16 = .ok (.getfield 40, 3) := by decide +kernel
theorem dX1_readBeside_19 : decode cX1_readBeside 19 = .ok (.iconst 1, 1) := by decide +kernel
theorem dX1_readBeside_20 : decode cX1_readBeside 20 = .ok (.isub, 1) := by decide +kernel
theorem dX1_readBeside_21 : decode cX1_readBeside 21 = .ok (.invokevirtual 81, 3) := by decide +kernel
theorem dX1_readBeside_24 : decode cX1_readBeside 24 = .ok (.istore_n 3, 1) := by decide +kernel
theorem dX1_readBeside_25 : decode cX1_readBeside 25 = .ok (.aload_n 0, 1) := by decide +kernel
theorem dX1_readBeside_26 : decode cX1_readBeside 26 = .ok (.invokevirtual 36, 3) := by decide +kernel
theorem dX1_readBeside_29 : decode cX1_readBeside 29 = .ok (.istore 4, 2) := by decide +kernel
theorem dX1_readBeside_31 : decode cX1_readBeside 31 = .ok (.aload_n 0, 1) := by decide +kernel
theorem dX1_readBeside_32 : decode cX1_readBeside 32 = .ok (.iconst 0, 1) := by decide +kernel
theorem dX1_readBeside_33 : decode cX1_readBeside 33 = .ok (.aload_n 0, 1) := by decide +kernel
theorem dX1_readBeside_34 : decode cX1_readBeside 34 = .ok (.getfield 9, 3) := by decide +kernel
theorem dX1_readBeside_37 : decode cX1_readBeside 37 = .ok (.getfield 40, 3) := by decide +kernel
theorem dX1_readBeside_40 : decode cX1_readBeside 40 = .ok (.iconst 1, 1) := by decide +kernel
theorem dX1_readBeside_41 : decode cX1_readBeside 41 = .ok (.isub, 1) := by decide +kernel
theorem dX1_readBeside_42 : decode cX1_readBeside 42 = .ok (.invokevirtual 81, 3) := by decide +kernel
theorem dX1_readBeside_45 : decode cX1_readBeside 45 = .ok (.istore 5, 2) := by decide +kernel
theorem dX1_readBeside_47 : decode cX1_readBeside 47 = .ok (.aload_n 0, 1) := by decide +kernel
theorem dX1_readBeside_48 : decode cX1_readBeside 48 = .ok (.iload 5, 2) := by decide +kernel
theorem dX1_readBeside_50 : decode cX1_readBeside 50 = .ok (.iload_n 3, 1) := by decide +kernel
theorem dX1_readBeside_51 : decode cX1_readBeside 51 = .ok (.if_icmp .eq 7, 3) := by decide +kernel
theorem dX1_readBeside_54 : decode cX1_readBeside 54 = .ok (.iconst 1, 1) := by decide +kernel
theorem dX1_readBeside_55 : decode cX1_readBeside 55 = .ok (.goto 4, 3) := by decide +kernel
theorem dX1_readBeside_58 : decode cX1_readBeside 58 = .ok (.iconst 0, 1) := by decide +kernel
theorem dX1_readBeside_59 : decode cX1_readBeside 59 = .ok (.iload 4, 2) := by decide +kernel
theorem dX1_readBeside_61 : decode cX1_readBeside 61 = .ok (.iconst 1, 1) := by decide +kernel
theorem dX1_readBeside_62 : decode cX1_readBeside 62 = .ok (.invokevirtual 73, 3) := by decide +kernel
theorem dX1_readBeside_65 : decode cX1_readBeside 65 = .ok (.pop, 1) := by decide +kernel
theorem dX1_readBeside_66 : decode cX1_readBeside 66 = .ok (.aload_n 0, 1) := by decide +kernel
theorem dX1_readBeside_67 : decode cX1_readBeside 67 = .ok (.iconst 0, 1) := by decide +kernel
theorem dX1_readBeside_68 : decode cX1_readBeside 68 = .ok (.bipush 9, 2) := by decide +kernel
theorem dX1_readBeside_70 : decode cX1_readBeside 70 = .ok (.invokevirtual 81, 3) := by decide +kernel
theorem dX1_readBeside_73 : decode cX1_readBeside 73 = .ok (.istore 6, 2) := by decide +kernel
theorem dX1_readBeside_75 : decode cX1_readBeside 75 = .ok (.aload_n 0, 1) := by decide +kernel
theorem dX1_readBeside_76 : decode cX1_readBeside 76 = .ok (.getfield 25, 3) := by decide +kernel
theorem dX1_readBeside_79 : decode cX1_readBeside 79 = .ok (.ifCond .ne 15, 3) := by decide +kernel
theorem dX1_readBeside_82 : decode cX1_readBeside 82 = .ok (.aload_n 0, 1) := by decide +kernel
theorem dX1_readBeside_83 : decode cX1_readBeside 83 = .ok (.getfield 9, 3) := by decide +kernel
theorem dX1_readBeside_86 : decode cX1_readBeside 86 = .ok (.iload_n 3, 1) := by decide +kernel
theorem dX1_readBeside_87 : decode cX1_readBeside 87 = .ok (.iload 5, 2) := by decide +kernel
theorem dX1_readBeside_89 : decode cX1_readBeside 89 = .ok (.iload 6, 2) := by decide +kernel
theorem dX1_readBeside_91 : decode cX1_readBeside 91 = .ok (.invokevirtual 97, 3) := by decide +kernel
theorem dX1_readBeside_94 : decode cX1_readBeside 94 = .ok (.return_, 1) := by decide +kernel
theorem dX1_readFog_0 : decode cX1_readFog 0 = .ok (.aload_n 0, 1) := by decide +kernel
theorem dX1_readFog_1 : decode cX1_readFog 1 = .ok (.iload_n 1, 1) := by decide +kernel
theorem dX1_readFog_2 : decode cX1_readFog 2 = .ok (.iload_n 2, 1) := by decide +kernel
theorem dX1_readFog_3 : decode cX1_readFog 3 = .ok (.iconst 4, 1) := by decide +kernel
theorem dX1_readFog_4 : decode cX1_readFog 4 = .ok (.invokevirtual 73, 3) := by decide +kernel
theorem dX1_readFog_7 : decode cX1_readFog 7 = .ok (.ifCond .eq 33, 3) := by decide +kernel
theorem dX1_readFog_10 : decode cX1_readFog 10 = .ok (.aload_n 0, 1) := by decide +kernel
theorem dX1_readFog_11 : decode cX1_readFog 11 = .ok (.iconst 0, 1) := by decide +kernel
theorem dX1_readFog_12 : decode cX1_readFog 12 = .ok (.bipush 60, 2) := by decide +kernel
theorem dX1_readFog_14 : decode cX1_readFog 14 = .ok (.invokevirtual 81, 3) := by decide +kernel
theorem dX1_readFog_17 : decode cX1_readFog 17 = .ok (.istore_n 3, 1) := by decide +kernel
theorem dX1_readFog_18 : decode cX1_readFog 18 = .ok (.aload_n 0, 1) := by decide +kernel
theorem dX1_readFog_19 : decode cX1_readFog 19 = .ok (.getfield 25, 3) := by decide +kernel
theorem dX1_readFog_22 : decode cX1_readFog 22 = .ok (.ifCond .ne 18, 3) := by decide +kernel
theorem dX1_readFog_25 : decode cX1_readFog 25 = .ok (.aload_n 0, 1) := by decide +kernel
theorem dX1_readFog_26 : decode cX1_readFog 26 = .ok (.getfield 9, 3) := by decide +kernel
theorem dX1_readFog_29 : decode cX1_readFog 29 = .ok (.dup, 1) := by decide +kernel
theorem dX1_readFog_30 : decode cX1_readFog 30 = .ok (.getfield 100, 3) := by decide +kernel
theorem dX1_readFog_33 : decode cX1_readFog 33 = .ok (.lconst 1, 1) := by decide +kernel
theorem dX1_readFog_34 : decode cX1_readFog 34 = .ok (.iload_n 3, 1) := by decide +kernel
theorem dX1_readFog_35 : decode cX1_readFog 35 = .ok (.lshl, 1) := by decide +kernel
theorem dX1_readFog_36 : decode cX1_readFog 36 = .ok (.lor, 1) := by decide +kernel
theorem dX1_readFog_37 : decode cX1_readFog 37 = .ok (.putfield 100, 3) := by decide +kernel
theorem dX1_readFog_40 : decode cX1_readFog 40 = .ok (.return_, 1) := by decide +kernel
theorem dX2_init_0 : decode cX2_init 0 = .ok (.aload_n 0, 1) := by decide +kernel
theorem dX2_init_1 : decode cX2_init 1 = .ok (.invokespecial 3, 3) := by decide +kernel
theorem dX2_init_4 : decode cX2_init 4 = .ok (.aload_n 0, 1) := by decide +kernel
theorem dX2_init_5 : decode cX2_init 5 = .ok (.new 9, 3) := by decide +kernel
theorem dX2_init_8 : decode cX2_init 8 = .ok (.dup, 1) := by decide +kernel
theorem dX2_init_9 : decode cX2_init 9 = .ok (.invokespecial 11, 3) := by decide +kernel
theorem dX2_init_12 : decode cX2_init 12 = .ok (.putfield 12, 3) := by decide +kernel
theorem dX2_init_15 : decode cX2_init 15 = .ok (.aload_n 0, 1) := by decide +kernel
theorem dX2_init_16 : decode cX2_init 16 = .ok (.new 18, 3) := by decide +kernel
theorem dX2_init_19 : decode cX2_init 19 = .ok (.dup, 1) := by decide +kernel
theorem dX2_init_20 : decode cX2_init 20 = .ok (.invokespecial 20, 3) := by decide +kernel
theorem dX2_init_23 : decode cX2_init 23 = .ok (.putfield 21, 3) := by decide +kernel
theorem dX2_init_26 : decode cX2_init 26 = .ok (.aload_n 0, 1) := by decide +kernel
theorem dX2_init_27 : decode cX2_init 27 = .ok (.bipush 8, 2) := by decide +kernel
theorem dX2_init_29 : decode cX2_init 29 = .ok (.newarray .int, 2) := by decide +kernel
theorem dX2_init_31 : decode cX2_init 31 = .ok (.putfield 25, 3) := by decide +kernel
theorem dX2_init_34 : decode cX2_init 34 = .ok (.aload_n 0, 1) := by decide +kernel
theorem dX2_init_35 : decode cX2_init 35 = .ok (.bipush 7, 2) := by decide +kernel
theorem dX2_init_37 : decode cX2_init 37 = .ok (.newarray .int, 2) := by decide +kernel
theorem dX2_init_39 : decode cX2_init 39 = .ok (.putfield 29, 3) := by decide +kernel
theorem dX2_init_42 : decode cX2_init 42 = .ok (.return_, 1) := by decide +kernel
theorem dX2_after_0 : decode cX2_after 0 = .ok (.aload_n 0, 1) := by decide +kernel
theorem dX2_after_1 : decode cX2_after 1 = .ok (.getfield 21, 3) := by decide +kernel
theorem dX2_after_4 : decode cX2_after 4 = .ok (.aload_n 1, 1) := by decide +kernel
theorem dX2_after_5 : decode cX2_after 5 = .ok (.getfield 32, 3) := by decide +kernel
theorem dX2_after_8 : decode cX2_after 8 = .ok (.invokevirtual 37, 3) := by decide +kernel
theorem dX2_after_11 : decode cX2_after 11 = .ok (.aload_n 0, 1) := by decide +kernel
theorem dX2_after_12 : decode cX2_after 12 = .ok (.aload_n 1, 1) := by decide +kernel
theorem dX2_after_13 : decode cX2_after 13 = .ok (.getfield 41, 3) := by decide +kernel
theorem dX2_after_16 : decode cX2_after 16 = .ok (.aload_n 2, 1) := by decide +kernel
theorem dX2_after_17 : decode cX2_after 17 = .ok (.iload_n 3, 1) := by decide +kernel
theorem dX2_after_18 : decode cX2_after 18 = .ok (.invokevirtual 45, 3) := by decide +kernel
theorem dX2_after_21 : decode cX2_after 21 = .ok (.aload_n 0, 1) := by decide +kernel
theorem dX2_after_22 : decode cX2_after 22 = .ok (.getfield 21, 3) := by decide +kernel
theorem dX2_after_25 : decode cX2_after 25 = .ok (.areturn, 1) := by decide +kernel
theorem dX2_sailOn_0 : decode cX2_sailOn 0 = .ok (.iconst 0, 1) := by decide +kernel
theorem dX2_sailOn_1 : decode cX2_sailOn 1 = .ok (.istore 4, 2) := by decide +kernel
theorem dX2_sailOn_3 : decode cX2_sailOn 3 = .ok (.iload 4, 2) := by decide +kernel
theorem dX2_sailOn_5 : decode cX2_sailOn 5 = .ok (.iload_n 3, 1) := by decide +kernel
theorem dX2_sailOn_6 : decode cX2_sailOn 6 = .ok (.if_icmp .ge 24, 3) := by decide +kernel
theorem dX2_sailOn_9 : decode cX2_sailOn 9 = .ok (.aload_n 0, 1) := by decide +kernel
theorem dX2_sailOn_10 : decode cX2_sailOn 10 = .ok (.getfield 12, 3) := by decide +kernel
theorem dX2_sailOn_13 : decode cX2_sailOn 13 = .ok (.aload_n 1, 1) := by decide +kernel
theorem dX2_sailOn_14 : decode cX2_sailOn 14 = .ok (.aload_n 0, 1) := by decide +kernel
theorem dX2_sailOn_15 : decode cX2_sailOn 15 = .ok (.getfield 21, 3) := by decide +kernel
theorem dX2_sailOn_18 : decode cX2_sailOn 18 = .ok (.aload_n 2, 1) := by decide +kernel
theorem dX2_sailOn_19 : decode cX2_sailOn 19 = .ok (.iconst 0, 1) := by decide +kernel
theorem dX2_sailOn_20 : decode cX2_sailOn 20 = .ok (.invokevirtual 49, 3) := by decide +kernel
theorem dX2_sailOn_23 : decode cX2_sailOn 23 = .ok (.pop, 1) := by decide +kernel
theorem dX2_sailOn_24 : decode cX2_sailOn 24 = .ok (.iinc 4 1, 3) := by decide +kernel
theorem dX2_sailOn_27 : decode cX2_sailOn 27 = .ok (.goto (-24), 3) := by decide +kernel
theorem dX2_sailOn_30 : decode cX2_sailOn 30 = .ok (.return_, 1) := by decide +kernel
theorem dX2_hourAllOver_0 : decode cX2_hourAllOver 0 = .ok (.aload_n 0, 1) := by decide +kernel
theorem dX2_hourAllOver_1 : decode cX2_hourAllOver 1 = .ok (.getfield 21, 3) := by decide +kernel
theorem dX2_hourAllOver_4 : decode cX2_hourAllOver 4 = .ok (.aload_n 1, 1) := by decide +kernel
theorem dX2_hourAllOver_5 : decode cX2_hourAllOver 5 = .ok (.getfield 32, 3) := by decide +kernel
theorem dX2_hourAllOver_8 : decode cX2_hourAllOver 8 = .ok (.invokevirtual 37, 3) := by decide +kernel
theorem dX2_hourAllOver_11 : decode cX2_hourAllOver 11 = .ok (.iconst 0, 1) := by decide +kernel
theorem dX2_hourAllOver_12 : decode cX2_hourAllOver 12 = .ok (.istore_n 3, 1) := by decide +kernel
theorem dX2_hourAllOver_13 : decode cX2_hourAllOver 13 = .ok (.iload_n 3, 1) := by decide +kernel
theorem dX2_hourAllOver_14 : decode cX2_hourAllOver 14 = .ok (.bipush 100, 2) := by decide +kernel
theorem dX2_hourAllOver_16 : decode cX2_hourAllOver 16 = .ok (.if_icmp .ge 49, 3) := by decide +kernel
theorem dX2_hourAllOver_19 : decode cX2_hourAllOver 19 = .ok (.aload_n 0, 1) := by decide +kernel
theorem dX2_hourAllOver_20 : decode cX2_hourAllOver 20 = .ok (.getfield 21, 3) := by decide +kernel
theorem dX2_hourAllOver_23 : decode cX2_hourAllOver 23 = .ok (.aload_n 1, 1) := by decide +kernel
theorem dX2_hourAllOver_24 : decode cX2_hourAllOver 24 = .ok (.getfield 41, 3) := by decide +kernel
theorem dX2_hourAllOver_27 : decode cX2_hourAllOver 27 = .ok (.invokevirtual 53, 3) := by decide +kernel
theorem dX2_hourAllOver_30 : decode cX2_hourAllOver 30 = .ok (.ifCond .eq 11, 3) := by decide +kernel
theorem dX2_hourAllOver_33 : decode cX2_hourAllOver 33 = .ok (.aload_n 0, 1) := by decide +kernel
theorem dX2_hourAllOver_34 : decode cX2_hourAllOver 34 = .ok (.getfield 21, 3) := by decide +kernel
theorem dX2_hourAllOver_37 : decode cX2_hourAllOver 37 = .ok (.getfield 57, 3) := by decide +kernel
theorem dX2_hourAllOver_40 : decode cX2_hourAllOver 40 = .ok (.ireturn, 1) := by decide +kernel
theorem dX2_hourAllOver_41 : decode cX2_hourAllOver 41 = .ok (.aload_n 0, 1) := by decide +kernel
theorem dX2_hourAllOver_42 : decode cX2_hourAllOver 42 = .ok (.getfield 12, 3) := by decide +kernel
theorem dX2_hourAllOver_45 : decode cX2_hourAllOver 45 = .ok (.aload_n 1, 1) := by decide +kernel
theorem dX2_hourAllOver_46 : decode cX2_hourAllOver 46 = .ok (.getfield 41, 3) := by decide +kernel
theorem dX2_hourAllOver_49 : decode cX2_hourAllOver 49 = .ok (.aload_n 0, 1) := by decide +kernel
theorem dX2_hourAllOver_50 : decode cX2_hourAllOver 50 = .ok (.getfield 21, 3) := by decide +kernel
theorem dX2_hourAllOver_53 : decode cX2_hourAllOver 53 = .ok (.aload_n 2, 1) := by decide +kernel
theorem dX2_hourAllOver_54 : decode cX2_hourAllOver 54 = .ok (.iconst 0, 1) := by decide +kernel
theorem dX2_hourAllOver_55 : decode cX2_hourAllOver 55 = .ok (.invokevirtual 49, 3) := by decide +kernel
theorem dX2_hourAllOver_58 : decode cX2_hourAllOver 58 = .ok (.pop, 1) := by decide +kernel
theorem dX2_hourAllOver_59 : decode cX2_hourAllOver 59 = .ok (.iinc 3 1, 3) := by decide +kernel
theorem dX2_hourAllOver_62 : decode cX2_hourAllOver 62 = .ok (.goto (-49), 3) := by decide +kernel
theorem dX2_hourAllOver_65 : decode cX2_hourAllOver 65 = .ok (.bipush (-2), 2) := by decide +kernel
theorem dX2_hourAllOver_67 : decode cX2_hourAllOver 67 = .ok (.ireturn, 1) := by decide +kernel
theorem dX2_hourAboard_0 : decode cX2_hourAboard 0 = .ok (.aload_n 0, 1) := by decide +kernel
theorem dX2_hourAboard_1 : decode cX2_hourAboard 1 = .ok (.getfield 21, 3) := by decide +kernel
theorem dX2_hourAboard_4 : decode cX2_hourAboard 4 = .ok (.aload_n 1, 1) := by decide +kernel
theorem dX2_hourAboard_5 : decode cX2_hourAboard 5 = .ok (.getfield 32, 3) := by decide +kernel
theorem dX2_hourAboard_8 : decode cX2_hourAboard 8 = .ok (.invokevirtual 37, 3) := by decide +kernel
theorem dX2_hourAboard_11 : decode cX2_hourAboard 11 = .ok (.iconst 0, 1) := by decide +kernel
theorem dX2_hourAboard_12 : decode cX2_hourAboard 12 = .ok (.istore 4, 2) := by decide +kernel
theorem dX2_hourAboard_14 : decode cX2_hourAboard 14 = .ok (.iload 4, 2) := by decide +kernel
theorem dX2_hourAboard_16 : decode cX2_hourAboard 16 = .ok (.bipush 100, 2) := by decide +kernel
theorem dX2_hourAboard_18 : decode cX2_hourAboard 18 = .ok (.if_icmp .ge 50, 3) := by decide +kernel
theorem dX2_hourAboard_21 : decode cX2_hourAboard 21 = .ok (.aload_n 0, 1) := by decide +kernel
theorem dX2_hourAboard_22 : decode cX2_hourAboard 22 = .ok (.getfield 21, 3) := by decide +kernel
theorem dX2_hourAboard_25 : decode cX2_hourAboard 25 = .ok (.getfield 57, 3) := by decide +kernel
theorem dX2_hourAboard_28 : decode cX2_hourAboard 28 = .ok (.istore 5, 2) := by decide +kernel
theorem dX2_hourAboard_30 : decode cX2_hourAboard 30 = .ok (.aload_n 0, 1) := by decide +kernel
theorem dX2_hourAboard_31 : decode cX2_hourAboard 31 = .ok (.getfield 12, 3) := by decide +kernel
theorem dX2_hourAboard_34 : decode cX2_hourAboard 34 = .ok (.aload_n 1, 1) := by decide +kernel
theorem dX2_hourAboard_35 : decode cX2_hourAboard 35 = .ok (.getfield 41, 3) := by decide +kernel
theorem dX2_hourAboard_38 : decode cX2_hourAboard 38 = .ok (.aload_n 0, 1) := by decide +kernel
theorem dX2_hourAboard_39 : decode cX2_hourAboard 39 = .ok (.getfield 21, 3) := by decide +kernel
theorem dX2_hourAboard_42 : decode cX2_hourAboard 42 = .ok (.aload_n 2, 1) := by decide +kernel
theorem dX2_hourAboard_43 : decode cX2_hourAboard 43 = .ok (.iconst 0, 1) := by decide +kernel
theorem dX2_hourAboard_44 : decode cX2_hourAboard 44 = .ok (.invokevirtual 49, 3) := by decide +kernel
theorem dX2_hourAboard_47 : decode cX2_hourAboard 47 = .ok (.istore 6, 2) := by decide +kernel
theorem dX2_hourAboard_49 : decode cX2_hourAboard 49 = .ok (.iload 6, 2) := by decide +kernel
theorem dX2_hourAboard_51 : decode cX2_hourAboard 51 = .ok (.iload_n 3, 1) := by decide +kernel
theorem dX2_hourAboard_52 : decode cX2_hourAboard 52 = .ok (.ishr, 1) := by decide +kernel
theorem dX2_hourAboard_53 : decode cX2_hourAboard 53 = .ok (.iconst 1, 1) := by decide +kernel
theorem dX2_hourAboard_54 : decode cX2_hourAboard 54 = .ok (.iand, 1) := by decide +kernel
theorem dX2_hourAboard_55 : decode cX2_hourAboard 55 = .ok (.iconst 1, 1) := by decide +kernel
theorem dX2_hourAboard_56 : decode cX2_hourAboard 56 = .ok (.if_icmp .ne 6, 3) := by decide +kernel
theorem dX2_hourAboard_59 : decode cX2_hourAboard 59 = .ok (.iload 5, 2) := by decide +kernel
theorem dX2_hourAboard_61 : decode cX2_hourAboard 61 = .ok (.ireturn, 1) := by decide +kernel
theorem dX2_hourAboard_62 : decode cX2_hourAboard 62 = .ok (.iinc 4 1, 3) := by decide +kernel
theorem dX2_hourAboard_65 : decode cX2_hourAboard 65 = .ok (.goto (-51), 3) := by decide +kernel
theorem dX2_hourAboard_68 : decode cX2_hourAboard 68 = .ok (.bipush (-2), 2) := by decide +kernel
theorem dX2_hourAboard_70 : decode cX2_hourAboard 70 = .ok (.ireturn, 1) := by decide +kernel
theorem dX2_steadyWays_0 : decode cX2_steadyWays 0 = .ok (.iconst 0, 1) := by decide +kernel
theorem dX2_steadyWays_1 : decode cX2_steadyWays 1 = .ok (.istore 6, 2) := by decide +kernel
theorem dX2_steadyWays_3 : decode cX2_steadyWays 3 = .ok (.iload 6, 2) := by decide +kernel
theorem dX2_steadyWays_5 : decode cX2_steadyWays 5 = .ok (.iconst 4, 1) := by decide +kernel
theorem dX2_steadyWays_6 : decode cX2_steadyWays 6 = .ok (.if_icmp .ge 111, 3) := by decide +kernel
theorem dX2_steadyWays_9 : decode cX2_steadyWays 9 = .ok (.aload_n 0, 1) := by decide +kernel
theorem dX2_steadyWays_10 : decode cX2_steadyWays 10 = .ok (.getfield 21, 3) := by decide +kernel
theorem dX2_steadyWays_13 : decode cX2_steadyWays 13 = .ok (.aload_n 1, 1) := by decide +kernel
theorem dX2_steadyWays_14 : decode cX2_steadyWays 14 = .ok (.getfield 32, 3) := by decide +kernel
theorem dX2_steadyWays_17 : decode cX2_steadyWays 17 = .ok (.invokevirtual 37, 3) := by decide +kernel
theorem dX2_steadyWays_20 : decode cX2_steadyWays 20 = .ok (.aload_n 0, 1) := by decide +kernel
theorem dX2_steadyWays_21 : decode cX2_steadyWays 21 = .ok (.getfield 21, 3) := by decide +kernel
theorem dX2_steadyWays_24 : decode cX2_steadyWays 24 = .ok (.getfield 61, 3) := by decide +kernel
theorem dX2_steadyWays_27 : decode cX2_steadyWays 27 = .ok (.iload_n 3, 1) := by decide +kernel
theorem dX2_steadyWays_28 : decode cX2_steadyWays 28 = .ok (.dup2, 1) := by decide +kernel
theorem dX2_steadyWays_29 : decode cX2_steadyWays 29 = .ok (.iaload, 1) := by decide +kernel
theorem dX2_steadyWays_30 : decode cX2_steadyWays 30 = .ok (.iload 6, 2) := by decide +kernel
theorem dX2_steadyWays_32 : decode cX2_steadyWays 32 = .ok (.iconst 2, 1) := by decide +kernel
theorem dX2_steadyWays_33 : decode cX2_steadyWays 33 = .ok (.idiv, 1) := by decide +kernel
theorem dX2_steadyWays_34 : decode cX2_steadyWays 34 = .ok (.ishr, 1) := by decide +kernel
theorem dX2_steadyWays_35 : decode cX2_steadyWays 35 = .ok (.iastore, 1) := by decide +kernel
theorem dX2_steadyWays_36 : decode cX2_steadyWays 36 = .ok (.aload_n 0, 1) := by decide +kernel
theorem dX2_steadyWays_37 : decode cX2_steadyWays 37 = .ok (.getfield 21, 3) := by decide +kernel
theorem dX2_steadyWays_40 : decode cX2_steadyWays 40 = .ok (.getfield 61, 3) := by decide +kernel
theorem dX2_steadyWays_43 : decode cX2_steadyWays 43 = .ok (.iload 4, 2) := by decide +kernel
theorem dX2_steadyWays_45 : decode cX2_steadyWays 45 = .ok (.dup2, 1) := by decide +kernel
theorem dX2_steadyWays_46 : decode cX2_steadyWays 46 = .ok (.iaload, 1) := by decide +kernel
theorem dX2_steadyWays_47 : decode cX2_steadyWays 47 = .ok (.iload 6, 2) := by decide +kernel
theorem dX2_steadyWays_49 : decode cX2_steadyWays 49 = .ok (.iconst 2, 1) := by decide +kernel
theorem dX2_steadyWays_50 : decode cX2_steadyWays 50 = .ok (.irem, 1) := by decide +kernel
theorem dX2_steadyWays_51 : decode cX2_steadyWays 51 = .ok (.ishr, 1) := by decide +kernel
theorem dX2_steadyWays_52 : decode cX2_steadyWays 52 = .ok (.iastore, 1) := by decide +kernel
theorem dX2_steadyWays_53 : decode cX2_steadyWays 53 = .ok (.aload_n 0, 1) := by decide +kernel
theorem dX2_steadyWays_54 : decode cX2_steadyWays 54 = .ok (.aload_n 1, 1) := by decide +kernel
theorem dX2_steadyWays_55 : decode cX2_steadyWays 55 = .ok (.getfield 41, 3) := by decide +kernel
theorem dX2_steadyWays_58 : decode cX2_steadyWays 58 = .ok (.aload_n 2, 1) := by decide +kernel
theorem dX2_steadyWays_59 : decode cX2_steadyWays 59 = .ok (.iload 5, 2) := by decide +kernel
theorem dX2_steadyWays_61 : decode cX2_steadyWays 61 = .ok (.invokevirtual 45, 3) := by decide +kernel
theorem dX2_steadyWays_64 : decode cX2_steadyWays 64 = .ok (.aload_n 0, 1) := by decide +kernel
theorem dX2_steadyWays_65 : decode cX2_steadyWays 65 = .ok (.getfield 25, 3) := by decide +kernel
theorem dX2_steadyWays_68 : decode cX2_steadyWays 68 = .ok (.iload 6, 2) := by decide +kernel
theorem dX2_steadyWays_70 : decode cX2_steadyWays 70 = .ok (.iconst 3, 1) := by decide +kernel
theorem dX2_steadyWays_71 : decode cX2_steadyWays 71 = .ok (.aload_n 0, 1) := by decide +kernel
theorem dX2_steadyWays_72 : decode cX2_steadyWays 72 = .ok (.getfield 21, 3) := by decide +kernel
theorem dX2_steadyWays_75 : decode cX2_steadyWays 75 = .ok (.iload_n 3, 1) := by decide +kernel
theorem dX2_steadyWays_76 : decode cX2_steadyWays 76 = .ok (.invokevirtual 64, 3) := by decide +kernel
theorem dX2_steadyWays_79 : decode cX2_steadyWays 79 = .ok (.imul, 1) := by decide +kernel
theorem dX2_steadyWays_80 : decode cX2_steadyWays 80 = .ok (.iload 6, 2) := by decide +kernel
theorem dX2_steadyWays_82 : decode cX2_steadyWays 82 = .ok (.iconst 2, 1) := by decide +kernel
theorem dX2_steadyWays_83 : decode cX2_steadyWays 83 = .ok (.idiv, 1) := by decide +kernel
theorem dX2_steadyWays_84 : decode cX2_steadyWays 84 = .ok (.isub, 1) := by decide +kernel
theorem dX2_steadyWays_85 : decode cX2_steadyWays 85 = .ok (.iastore, 1) := by decide +kernel
theorem dX2_steadyWays_86 : decode cX2_steadyWays 86 = .ok (.aload_n 0, 1) := by decide +kernel
theorem dX2_steadyWays_87 : decode cX2_steadyWays 87 = .ok (.getfield 25, 3) := by decide +kernel
theorem dX2_steadyWays_90 : decode cX2_steadyWays 90 = .ok (.iconst 4, 1) := by decide +kernel
theorem dX2_steadyWays_91 : decode cX2_steadyWays 91 = .ok (.iload 6, 2) := by decide +kernel
theorem dX2_steadyWays_93 : decode cX2_steadyWays 93 = .ok (.iadd, 1) := by decide +kernel
theorem dX2_steadyWays_94 : decode cX2_steadyWays 94 = .ok (.iconst 3, 1) := by decide +kernel
theorem dX2_steadyWays_95 : decode cX2_steadyWays 95 = .ok (.aload_n 0, 1) := by decide +kernel
theorem dX2_steadyWays_96 : decode cX2_steadyWays 96 = .ok (.getfield 21, 3) := by decide +kernel
theorem dX2_steadyWays_99 : decode cX2_steadyWays 99 = .ok (.iload 4, 2) := by decide +kernel
theorem dX2_steadyWays_101 : decode cX2_steadyWays 101 = .ok (.invokevirtual 64, 3) := by decide +kernel
theorem dX2_steadyWays_104 : decode cX2_steadyWays 104 = .ok (.imul, 1) := by decide +kernel
theorem dX2_steadyWays_105 : decode cX2_steadyWays 105 = .ok (.iload 6, 2) := by decide +kernel
theorem dX2_steadyWays_107 : decode cX2_steadyWays 107 = .ok (.iconst 2, 1) := by decide +kernel
theorem dX2_steadyWays_108 : decode cX2_steadyWays 108 = .ok (.irem, 1) := by decide +kernel
theorem dX2_steadyWays_109 : decode cX2_steadyWays 109 = .ok (.isub, 1) := by decide +kernel
theorem dX2_steadyWays_110 : decode cX2_steadyWays 110 = .ok (.iastore, 1) := by decide +kernel
theorem dX2_steadyWays_111 : decode cX2_steadyWays 111 = .ok (.iinc 6 1, 3) := by decide +kernel
theorem dX2_steadyWays_114 : decode cX2_steadyWays 114 = .ok (.goto (-111), 3) := by decide +kernel
theorem dX2_steadyWays_117 : decode cX2_steadyWays 117 = .ok (.iconst 0, 1) := by decide +kernel
theorem dX2_steadyWays_118 : decode cX2_steadyWays 118 = .ok (.istore 6, 2) := by decide +kernel
theorem dX2_steadyWays_120 : decode cX2_steadyWays 120 = .ok (.iconst 0, 1) := by decide +kernel
theorem dX2_steadyWays_121 : decode cX2_steadyWays 121 = .ok (.istore 7, 2) := by decide +kernel
theorem dX2_steadyWays_123 : decode cX2_steadyWays 123 = .ok (.iload 7, 2) := by decide +kernel
theorem dX2_steadyWays_125 : decode cX2_steadyWays 125 = .ok (.iconst 4, 1) := by decide +kernel
theorem dX2_steadyWays_126 : decode cX2_steadyWays 126 = .ok (.if_icmp .ge 60, 3) := by decide +kernel
theorem dX2_steadyWays_129 : decode cX2_steadyWays 129 = .ok (.aload_n 0, 1) := by decide +kernel
theorem dX2_steadyWays_130 : decode cX2_steadyWays 130 = .ok (.getfield 25, 3) := by decide +kernel
theorem dX2_steadyWays_133 : decode cX2_steadyWays 133 = .ok (.iload 7, 2) := by decide +kernel
theorem dX2_steadyWays_135 : decode cX2_steadyWays 135 = .ok (.iaload, 1) := by decide +kernel
theorem dX2_steadyWays_136 : decode cX2_steadyWays 136 = .ok (.aload_n 0, 1) := by decide +kernel
theorem dX2_steadyWays_137 : decode cX2_steadyWays 137 = .ok (.getfield 25, 3) := by decide +kernel
theorem dX2_steadyWays_140 : decode cX2_steadyWays 140 = .ok (.iload 7, 2) := by decide +kernel
theorem dX2_steadyWays_142 : decode cX2_steadyWays 142 = .ok (.iconst 2, 1) := by decide +kernel
theorem dX2_steadyWays_143 : decode cX2_steadyWays 143 = .ok (.ixor, 1) := by decide +kernel
theorem dX2_steadyWays_144 : decode cX2_steadyWays 144 = .ok (.iaload, 1) := by decide +kernel
theorem dX2_steadyWays_145 : decode cX2_steadyWays 145 = .ok (.if_icmp .lt 35, 3) := by decide +kernel
theorem dX2_steadyWays_148 : decode cX2_steadyWays 148 = .ok (.aload_n 0, 1) := by decide +kernel
theorem dX2_steadyWays_149 : decode cX2_steadyWays 149 = .ok (.getfield 25, 3) := by decide +kernel
theorem dX2_steadyWays_152 : decode cX2_steadyWays 152 = .ok (.iconst 4, 1) := by decide +kernel
theorem dX2_steadyWays_153 : decode cX2_steadyWays 153 = .ok (.iload 7, 2) := by decide +kernel
theorem dX2_steadyWays_155 : decode cX2_steadyWays 155 = .ok (.iadd, 1) := by decide +kernel
theorem dX2_steadyWays_156 : decode cX2_steadyWays 156 = .ok (.iaload, 1) := by decide +kernel
theorem dX2_steadyWays_157 : decode cX2_steadyWays 157 = .ok (.aload_n 0, 1) := by decide +kernel
theorem dX2_steadyWays_158 : decode cX2_steadyWays 158 = .ok (.getfield 25, 3) := by decide +kernel
theorem dX2_steadyWays_161 : decode cX2_steadyWays 161 = .ok (.iconst 4, 1) := by decide +kernel
theorem dX2_steadyWays_162 : decode cX2_steadyWays 162 = .ok (.iload 7, 2) := by decide +kernel
theorem dX2_steadyWays_164 : decode cX2_steadyWays 164 = .ok (.iconst 1, 1) := by decide +kernel
theorem dX2_steadyWays_165 : decode cX2_steadyWays 165 = .ok (.ixor, 1) := by decide +kernel
theorem dX2_steadyWays_166 : decode cX2_steadyWays 166 = .ok (.iadd, 1) := by decide +kernel
theorem dX2_steadyWays_167 : decode cX2_steadyWays 167 = .ok (.iaload, 1) := by decide +kernel
theorem dX2_steadyWays_168 : decode cX2_steadyWays 168 = .ok (.if_icmp .lt 12, 3) := by decide +kernel
theorem dX2_steadyWays_171 : decode cX2_steadyWays 171 = .ok (.iload 6, 2) := by decide +kernel
theorem dX2_steadyWays_173 : decode cX2_steadyWays 173 = .ok (.iconst 1, 1) := by decide +kernel
theorem dX2_steadyWays_174 : decode cX2_steadyWays 174 = .ok (.iload 7, 2) := by decide +kernel
theorem dX2_steadyWays_176 : decode cX2_steadyWays 176 = .ok (.ishl, 1) := by decide +kernel
theorem dX2_steadyWays_177 : decode cX2_steadyWays 177 = .ok (.ior, 1) := by decide +kernel
theorem dX2_steadyWays_178 : decode cX2_steadyWays 178 = .ok (.istore 6, 2) := by decide +kernel
theorem dX2_steadyWays_180 : decode cX2_steadyWays 180 = .ok (.iinc 7 1, 3) := by decide +kernel
